/-! SWITCHES; System.arraycopy -/
def SwK (P : Nat → Prop) (x : Int) : Int → List Nat → Prop
  | _, [] => True
  | v, t :: ts => (x = v → P t) ∧ SwK P x (v + 1) ts
theorem SwK_spec {P : Nat → Prop} {x : Int} : ∀ {ts : List Nat} {v : Int} {i t : Nat}, SwK P x v ts → ts[i]? = some t → x = v + i → P t
  | [], _, i, t, _, h, _ => by simp at h
  | a :: ts, v, 0, t, h, hi, hx => by
    simp at hi
    subst hi
    exact h.1 (by simpa using hx)
  | a :: ts, v, i + 1, t, h, hi, hx => SwK_spec (ts := ts) h.2 (by simpa using hi) (by omega)
section WKS2
variable {D : va_G} {tc : Nat → ClassId} {base nL : Nat} {own : String} {cc : ByteArray} {p : Program} {l : Launch} {e : Env} {R : Room} {s : State} {m : MethodId} {args : Array Value} {below : List Frame} {meth : Method} {c : Code} {cells slots : Nat} {Q : State → Prop} {pc : Nat} {L : List (Option AV)} {st : List AV} {h : AH}
theorem k_tsw (C : Cx D tc base own cc nL p s m args meth c) {x dflt lo hi : Int} {offs : Array Int} {len dt : Nat} (ts : List Nat) (hd : decode cc pc = .ok (.tableswitch dflt lo hi offs, len)) (hx : r32 x) (hsz : ((offs.size : Nat) : Int) = hi - lo + 1) (hts : offs.toList.map (fun o => (pc : Int) + o) = ts.map (fun t : Nat => (t : Int))) (hdt : (pc : Int) + dflt = (dt : Int))
    (kin : SwK (fun t => Wk D tc base nL p l e R s m args below meth c cells slots Q (t) (L) (st) (h)) x lo ts) (kout : (x < lo ∨ hi < x) → Wk D tc base nL p l e R s m args below meth c cells slots Q (dt) (L) (st) (h)) : Wk D tc base nL p l e R s m args below meth c cells slots Q (pc) (L) (aI x :: st) (h) := by
  intro H locs ls hR hS hL
  by_cases hc : x < lo ∨ hi < x
  · exact lv_tableOut C.1 C.2.1 hd (by rw [zi_toInt hx]; exact hc) hdt (kout hc H locs ls hR hS hL)
  · have hi' : (x - lo).toNat < offs.size := by omega
    have hl : offs.toList.length = ts.length := by
      have := congrArg List.length hts
      simpa using this
    have h1 : offs[(x - lo).toNat]? = some offs[(x - lo).toNat] := Array.getElem?_eq_getElem hi'
    have hlt : (x - lo).toNat < ts.length := by rw [← hl]; simpa using hi'
    have h2 : ts[(x - lo).toNat]? = some ts[(x - lo).toNat] := List.getElem?_eq_getElem hlt
    have h3 : (pc : Int) + offs[(x - lo).toNat] = ((ts[(x - lo).toNat] : Nat) : Int) := by
      have h4 : (offs.toList.map (fun o => (pc : Int) + o))[(x - lo).toNat]? = (ts.map (fun t : Nat => (t : Int)))[(x - lo).toNat]? := by rw [hts]
      rw [List.getElem?_map, List.getElem?_map, h2, Array.getElem?_toList, h1] at h4
      simpa using h4
    exact lv_tableIn C.1 C.2.1 hd (by rw [zi_toInt hx]; omega) (by rw [zi_toInt hx]; omega) (by rw [zi_toInt hx]; exact h1) h3 (SwK_spec kin h2 (by omega) H locs ls hR hS hL)
theorem k_lsw (C : Cx D tc base own cc nL p s m args meth c) {x dflt o0 o1 : Int} {len dt t0 t1 : Nat} (hd : decode cc pc = .ok (.lookupswitch dflt #[(0, o0), (1, o1)], len)) (hx : r32 x) (h0 : (pc : Int) + o0 = (t0 : Int)) (h1 : (pc : Int) + o1 = (t1 : Int)) (hdt : (pc : Int) + dflt = (dt : Int))
    (k0 : x = 0 → Wk D tc base nL p l e R s m args below meth c cells slots Q (t0) (L) (st) (h)) (k1 : x = 1 → Wk D tc base nL p l e R s m args below meth c cells slots Q (t1) (L) (st) (h)) (kout : (¬ x = 0 ∧ ¬ x = 1) → Wk D tc base nL p l e R s m args below meth c cells slots Q (dt) (L) (st) (h)) : Wk D tc base nL p l e R s m args below meth c cells slots Q (pc) (L) (aI x :: st) (h) := by
  intro H locs ls hR hS hL
  have hp : ((#[((0 : Int), o0), (1, o1)] : Array (Int × Int)).toList.zip ((#[((0 : Int), o0), (1, o1)] : Array (Int × Int)).toList.drop 1)).all (fun (a, next) => a.1 < next.1) = true := by simp
  by_cases q0 : x = 0
  · exact lv_lookup C.1 C.2.1 hd hp (by rw [zi_toInt hx, q0]; simp [Op.lookupswitch.offset]) h0 (k0 q0 H locs ls hR hS hL)
  · by_cases q1 : x = 1
    · exact lv_lookup C.1 C.2.1 hd hp (by rw [zi_toInt hx, q1]; simp [Op.lookupswitch.offset]) h1 (k1 q1 H locs ls hR hS hL)
    · refine lv_lookup C.1 C.2.1 hd hp (off := dflt) ?_ hdt (kout ⟨q0, q1⟩ H locs ls hR hS hL)
      rw [zi_toInt hx]
      simp [Op.lookupswitch.offset, Ne.symm q0, Ne.symm q1, q0, q1]
/-- all cells but two, as a world of the kit's -/
def wsO (tc : Nat → ClassId) (h : AH) (a0 a n : Nat) : va_W := (List.range n).filterMap (fun b => if b = a0 ∨ b = a then none else (h b).map (fun e => (b, ce tc e)))
theorem wsO_mem {tc : Nat → ClassId} {h : AH} {a0 a n : Nat} {q : Nat × va_E} : q ∈ wsO tc h a0 a n ↔ ∃ (b : Nat) (e : AE), b < n ∧ b ≠ a0 ∧ b ≠ a ∧ h b = some e ∧ q = (b, ce tc e) := by
  unfold wsO
  rw [List.mem_filterMap]
  constructor
  · rintro ⟨b, hb, hq⟩
    by_cases hc : b = a0 ∨ b = a
    · rw [if_pos hc] at hq
      cases hq
    · rw [if_neg hc] at hq
      cases he : h b with
      | none => rw [he] at hq; cases hq
      | some e =>
        rw [he] at hq
        cases hq
        exact ⟨b, e, List.mem_range.mp hb, fun z => hc (Or.inl z), fun z => hc (Or.inr z), he, rfl⟩
  · rintro ⟨b, e, hb, h1, h2, he, rfl⟩
    exact ⟨b, List.mem_range.mpr hb, by rw [if_neg (fun z => z.elim h1 h2), he]; rfl⟩
theorem wsO_pw (tc : Nat → ClassId) (h : AH) (a0 a n : Nat) : (wsO tc h a0 a n).Pairwise (fun p q => p.1 ≠ q.1) := by
  unfold wsO
  rw [List.pairwise_filterMap]
  refine List.Pairwise.imp ?_ List.pairwise_lt_range
  intro b b' hlt p hp q hq
  have one : ∀ (b : Nat) (p : Nat × va_E), (if b = a0 ∨ b = a then none else (h b).map (fun e => (b, ce tc e))) = some p → p.1 = b := by
    intro b p hp
    split at hp
    · cases hp
    · cases he : h b with
      | none => rw [he] at hp; cases hp
      | some e => rw [he] at hp; cases hp; rfl
  rw [one b p hp, one b' q hq]
  omega
theorem va_D_pw {A : Nat → Prop} {ws : va_W} (hp : ws.Pairwise (fun p q => p.1 ≠ q.1)) (hA : ∀ q ∈ ws, A q.1) : va_D A ws := by
  refine ⟨fun i j p q hi hj hpq => ?_, fun k q hk => hA q (List.mem_of_getElem? hk)⟩
  obtain ⟨li, ei⟩ := List.getElem?_eq_some_iff.mp hi
  obtain ⟨lj, ej⟩ := List.getElem?_eq_some_iff.mp hj
  rcases Nat.lt_trichotomy i j with hlt | heq | hgt
  · exact absurd (by rw [ei, ej]; exact hpq) (List.pairwise_iff_getElem.mp hp i j li lj hlt)
  · exact heq
  · exact absurd (by rw [ei, ej]; exact hpq.symm) (List.pairwise_iff_getElem.mp hp j i lj li hgt)
def cpy (f g : Int → Int) (n : Int) : Int → Int := fun k => if k < n then f k else g k
/-- System.arraycopy of the first n numbers of one row into another -/
theorem k_acopy (C : Cx D tc base own cc nL p s m args meth c) {idx a0 a n0 n1 : Nat} {f g : Int → Int} {n : Int} (hml : Cond.methodLink own idx arraycopyName ∈ gl_w) (h0 : h a0 = some (eA 0 n0 f)) (h1 : h a = some (eA 0 n1 g)) (hne : a0 ≠ a) (hn : 0 ≤ n) (hn0 : n ≤ n0) (hn1 : n ≤ n1) (hb : n < 2147483648) (hini : Cond.initialized "java/lang/System" ∈ gl_w)
    (hframes : 1 ≤ R.frames) (hlocals : ((st.map cv).map fun v => v.category).sum + (nativeFrameWords "java/lang/System" "arraycopy" 5 + 11) ≤ R.locals)
    (hd : decode cc pc = .ok (.invokestatic idx, 3)) (k : Wk D tc base nL p l e R s m args below meth c cells slots Q (pc + 3) (L) (st) (hs h a (eA 0 n1 (cpy f g n)))) : Wk D tc base nL p l e R s m args below meth c cells slots Q (pc) (L) (aI n :: aI 0 :: aR a :: aI 0 :: aR a0 :: st) (h) := by
  intro H locs ls hR hS hL
  have hts := C.2.2.2.2.1
  have hP : va_P D vwCl ((a0, ce tc (eA 0 n0 f)) :: (a, ce tc (eA 0 n1 g)) :: wsO tc h a0 a H.size) H := by
    intro i q hi
    match i, hi with
    | 0, hi => cases hi; exact (hR a0 _ h0).2
    | 1, hi => cases hi; exact (hR a _ h1).2
    | i + 2, hi =>
      obtain ⟨b, e', hb, -, -, he, rfl⟩ := wsO_mem.mp (List.mem_of_getElem? (show (wsO tc h a0 a H.size)[i]? = some q from hi))
      exact (hR b e' he).2
  have hD : va_D (fun q => base ≤ q) ((a0, ce tc (eA 0 n0 f)) :: (a, ce tc (eA 0 n1 g)) :: wsO tc h a0 a H.size) := by
    refine va_D_pw ?_ ?_
    · refine List.pairwise_cons.mpr ⟨fun q hq => ?_, List.pairwise_cons.mpr ⟨fun q hq => ?_, wsO_pw tc h a0 a H.size⟩⟩
      · rcases List.mem_cons.mp hq with rfl | hq
        · exact hne
        · obtain ⟨b, e', -, h1, -, -, rfl⟩ := wsO_mem.mp hq
          exact fun z => h1 z.symm
      · obtain ⟨b, e', -, -, h1, -, rfl⟩ := wsO_mem.mp hq
        exact fun z => h1 z.symm
    · intro q hq
      rcases List.mem_cons.mp hq with rfl | hq
      · exact (hR a0 _ h0).1
      · rcases List.mem_cons.mp hq with rfl | hq
        · exact (hR a _ h1).1
        · obtain ⟨b, e', -, -, -, he, rfl⟩ := wsO_mem.mp hq
          exact (hR b e' he).1
  have z0 : (zi 0).toNatClampNeg = 0 := by rw [zi_clamp (by omega) (by omega)]; rfl
  have zn : (zi n).toNatClampNeg = n.toNat := zi_clamp hn hb
  have nl : ∀ z : Int, 0 ≤ z → z < 2147483648 → ¬ zi z < 0 := fun z q0 q1 hz => by
    rw [← zi_0, zi_lt ⟨by omega, q1⟩ ⟨by omega, by omega⟩] at hz
    omega
  refine va_copyi (f := fun k => zi (f k)) (g := fun k => zi (g k)) (ty := .int) C.1 C.2.1 (by rw [hL.1]; exact C.2.2.1) C.2.2.2.1 (hts _ hml) (hts _ na_arraycopy) (hts _ sm_arraycopy) (hts _ hini) C.2.2.2.2.2.1 hP hD hS 0 1 0 0 rfl rfl rfl rfl rfl (nl 0 (by omega) (by omega)) (nl 0 (by omega) (by omega)) (nl n hn hb) (by rw [z0, zn]; omega) (by rw [z0, zn]; omega) (fun i hi => rfl) hframes hlocals hd (fun H1 locs1 hP1 hD1 hS1 => ?_)
  refine k H1 locs1 ls ?_ hS1 hL
  intro b e' hb'
  have hget : ∀ (i : Nat) (q : Nat × va_E), ((a0, ce tc (eA 0 n0 f)) :: (a, (Sum.inl (tc 0, n1, Sum.inl (va_cpy (fun k : Nat => zi (f k)) (fun k : Nat => zi (g k)) (zi 0).toNatClampNeg (zi 0).toNatClampNeg (zi n).toNatClampNeg)) : va_E)) :: wsO tc h a0 a H.size)[i]? = some q → va_at D vwCl q H1 := hP1
  by_cases hba : b = a
  · subst hba
    rw [hs_eq] at hb'
    cases hb'
    refine ⟨(hR b _ h1).1, ?_⟩
    have := hget 1 _ rfl
    rw [z0, zn] at this
    have e2 : (va_cpy (fun k : Nat => zi (f k)) (fun k : Nat => zi (g k)) 0 0 n.toNat) = (fun k : Nat => zi (cpy f g n k)) := by
      funext k
      simp only [va_cpy, cpy]
      by_cases hk : (k : Int) < n
      · rw [if_pos (by omega), if_pos hk]
        congr 2
        omega
      · rw [if_neg (by omega), if_neg hk]
    rw [e2] at this
    exact this
  · simp only [hs, hba, if_false] at hb'
    refine ⟨(hR b e' hb').1, ?_⟩
    by_cases hb0 : b = a0
    · subst hb0
      rw [h0] at hb'
      cases hb'
      exact hget 0 _ rfl
    · have hlt : b < H.size := (hR b e' hb').2.lt
      obtain ⟨i, hi⟩ := List.getElem?_of_mem (wsO_mem.mpr ⟨b, e', hlt, hb0, hba, hb', rfl⟩)
      exact hget (i + 2) _ hi
end WKS2

