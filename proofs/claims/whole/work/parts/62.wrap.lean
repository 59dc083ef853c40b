/-! THE LAW'S OWN METHODS: a call of the class within 'try' -/
abbrev wsH (y : MethodName) (bytes : ByteArray) (maxL : Nat) (hh : List (Nat × Nat × Nat × Nat)) : List Cond := .codeWith y bytes maxL (some .int) hh :: gl_w
def CW (l : Launch) (D : va_G) (tc : Nat → ClassId) (base : Nat) (y : MethodName) (bytes : ByteArray) (maxL : Nat) (hh : List (Nat × Nat × Nat × Nat)) (as : List AV) (h : AH) (post : Option AV → AH → Prop) : Prop :=
  Met l y (wsH y bytes maxL hh) (lvX 8) (va_Pc (as.map cv) (fun U => Px D tc base h U ∧ PE base U)) (Qx D tc base post) 1 6 (fun q => base ≤ q)
theorem CW.of {l : Launch} {D : va_G} {tc : Nat → ClassId} {base : Nat} {y : MethodName} {bytes : ByteArray} {maxL : Nat} {hh : List (Nat × Nat × Nat × Nat)} {as : List AV} {h : AH} {post : Option AV → AH → Prop} (L0 : List (Option AV))
    (hy : plainName y.cls = true) (hL0 : asc 0 L0 = lv_args 0 (as.map cv)) (hlen : (lg_sl (as.map cv)).length ≤ maxL)
    (body : ∀ (p : Program) (e : Env) (s : State) (m : MethodId) (args : Array Value) (below : List Frame) (meth : Method) (c : Code), Cx D tc base y.cls bytes maxL p s m args meth c → PE base s → c.exceptionTable.toList = tableOf hh → meth.sig.returnType = some .int →
      Wk D tc base maxL p l e (lvX 8) s m args below meth c 0 0 (MQ below (Qx D tc base post) args s 1 6 (fun q => base ≤ q)) 0 L0 [] h) : CW l D tc base y bytes maxL hh as h post := by
  refine va_MetW (cc := bytes) (maxL := maxL) (ret := some .int) (hh := hh) hy rfl ?_
  intro p e s m args below meth c s₁ B hml hv
  obtain ⟨rfl, ⟨hb0, hR, hK, hF⟩, hE⟩ := hv
  have hts := atoms_spec (ws := wsH y bytes maxL hh) B.pre
  have C : Cx D tc base y.cls bytes maxL p s m (as.map cv).toArray meth c := ⟨B.exec, B.bytes, hml, findClass_of_methodNamed B.named, fun w hw => hts w (List.mem_cons_of_mem _ hw), hK, B.notSynchronized, hb0, hF⟩
  rw [lg_entry_eq]
  have hl := lv_entry (as.map cv) (n := maxL) hlen
  rw [← hL0] at hl
  exact body p e s m _ below meth c C hE (vx_table (x := y) B (hts _ List.mem_cons_self)) B.returns s.heap [] _ hR va_S.rf hl
section WKW
variable {D : va_G} {tc : Nat → ClassId} {base nL : Nat} {own : String} {cc : ByteArray} {p : Program} {l : Launch} {e : Env} {R : Room} {s : State} {m : MethodId} {args : Array Value} {below : List Frame} {meth : Method} {c : Code} {cells slots : Nat} {Q : State → Prop} {pc : Nat} {L : List (Option AV)} {st : List AV} {h : AH}
theorem k_wid {k n : Nat} (h1 : cells ≤ k) (h2 : slots ≤ n) (kk : Wk D tc base nL p l e R s m args below meth c k n Q pc L st h) : Wk D tc base nL p l e R s m args below meth c cells slots Q pc L st h :=
  fun H locs ls hR hS hL => W.widen h1 h2 (kk H locs ls hR hS hL)
theorem Xk.catch (C : Cx D tc base own cc nL p s m args meth c) (hE : PE base s) {E : String} (hEm : E ∈ cstX) (pre : List ExceptionTableEntry) (x : ExceptionTableEntry) (suf : List ExceptionTableEntry) (hsplit : c.exceptionTable.toList = pre ++ x :: suf)
    (hpass : ∀ z ∈ pre, z.catchType ≠ 0 ∧ ∃ nm : String, Cond.classLink own z.catchType nm ∈ gl_w ∧ va_Nc E nm s) (hx : covers x pc = true) (h0 : x.catchType ≠ 0) (hlink : Cond.classLink own x.catchType E ∈ gl_w) {tgt : Nat} (ht : x.handlerPc = tgt)
    (k : ∀ q : Nat, Wk D tc base nL p l e R s m args below meth c cells slots Q (tgt) (L) ([aR q]) (h)) : Xk D tc base nL p l e R s m args below meth c cells slots Q pc L E h := by
  intro H locs ls st q ce hR hS hL hq hv hcl
  have hts := C.2.2.2.2.1
  subst ht
  refine vx_catch (E := E) C.2.2.2.1 pre x suf hsplit (fun z hz => ?_) hx h0 (hts _ hlink) ((hE.2.2.2.1 _ hEm).use rfl) hq hv hcl (k q H locs ls hR hS hL)
  obtain ⟨z0, nm, z1, z2⟩ := hpass z hz
  exact Or.inr ⟨z0, nm, hts _ z1, z2⟩
theorem k_callW (C : Cx D tc base own cc nL p s m args meth c) (hE : PE base s) {y : MethodName} {bytes : ByteArray} {maxL n idx : Nat} {hh : List (Nat × Nat × Nat × Nat)} {as rest : List AV} {post : Option AV → AH → Prop}
    (hM : CW l D tc base y bytes maxL hh as h post) (hml : Cond.methodLink own idx y ∈ gl_w) (hsm : Cond.static y ∈ gl_w) (hini : Cond.initialized y.cls ∈ gl_w) (hco : Cond.codeWith y bytes maxL (some .int) hh ∈ gl_w)
    (hy : y.cls ≠ "java/lang/invoke/MethodHandle" ∧ y.cls ≠ "java/lang/invoke/VarHandle" ∧ (parseMethodDescriptor y.desc).map (fun d => d.parameters.length) = some n) (hn : as.length = n)
    (hrm : 9 ≤ R.frames ∧ 8 + (maxL + 11) + 320 ≤ R.locals) (hst : st = as.reverse ++ rest) (hw : ((rest.map cv).map fun v => v.category).sum ≤ 8) (hcs : cells + 1 ≤ R.cells ∧ slots + 6 ≤ R.slots)
    (hd : decode cc pc = .ok (.invokestatic idx, 3)) (k : ∀ (r : Option AV) (h' : AH), post r h' → Wk D tc base nL p l e R s m args below meth c (cells + 1) (slots + 6) Q (pc + 3) L (pu r rest) h') : Wk D tc base nL p l e R s m args below meth c cells slots Q (pc) (L) (st) (h) := by
  have hts := C.2.2.2.2.1
  have hG : GoodIn gl_w (va_wsS own idx y (wsH y bytes maxL hh)) := by
    intro w hw
    have : w ∈ gl_w := by
      rcases List.mem_append.mp hw with h | h
      · simp only [List.mem_cons, List.not_mem_nil, or_false] at h
        rcases h with rfl | rfl | rfl
        · exact hml
        · exact hsm
        · exact hini
      · rcases List.mem_cons.mp h with rfl | h
        · exact hco
        · exact h
    exact gl_self w this
  intro H locs ls hR hS hL T hT X
  have run := vx_runSW (p := p) (l := l) (e := e) (R := R) (s := s) (m := m) (args := args) (below := below) (meth := meth) (c := c) (H := H) (locs := locs) (cells := cells) (slots := slots) (g := F0 m pc ls (st.map cv)) (As := as.map cv) (rest := rest.map cv) (mc := 1) (ms := 6) ⟨C.1, C.2.1, C.2.2.1, C.2.2.2.1, hts⟩ hM (vx_cwSW n hts hG rfl rfl rfl hy hrm) ⟨PxE.blind _, fun U hU hW => ⟨rfl, PxE.at C hE hR hS hU hW⟩⟩ rfl (by rw [List.length_map]; exact hn) hL.1 (by show st.map cv = _; rw [hst, List.map_append, List.map_reverse]) (lv_room hw) hd hcs
  obtain ⟨v, st₀, t, T', Ls, h0, X', hLs, e1, e2, ⟨⟨r, h', hv, hp, hR'⟩, hF⟩, step⟩ := run T hT X
  have hv : v = r.map cv := Outcome.returned.inj hv
  subst hv
  have hz := hF.1
  have hk := hF.2
  rw [h0] at hz hk
  obtain ⟨t2, a1, b1⟩ := k r h' hp T'.heap (locs ++ Ls) ls (by rw [e1]; exact hR') ⟨Nat.le_trans hS.1 (by rw [e1]; exact hz), fun q h1 h2 => by rw [e1, hk q (Nat.lt_of_lt_of_le h1 hS.1) h2]; exact hS.2.1 q h1 h2, fun q hq => by
      rcases List.mem_append.mp hq with h | h
      · exact hS.2.2 q h
      · exact hLs q h⟩ hL T' rfl X'
  refine ⟨t2, step t2 ?_, b1⟩
  have es : (pu r rest).map cv = (r.map cv).toList ++ rest.map cv := by cases r <;> rfl
  rw [es] at a1
  exact a1
/-! the script -/
def Scr (base b LL : Nat) (xs : Nat → Int32) (s : State) : Prop := va_X b LL xs s s.heap ∧ b < s.heap.size ∧ ¬ base ≤ b ∧ LL ≤ 2048
def sX (xs : Nat → Int32) (q : Int) : Int := (xs q.toNat).toInt
theorem sX_r (xs : Nat → Int32) (q : Int) : r32 (sX xs q) := r32_of _
theorem k_sld (C : Cx D tc base own cc nL p s m args meth c) {b LL : Nat} {xs : Nat → Int32} (hX : Scr base b LL xs s) {q : Int} (h0 : 0 ≤ q) (h1 : q < LL) (hd : decode cc pc = .ok (.iaload, 1)) (k : Wk D tc base nL p l e R s m args below meth c cells slots Q (pc + 1) (L) (aI (sX xs q) :: st) (h)) : Wk D tc base nL p l e R s m args below meth c cells slots Q (pc) (L) (aI q :: aR b :: st) (h) := by
  intro H locs ls hR hS hL
  obtain ⟨x1, x2, x3, x4⟩ := hX
  refine va_sld C.1 C.2.1 x1 x2 x3 hS (zi_in h0 h1 (by omega)) hd ?_
  rw [zi_clamp h0 (by omega)]
  have := k H locs ls hR hS hL
  rw [show (aI (sX xs q) :: st).map cv = Value.int (xs q.toNat) :: st.map cv by (show Value.int (zi (sX xs q)) :: _ = _; unfold sX; rw [zi_of])] at this
  exact this
theorem k_slen (C : Cx D tc base own cc nL p s m args meth c) {b LL : Nat} {xs : Nat → Int32} (hX : Scr base b LL xs s) (hd : decode cc pc = .ok (.arraylength, 1)) (k : Wk D tc base nL p l e R s m args below meth c cells slots Q (pc + 1) (L) (aI LL :: st) (h)) : Wk D tc base nL p l e R s m args below meth c cells slots Q (pc) (L) (aR b :: st) (h) := by
  intro H locs ls hR hS hL
  obtain ⟨x1, x2, x3, x4⟩ := hX
  refine va_slen C.1 C.2.1 x1 x2 x3 hS hd ?_
  have := k H locs ls hR hS hL
  rw [show (aI LL :: st).map cv = Value.int (Int32.ofNat LL) :: st.map cv by (show Value.int (zi LL) :: _ = _; rw [← zi_nI]; rfl)] at this
  exact this
theorem and31 (x : Int32) : 0 ≤ (x &&& 31).toInt ∧ (x &&& 31).toInt ≤ 31 := by
  have h1 : (x &&& 31).toBitVec.toNat ≤ 31 := by
    rw [Int32.toBitVec_and, BitVec.toNat_and]
    exact Nat.and_le_right
  have h2 : (x &&& 31).toInt = ((x &&& 31).toBitVec.toNat : Int) := by
    show (x &&& 31).toBitVec.toInt = _
    rw [BitVec.toInt_eq_toNat_cond, if_pos (by omega)]
  rw [h2]
  omega
theorem k_iand31 (C : Cx D tc base own cc nL p s m args meth c) {x : Int} (hd : decode cc pc = .ok (.iand, 1)) (k : ∀ v : Int, 0 ≤ v → v ≤ 31 → Wk D tc base nL p l e R s m args below meth c cells slots Q (pc + 1) (L) (aI v :: st) (h)) : Wk D tc base nL p l e R s m args below meth c cells slots Q (pc) (L) (aI 31 :: aI x :: st) (h) := by
  intro H locs ls hR hS hL
  refine lv_iand C.1 C.2.1 hd ?_
  have h31 : zi 31 = 31 := by decide +kernel
  obtain ⟨a, b⟩ := and31 (zi x)
  have := k (zi x &&& 31).toInt a b H locs ls hR hS hL
  rw [show (aI (zi x &&& 31).toInt :: st).map cv = Value.int (zi x &&& 31) :: st.map cv by (show Value.int (zi (zi x &&& 31).toInt) :: _ = _; rw [zi_of])] at this
  first
    | exact this
    | (rw [h31]; exact this)
end WKW
