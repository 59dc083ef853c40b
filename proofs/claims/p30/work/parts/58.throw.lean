/-! METHODS THAT THROW: their contracts, the throw, the way out, the catching -/
abbrev eIA : String := "java/lang/IllegalArgumentException"
abbrev eIS : String := "java/lang/IllegalStateException"
abbrev eIO : String := "java/lang/IndexOutOfBoundsException"
abbrev eNm : List String := ["java/lang/RuntimeException", "java/lang/Exception"]
def strsX : List (Nat × String) := [(240, "no such number"), (309, "no such setting"), (307, "no such weight"), (184, "no such property"), (311, "no such winder"), (210, "no such debt"), (313, "out of range"), (114, "there are 6 winders"), (132, "the minutes end at 20000"), (143, "the buffer has 60 characters"), (157, "the buffer is not a complete list of rounds"), (163, "there are more than 6 rounds"), (170, "there is no saved state")]
def cstX : List String := [eIA, eIS, eIO]
def dclX : List MethodName := [⟨"java/lang/RuntimeException", "<init>", "(Ljava/lang/String;)V"⟩, ⟨"java/lang/Exception", "<init>", "(Ljava/lang/String;)V"⟩, ⟨"java/lang/Throwable", "<init>", "(Ljava/lang/String;)V"⟩]
def wNw : List Cond := cstX.map (fun q => Cond.castable q q) ++ dclX.map (fun q => Cond.declares q)
/-- what a throw needs of the world -/
def PE (base : Nat) (U : State) : Prop :=
  vx_Zq Bundle.tN "UNASSIGNED_STACK" Bundle.steD (fun q => base ≤ q) U U.heap ∧ vx_Zq Bundle.tN "SUPPRESSED_SENTINEL" Bundle.listD (fun q => base ≤ q) U U.heap ∧
  (∀ q ∈ strsX, ∃ a : Nat, vk_R "RemontoirClock" q.1 q.2 a U) ∧ (∀ q ∈ cstX, va_Nw (.castable q q) U) ∧ (∀ q ∈ dclX, va_Nw (.declares q) U) ∧ va_Nc eIA eIO U ∧ va_Nc eIS eIO U ∧ va_Nc eIS eIA U
theorem PE.go {base : Nat} {U V : State} (h : PE base U) (hW : U.WarmedH V.vm) (hq : ∀ q : Nat, q < U.heap.size → ¬ base ≤ q → V.heap[q]? = U.heap[q]?) : PE base V := by
  obtain ⟨h1, h2, h3, h4, h5, h6, h7, h8⟩ := h
  refine ⟨(h1.moved hW.alike).kept hq, (h2.moved hW.alike).kept hq, fun q hm => ?_, fun q hm => (h4 q hm).warmC hW, fun q hm => (h5 q hm).warmD hW, h6.moved hW.alike, h7.moved hW.alike, h8.moved hW.alike⟩
  obtain ⟨a, ha⟩ := h3 q hm
  exact ⟨a, ha.warm hW⟩
def lvX (d : Nat) : Room := { frames := d, cells := 1, slots := 6, locals := 40 * d }
def XE (D : va_G) (tc : Nat → ClassId) (base : Nat) (E : String) (post : AH → Prop) : String → State → State → Prop := fun E' st t => E' = E ∧ (∃ h' : AH, post h' ∧ Rep D tc base h' t.heap) ∧ va_F (fun q => base ≤ q) st t
def NoQ : Array Value → State → Outcome → State → Prop := fun _ _ _ _ => False
/-- a method's contract where it throws E -/
def TX (l : Launch) (D : va_G) (tc : Nat → ClassId) (base : Nat) (y : MethodName) (bytes : ByteArray) (maxL : Nat) (ret : Option FieldType) (d : Nat) (as : List AV) (h : AH) (E : String) (post : AH → Prop) : Prop :=
  vx_Met l y (wsY y bytes maxL ret) (lvX d) (va_Pc (as.map cv) (fun U => Px D tc base h U ∧ PE base U)) NoQ (XE D tc base E post) 1 6 (fun q => base ≤ q)
theorem PxE.blind {D : va_G} {tc : Nat → ClassId} {base : Nat} {h : AH} (vs : List Value) : FrameBlind (va_Pc vs (fun U => Px D tc base h U ∧ PE base U)) := by
  intro a U g mk q
  obtain ⟨q0, ⟨q1, q2, q3, q4⟩, q5⟩ := q
  exact ⟨q0, ⟨q1, q2, va_K.moved (u := U) (U := U.calling g mk a) (Vm.Alike.refl U.vm) q3, StF.go (V := U.calling g mk a) q4 (Vm.Alike.refl U.vm) (fun _ _ _ => rfl)⟩, PE.go (V := U.calling g mk a) q5 (State.WarmedH.refl U) (fun _ _ _ => rfl)⟩
abbrev QX (D : va_G) (tc : Nat → ClassId) (base : Nat) (E : String) (post : AH → Prop) (below : List Frame) (args : Array Value) (s : State) : State → Prop := vx_MQ below NoQ (XE D tc base E post) args s 1 6 (fun q => base ≤ q)
theorem TX.of {l : Launch} {D : va_G} {tc : Nat → ClassId} {base : Nat} {y : MethodName} {bytes : ByteArray} {maxL : Nat} {ret : Option FieldType} {d : Nat} {as : List AV} {h : AH} {E : String} {post : AH → Prop} (L0 : List (Option AV))
    (hy : plainName y.cls = true) (hL0 : asc 0 L0 = lv_args 0 (as.map cv)) (hlen : (lg_sl (as.map cv)).length ≤ maxL)
    (body : ∀ (p : Program) (e : Env) (s : State) (m : MethodId) (args : Array Value) (below : List Frame) (meth : Method) (c : Code), Cx D tc base y.cls bytes maxL p s m args meth c → PE base s → (∀ x ∈ c.exceptionTable.toList, False) →
      Wk D tc base maxL p l e (lvX d) s m args below meth c 0 0 (QX D tc base E post below args s) 0 L0 [] h) : TX l D tc base y bytes maxL ret d as h E post := by
  refine vx_ofW (cc := bytes) (maxL := maxL) (ret := ret) hy rfl ?_
  intro p e s m args below meth c s₁ B hml ht hv
  obtain ⟨rfl, ⟨hb0, hR, hK, hF⟩, hE⟩ := hv
  have hts := atoms_spec (ws := wsY y bytes maxL ret) B.pre
  have C : Cx D tc base y.cls bytes maxL p s m (as.map cv).toArray meth c := ⟨B.exec, B.bytes, hml, findClass_of_methodNamed B.named, fun w hw => hts w (List.mem_cons_of_mem _ hw), hK, B.notSynchronized, hb0, hF⟩
  rw [lg_entry_eq]
  have hl := lv_entry (as.map cv) (n := maxL) hlen
  rw [← hL0] at hl
  exact body p e s m _ below meth c C hE ht s.heap [] _ hR va_S.rf hl
/-- what was proved of one end holds of a weaker one -/
theorem TX.mono {l : Launch} {D : va_G} {tc : Nat → ClassId} {base : Nat} {y : MethodName} {bytes : ByteArray} {maxL : Nat} {ret : Option FieldType} {d : Nat} {as : List AV} {h : AH} {E : String} {post post' : AH → Prop} (hC : TX l D tc base y bytes maxL ret d as h E post) (hp : ∀ h', post h' → post' h') : TX l D tc base y bytes maxL ret d as h E post' := by
  intro p e ha hc hk s m args below hf hap hP hK
  obtain ⟨k, o, h1, h2, h3, h4⟩ := hC p e ha hc hk s m args below hf hap hP hK
  refine ⟨k, o, h1, h2, h3, ?_⟩
  rcases h4 with ⟨h5, -⟩ | ⟨q, e1, E', ce, L, ⟨e2, ⟨h', e3, e4⟩, e5⟩, e6⟩
  · exact h5.elim
  · exact Or.inr ⟨q, e1, E', ce, L, ⟨e2, ⟨h', hp h' e3, e4⟩, e5⟩, e6⟩
section WKT
variable {D : va_G} {tc : Nat → ClassId} {base nL : Nat} {own : String} {cc : ByteArray} {p : Program} {l : Launch} {e : Env} {R : Room} {s : State} {m : MethodId} {args : Array Value} {below : List Frame} {meth : Method} {c : Code} {cells slots : Nat} {Q : State → Prop} {pc : Nat} {L : List (Option AV)} {st : List AV} {h : AH}
/-- E is thrown over the frame at pc -/
def Xk (D : va_G) (tc : Nat → ClassId) (base nL : Nat) (p : Program) (l : Launch) (e : Env) (R : Room) (s : State) (m : MethodId) (args : Array Value) (below : List Frame) (meth : Method) (c : Code) (cells slots : Nat) (Q : State → Prop) (pc : Nat) (L : List (Option AV)) (E : String) (h : AH) : Prop :=
  ∀ (H : Heap) (locs : List Loc) (ls : Array Slot) (st : List Value) (q : Addr) (ce : Cell), Rep D tc base h H → va_S (fun q => base ≤ q) s.heap H locs → lvP ls nL L → H[q]? = some ce → ce.vm = .none → s.vm.findClass E = some ce.cls → vx_W p l e R s m args below meth c H locs cells slots Q (F0 m pc ls st) q
theorem k_xrun {g : Array Value} {rest : List AV} {E : String} {post : AH → Prop}
    (run : ∀ (H : Heap) (locs : List Loc) (ls : Array Slot), Rep D tc base h H → va_S (fun q => base ≤ q) s.heap H locs → lvP ls nL L → vx_Run p l e R s m args below meth c H locs cells slots 1 6 (F0 m pc ls (st.map cv)) (rest.map cv) (NoQ g) (XE D tc base E post) (fun q => base ≤ q))
    (k : ∀ h' : AH, post h' → Xk D tc base nL p l e R s m args below meth c (cells + 1) (slots + 6) Q pc L E h') : Wk D tc base nL p l e R s m args below meth c cells slots Q (pc) (L) (st) (h) := by
  intro H locs ls hR hS hL T hT X
  rcases run H locs ls hR hS hL T hT X with ⟨v, st₀, t, T', Ls, h0, X', hLs, e1, e2, hno, -⟩ | ⟨q, st₀, t, T', Ls, E', ce, h0, X', hLs, e1, e2, ⟨rfl, ⟨h', hp, hR'⟩, hF⟩, hce, hcv, hcl, step⟩
  · exact hno.elim
  · have hz := hF.1
    have hk := hF.2
    rw [h0] at hz hk
    obtain ⟨t2, a1, b1⟩ := k h' hp T'.heap (locs ++ Ls) ls (rest.map cv) q ce (by rw [e1]; exact hR') ⟨Nat.le_trans hS.1 (by rw [e1]; exact hz), fun q h1 h2 => by rw [e1, hk q (Nat.lt_of_lt_of_le h1 hS.1) h2]; exact hS.2.1 q h1 h2, fun q hq => by
      rcases List.mem_append.mp hq with h | h
      · exact hS.2.2 q h
      · exact hLs q h⟩ hL (by rw [e1]; exact hce) hcv hcl T' rfl X'
    exact ⟨t2, step.trans a1, b1⟩
theorem PxE.at (C : Cx D tc base own cc nL p s m args meth c) (hE : PE base s) {H : Heap} {locs : List Loc} (hR : Rep D tc base h H) (hS : va_S (fun q => base ≤ q) s.heap H locs) {U : State} (hU : U.heap = H) (hW : s.WarmedH U.vm) : Px D tc base h U ∧ PE base U :=
  ⟨Px.at C hR hS hU hW, hE.go hW (fun q h1 h2 => by rw [hU]; exact hS.2.1 q h1 h2)⟩
theorem k_xcallV (C : Cx D tc base own cc nL p s m args meth c) (hE : PE base s) {y : MethodName} {bytes : ByteArray} {maxL d n idx a ci N : Nat} {ret : Option FieldType} {as rest fs : List AV} {E : String} {post : AH → Prop} {cn : String} {T : u_T}
    (hM : TX l D tc base y bytes maxL ret d (aR a :: as) h E post) (hml : Cond.methodLink own idx y ∈ gl_w) (him : Cond.instanceMethod y ∈ gl_w) (hse : Cond.selects cn y y ∈ gl_w) (hini : Cond.initialized cn ∈ gl_w) (hco : Cond.code y bytes maxL ret ∈ gl_w)
    (hy : y.cls = cn ∧ y.cls ≠ "java/lang/invoke/MethodHandle" ∧ y.cls ≠ "java/lang/invoke/VarHandle" ∧ (parseMethodDescriptor y.desc).map (fun d => d.parameters.length) = some n) (hn : as.length = n)
    (hc : vwCl[ci]? = some (cn, T, N)) (hh : h a = some (eO ci fs)) (hrm : d + 1 ≤ R.frames ∧ 8 + (maxL + 11) + 40 * d ≤ R.locals) (hst : st = as.reverse ++ aR a :: rest) (hw : ((rest.map cv).map fun v => v.category).sum ≤ 8) (hcs : cells + 1 ≤ R.cells ∧ slots + 6 ≤ R.slots)
    (hd : decode cc pc = .ok (.invokevirtual idx, 3)) (k : ∀ h' : AH, post h' → Xk D tc base nL p l e R s m args below meth c (cells + 1) (slots + 6) Q pc L E h') : Wk D tc base nL p l e R s m args below meth c cells slots Q (pc) (L) (st) (h) := by
  have hts := C.2.2.2.2.1
  refine k_xrun (g := (Value.ref a :: as.map cv).toArray) (E := E) (post := post) (rest := rest) (fun H locs ls hR hS hL => ?_) k
  have hG : GoodIn gl_w (wsV own idx cn y (wsY y bytes maxL ret)) := by
    intro w hw
    have : w ∈ gl_w := by
      rcases List.mem_append.mp hw with h | h
      · simp only [List.mem_cons, List.not_mem_nil, or_false] at h
        rcases h with rfl | rfl | rfl | rfl
        · exact hml
        · exact him
        · exact hse
        · exact hini
      · rcases List.mem_cons.mp h with rfl | h
        · exact hco
        · exact h
    exact gl_self w this
  refine vx_runV (As := as.map cv) (rest := rest.map cv) ⟨C.1, C.2.1, C.2.2.1, C.2.2.2.1, hts⟩ hM (cwV n hts hG rfl rfl rfl hy hrm) ⟨PxE.blind _, va_recv (q0 := 0) C.2.2.2.2.2.1 (va_P1 (hR a _ hh).2) hc rfl, fun U hU hW => ⟨rfl, PxE.at C hE hR hS hU hW⟩⟩ rfl (by rw [List.length_map]; exact hn) hL.1 ?_ (lv_room hw) hd hcs
  show st.map cv = _
  rw [hst, List.map_append, List.map_reverse]
  rfl
theorem k_xcallS (C : Cx D tc base own cc nL p s m args meth c) (hE : PE base s) {y : MethodName} {bytes : ByteArray} {maxL d n idx : Nat} {ret : Option FieldType} {as rest : List AV} {E : String} {post : AH → Prop}
    (hM : TX l D tc base y bytes maxL ret d as h E post) (hml : Cond.methodLink own idx y ∈ gl_w) (hsm : Cond.static y ∈ gl_w) (hini : Cond.initialized y.cls ∈ gl_w) (hco : Cond.code y bytes maxL ret ∈ gl_w)
    (hy : y.cls ≠ "java/lang/invoke/MethodHandle" ∧ y.cls ≠ "java/lang/invoke/VarHandle" ∧ (parseMethodDescriptor y.desc).map (fun d => d.parameters.length) = some n) (hn : as.length = n)
    (hrm : d + 1 ≤ R.frames ∧ 8 + (maxL + 11) + 40 * d ≤ R.locals) (hst : st = as.reverse ++ rest) (hw : ((rest.map cv).map fun v => v.category).sum ≤ 8) (hcs : cells + 1 ≤ R.cells ∧ slots + 6 ≤ R.slots)
    (hd : decode cc pc = .ok (.invokestatic idx, 3)) (k : ∀ h' : AH, post h' → Xk D tc base nL p l e R s m args below meth c (cells + 1) (slots + 6) Q pc L E h') : Wk D tc base nL p l e R s m args below meth c cells slots Q (pc) (L) (st) (h) := by
  have hts := C.2.2.2.2.1
  refine k_xrun (g := (as.map cv).toArray) (E := E) (post := post) (rest := rest) (fun H locs ls hR hS hL => ?_) k
  have hG : GoodIn gl_w (va_wsS own idx y (wsY y bytes maxL ret)) := by
    intro w hw
    have : w ∈ gl_w := by
      rcases List.mem_append.mp hw with h | h
      · simp only [List.mem_cons, List.not_mem_nil, or_false] at h
        rcases h with rfl | rfl | rfl
        · exact hml
        · exact hsm
        · exact hini
      · rcases List.mem_cons.mp h with rfl | h
        · exact hco
        · exact h
    exact gl_self w this
  refine vx_runS (As := as.map cv) (rest := rest.map cv) ⟨C.1, C.2.1, C.2.2.1, C.2.2.2.1, hts⟩ hM (va_cwS n hts hG rfl rfl rfl hy hrm) ⟨PxE.blind _, fun U hU hW => ⟨rfl, PxE.at C hE hR hS hU hW⟩⟩ rfl (by rw [List.length_map]; exact hn) hL.1 ?_ (lv_room hw) hd hcs
  show st.map cv = _
  rw [hst, List.map_append, List.map_reverse]
/-- it goes on to the caller -/
theorem Xk.out (C : Cx D tc base own cc nL p s m args meth c) {E : String} {post : AH → Prop} (ht : ∀ x ∈ c.exceptionTable.toList, False) (hp : post h) : Xk D tc base nL p l e R s m args below meth c 1 6 (QX D tc base E post below args s) pc L E h :=
  fun H locs ls st q ce hR hS hL hq hv hcl => vx_out (fun x hx => (ht x hx).elim) C.2.2.2.2.2.2.1 hq hv hcl (fun t hT hW => ⟨rfl, ⟨h, hp, by rw [hT]; exact hR⟩, hS.F hT⟩) hS.2.2 (Nat.le_refl _) (Nat.le_refl _)
theorem Rep.grow {H H1 : Heap} (hR : Rep D tc base h H) (hq : ∀ q : Nat, q < H.size → H1[q]? = H[q]?) : Rep D tc base h H1 := fun a e' ha => ⟨(hR a e' ha).1, (hR a e' ha).2.kept (hq a (hR a e' ha).2.lt)⟩
/-- 'throw new E("text")' -/
theorem k_throw (C : Cx D tc base own cc nL p s m args meth c) (hE : PE base s) (hl : l.stackTraces = false) {cls text : String} {ik is ic : Nat} {post : AH → Prop} (hown : own = "RemontoirClock") (hs : (is, text) ∈ strsX)
    (hcls : Bundle.fit cls = true) (hk : Cond.classLink own ik cls ∈ gl_w) (hini : Cond.initialized cls ∈ gl_w) (hat : ∀ w ∈ (vx_atS own ic cls eNm).filter goodWord, w ∈ gl_w) (hbad : ∀ w ∈ (vx_atS own ic cls eNm).filter (fun w => !goodWord w), w ∈ wNw)
    (ht : ∀ x ∈ c.exceptionTable.toList, False) (hR1 : 5 < R.frames) (hR2 : ((st.map cv).map fun v => v.category).sum + 82 ≤ R.locals) (hR3 : 1 ≤ R.cells) (hR4 : 6 ≤ R.slots)
    (d0 : decode cc pc = .ok (.new ik, 3)) (d3 : decode cc (pc + 3) = .ok (.dup, 1)) (d4 : decode cc (pc + 4) = .ok (.ldc is, 2)) (d6 : decode cc (pc + 6) = .ok (.invokespecial ic, 3)) (d9 : decode cc (pc + 9) = .ok (.athrow, 1)) (hp : post h) : Wk D tc base nL p l e R s m args below meth c 0 0 (QX D tc base cls post below args s) pc L st h := by
  intro H locs ls hR hS hL
  have hts := C.2.2.2.2.1
  obtain ⟨h1, h2, h3, h4, h5, -⟩ := hE
  obtain ⟨sa, hsa⟩ := h3 _ hs
  subst hown
  have hwN : ∀ w ∈ wNw, w.before args s = true := fun w hw => by
    rcases List.mem_append.mp hw with hw | hw
    · obtain ⟨q, hq, rfl⟩ := List.mem_map.mp hw
      exact (h4 q hq).use rfl
    · obtain ⟨q, hq, rfl⟩ := List.mem_map.mp hw
      exact (h5 q hq).use rfl
  have hwO : ∀ w ∈ wNw, vx_ot w = true := fun w hw => by
    rcases List.mem_append.mp hw with hw | hw
    · obtain ⟨q, hq, rfl⟩ := List.mem_map.mp hw
      rfl
    · obtain ⟨q, hq, rfl⟩ := List.mem_map.mp hw
      rfl
  have hotg : ∀ w : Cond, w ∈ gl_w → vx_ot w = true := fun w hw => by
    unfold vx_ot
    rw [gl_good hw, Bool.or_true]
  refine vx_throwS (names := eNm) (text := text) (sa := sa) C.1 C.2.1 hl C.2.2.2.1 hcls (by decide +kernel) (hts _ hk) (hts _ hini) hsa (vx_hat (fun w hw => hts _ (hat w hw)) hbad hwN) ?_ h1 h2 hS (by rw [hL.1]; exact C.2.2.1.symm) d0 d3 d4 d6 d9 (fun x hx => (ht x hx).elim) hR1 hR2 (by omega) (by omega) C.2.2.2.2.2.2.1 ?_ hS.2.2 (Nat.le_refl _) (Nat.le_refl _)
  · intro w hw
    rcases List.mem_cons.mp hw with rfl | hw
    · exact hotg _ hk
    · rcases List.mem_cons.mp hw with rfl | hw
      · exact hotg _ hini
      · by_cases g : goodWord w = true
        · exact hotg _ (hat w (List.mem_filter.mpr ⟨hw, g⟩))
        · exact hwO w (hbad w (List.mem_filter.mpr ⟨hw, by show (!goodWord w) = true; cases hgw : goodWord w; rfl; exact absurd hgw g⟩))
  · intro t hW hz hq
    exact ⟨rfl, ⟨h, hp, hR.grow hq⟩, Nat.le_trans hS.1 hz, fun q q1 q2 => by rw [hq q (Nat.lt_of_lt_of_le q1 hS.1)]; exact hS.2.1 q q1 q2⟩
theorem k_throwW (C : Cx D tc base own cc nL p s m args meth c) (hE : PE base s) (hl : l.stackTraces = false) {cls text : String} {ik is ic : Nat} {post : AH → Prop} (hown : own = "RemontoirClock") (hs : (is, text) ∈ strsX)
    (hcls : Bundle.fit cls = true) (hk : Cond.classLink own ik cls ∈ gl_w) (hini : Cond.initialized cls ∈ gl_w) (hat : ∀ w ∈ (vx_atS own ic cls eNm).filter goodWord, w ∈ gl_w) (hbad : ∀ w ∈ (vx_atS own ic cls eNm).filter (fun w => !goodWord w), w ∈ wNw)
    (ht : ∀ x ∈ c.exceptionTable.toList, False) (hR1 : 5 < R.frames) (hR2 : ((st.map cv).map fun v => v.category).sum + 82 ≤ R.locals) (hR3 : 1 ≤ R.cells) (hR4 : 6 ≤ R.slots)
    (d0 : decode cc pc = .ok (.new ik, 3)) (d3 : decode cc (pc + 3) = .ok (.dup, 1)) (d4 : decode cc (pc + 4) = .ok (.ldc_w is, 3)) (d6 : decode cc (pc + 7) = .ok (.invokespecial ic, 3)) (d9 : decode cc (pc + 10) = .ok (.athrow, 1)) (hp : post h) : Wk D tc base nL p l e R s m args below meth c 0 0 (QX D tc base cls post below args s) pc L st h := by
  intro H locs ls hR hS hL
  have hts := C.2.2.2.2.1
  obtain ⟨h1, h2, h3, h4, h5, -⟩ := hE
  obtain ⟨sa, hsa⟩ := h3 _ hs
  subst hown
  have hwN : ∀ w ∈ wNw, w.before args s = true := fun w hw => by
    rcases List.mem_append.mp hw with hw | hw
    · obtain ⟨q, hq, rfl⟩ := List.mem_map.mp hw
      exact (h4 q hq).use rfl
    · obtain ⟨q, hq, rfl⟩ := List.mem_map.mp hw
      exact (h5 q hq).use rfl
  have hwO : ∀ w ∈ wNw, vx_ot w = true := fun w hw => by
    rcases List.mem_append.mp hw with hw | hw
    · obtain ⟨q, hq, rfl⟩ := List.mem_map.mp hw
      rfl
    · obtain ⟨q, hq, rfl⟩ := List.mem_map.mp hw
      rfl
  have hotg : ∀ w : Cond, w ∈ gl_w → vx_ot w = true := fun w hw => by
    unfold vx_ot
    rw [gl_good hw, Bool.or_true]
  refine vx_throwSW (names := eNm) (text := text) (sa := sa) C.1 C.2.1 hl C.2.2.2.1 hcls (by decide +kernel) (hts _ hk) (hts _ hini) hsa (vx_hat (fun w hw => hts _ (hat w hw)) hbad hwN) ?_ h1 h2 hS (by rw [hL.1]; exact C.2.2.1.symm) d0 d3 d4 d6 d9 (fun x hx => (ht x hx).elim) hR1 hR2 (by omega) (by omega) C.2.2.2.2.2.2.1 ?_ hS.2.2 (Nat.le_refl _) (Nat.le_refl _)
  · intro w hw
    rcases List.mem_cons.mp hw with rfl | hw
    · exact hotg _ hk
    · rcases List.mem_cons.mp hw with rfl | hw
      · exact hotg _ hini
      · by_cases g : goodWord w = true
        · exact hotg _ (hat w (List.mem_filter.mpr ⟨hw, g⟩))
        · exact hwO w (hbad w (List.mem_filter.mpr ⟨hw, by show (!goodWord w) = true; cases hgw : goodWord w; rfl; exact absurd hgw g⟩))
  · intro t hW hz hq
    exact ⟨rfl, ⟨h, hp, hR.grow hq⟩, Nat.le_trans hS.1 hz, fun q q1 q2 => by rw [hq q (Nat.lt_of_lt_of_le q1 hS.1)]; exact hS.2.1 q q1 q2⟩
end WKT
/-! the words of the three throws -/
theorem gl_v (ws : List Cond) (ps : List Nat) (hp : ws = ps.filterMap (fun i => lw_tbl[i]?)) (hg : ws.all goodWord = true) : ∀ w ∈ ws, w ∈ gl_w := by
  intro w hw
  refine List.mem_filter.mpr ⟨?_, List.all_eq_true.mp hg w hw⟩
  rw [hp] at hw
  obtain ⟨i, -, hi⟩ := List.mem_filterMap.mp hw
  exact List.mem_of_getElem? hi
theorem at_IA : ∀ w ∈ (vx_atS "RemontoirClock" 159 eIA eNm).filter goodWord, w ∈ gl_w := gl_v _ [73, 536, 545, 549, 552, 554, 537, 538, 87, 88, 539, 544, 550, 570, 526, 571, 528, 572, 530, 540, 542, 532, 566, 567, 569, 532, 557, 558, 559, 560, 560, 561, 562, 563, 563, 564, 565, 566, 556, 515, 523, 524, 525, 527, 529, 531, 535, 534, 533] (by decide +kernel) (by decide +kernel)
theorem ab_IA : ∀ w ∈ (vx_atS "RemontoirClock" 159 eIA eNm).filter (fun w => !goodWord w), w ∈ wNw := by
  have h : ((vx_atS "RemontoirClock" 159 eIA eNm).filter (fun w => !goodWord w)).all (fun w => wNw.contains w) = true := by decide +kernel
  intro w hw
  exact List.contains_iff_mem.mp (List.all_eq_true.mp h w hw)
theorem at_IS : ∀ w ∈ (vx_atS "RemontoirClock" 116 eIS eNm).filter goodWord, w ∈ gl_w := gl_v _ [73, 536, 545, 549, 552, 554, 537, 538, 87, 88, 539, 544, 550, 570, 526, 571, 528, 572, 530, 540, 542, 532, 566, 567, 569, 532, 760, 761, 762, 560, 560, 561, 562, 563, 563, 564, 565, 566, 759, 750, 752, 547, 753, 754, 755, 756, 535, 534, 757] (by decide +kernel) (by decide +kernel)
theorem ab_IS : ∀ w ∈ (vx_atS "RemontoirClock" 116 eIS eNm).filter (fun w => !goodWord w), w ∈ wNw := by
  have h : ((vx_atS "RemontoirClock" 116 eIS eNm).filter (fun w => !goodWord w)).all (fun w => wNw.contains w) = true := by decide +kernel
  intro w hw
  exact List.contains_iff_mem.mp (List.all_eq_true.mp h w hw)
theorem at_IO : ∀ w ∈ (vx_atS "RemontoirClock" 212 eIO eNm).filter goodWord, w ∈ gl_w := gl_v _ [73, 536, 545, 549, 552, 554, 537, 538, 87, 88, 539, 544, 550, 570, 526, 571, 528, 572, 530, 540, 542, 532, 566, 567, 569, 532, 604, 605, 606, 560, 560, 561, 562, 563, 563, 564, 565, 566, 603, 594, 596, 548, 597, 598, 599, 600, 535, 534, 601] (by decide +kernel) (by decide +kernel)
theorem ab_IO : ∀ w ∈ (vx_atS "RemontoirClock" 212 eIO eNm).filter (fun w => !goodWord w), w ∈ wNw := by
  have h : ((vx_atS "RemontoirClock" 212 eIO eNm).filter (fun w => !goodWord w)).all (fun w => wNw.contains w) = true := by decide +kernel
  intro w hw
  exact List.contains_iff_mem.mp (List.all_eq_true.mp h w hw)

