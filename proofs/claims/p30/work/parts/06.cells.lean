/-! ROWS THAT TOUCH CELLS; calls; a method's start and end -/
theorem va_P1 {D : va_G} {cl : List vw_C} {a : Nat} {e : va_E} {H : Heap} (h : va_at D cl (a, e) H) : va_P D cl [(a, e)] H := by
  intro k q hk
  cases k with
  | zero => cases hk; exact h
  | succ k => simp at hk
def iu (f : Int → Int) (j x : Int) : Int → Int := fun k => if k = j then x else f k
theorem iu_eq (f : Int → Int) (j x : Int) : iu f j x j = x := by simp [iu]
theorem iu_ne {f : Int → Int} {j x k : Int} (h : k ≠ j) : iu f j x k = f k := by simp [iu, h]
def lvR (d : Nat) : Room := { frames := d, cells := 0, slots := 0, locals := 40 * d }
abbrev wsY (y : MethodName) (bytes : ByteArray) (maxL : Nat) (ret : Option FieldType) : List Cond := .code y bytes maxL ret :: gl_w
def Px (D : va_G) (tc : Nat → ClassId) (base : Nat) (h : AH) (U : State) : Prop := base ≤ U.heap.size ∧ Rep D tc base h U.heap ∧ va_K D vwCl (tyl tc) U ∧ StF base U
def Qx (D : va_G) (tc : Nat → ClassId) (base : Nat) (post : Option AV → AH → Prop) : Array Value → State → Outcome → State → Prop := fun _ st o t => (∃ (r : Option AV) (h' : AH), o = .returned (r.map cv) ∧ post r h' ∧ Rep D tc base h' t.heap) ∧ va_F (fun q => base ≤ q) st t
def pu : Option AV → List AV → List AV
  | none, r => r
  | some v, r => v :: r
/-- a method's contract: from the heap h it returns an answer and a heap with 'post' -/
def CT (l : Launch) (D : va_G) (tc : Nat → ClassId) (base : Nat) (y : MethodName) (bytes : ByteArray) (maxL : Nat) (ret : Option FieldType) (d : Nat) (as : List AV) (h : AH) (post : Option AV → AH → Prop) : Prop :=
  Met l y (wsY y bytes maxL ret) (lvR d) (va_Pc (as.map cv) (Px D tc base h)) (Qx D tc base post) 0 0 (fun q => base ≤ q)
theorem Px.blind {D : va_G} {tc : Nat → ClassId} {base : Nat} {h : AH} (vs : List Value) : FrameBlind (va_Pc vs (Px D tc base h)) := by
  intro a U g mk q
  obtain ⟨q0, q1, q2, q3, q4⟩ := q
  exact ⟨q0, q1, q2, va_K.moved (u := U) (U := U.calling g mk a) (Vm.Alike.refl U.vm) q3, StF.go (V := U.calling g mk a) q4 (Vm.Alike.refl U.vm) (fun _ _ _ => rfl)⟩
/-- as the kit's Met.ofW, for a method by its own name (a class of the JDK some of whose methods are natives of the model) -/
theorem Met_ofWF {l : Launch} {y : MethodName} {ws ws' : List Cond} {rm : Room} {Pc : Array Value → State → Prop} {Qc : Array Value → State → Outcome → State → Prop} {mc ms : Nat} {free : Addr → Prop} {cc : ByteArray} {maxL : Nat} {ret : Option FieldType}
    (hy : plainFor y = true) (hw : ws = Cond.code y cc maxL ret :: ws')
    (body : ∀ p e s m args below meth c s₁, BodyLoose p l y (headSpec ws rm) cc maxL ret e s m args below meth c s₁ → c.maxLocals = maxL → Pc args s →
      W p l e (headSpec ws rm).room s m args below meth c s.heap [] 0 0 (MQ below Qc args s mc ms free) (entryFrame m args maxL)) : Met l y ws rm Pc Qc mc ms free := by
  refine MetFree.of_bodySF (code := cc) (maxLocals := maxL) (ret := ret) hy ?_ ?_
  · intro args s m h hn
    obtain ⟨meth, c, h1, h2, h3, h4, h5, h6, -, -⟩ := Cond.code_spec hn (atoms_spec (ws := ws) h _ (by rw [hw]; exact List.mem_cons_self))
    exact ⟨meth, c, h1, h2, h3, h4, h5, h6⟩
  · intro p e s m args below meth c s₁ B hml hP _
    have hh0 : s₁.heap = s.heap := by rw [B.state]; rfl
    obtain ⟨t, a1, o, b1, b2, b3⟩ := body p e s m args below meth c s₁ B hml hP s₁ hh0 (Stand.of_body B)
    exact ⟨t, o, a1, b1, b2, ⟨b3.1, b3.2⟩⟩
theorem CT.of {l : Launch} {D : va_G} {tc : Nat → ClassId} {base : Nat} {y : MethodName} {bytes : ByteArray} {maxL : Nat} {ret : Option FieldType} {d : Nat} {as : List AV} {h : AH} {post : Option AV → AH → Prop} (L0 : List (Option AV))
    (hy : plainFor y = true) (hL0 : asc 0 L0 = lv_args 0 (as.map cv)) (hlen : (lg_sl (as.map cv)).length ≤ maxL)
    (body : ∀ (p : Program) (e : Env) (s : State) (m : MethodId) (args : Array Value) (below : List Frame) (meth : Method) (c : Code), Cx D tc base y.cls bytes maxL p s m args meth c → meth.sig.returnType = ret → meth.name = y.name →
      Wk D tc base maxL p l e (lvR d) s m args below meth c 0 0 (MQ below (Qx D tc base post) args s 0 0 (fun q => base ≤ q)) 0 L0 [] h) : CT l D tc base y bytes maxL ret d as h post := by
  refine Met_ofWF (cc := bytes) (maxL := maxL) (ret := ret) hy rfl ?_
  intro p e s m args below meth c s₁ B hml hv
  obtain ⟨rfl, hb0, hR, hK, hF⟩ := hv
  have hts := atoms_spec (ws := wsY y bytes maxL ret) B.pre
  have C : Cx D tc base y.cls bytes maxL p s m (as.map cv).toArray meth c := ⟨B.exec, B.bytes, hml, findClass_of_methodNamed B.named, fun w hw => hts w (List.mem_cons_of_mem _ hw), hK, B.notSynchronized, hb0, hF⟩
  rw [lg_entry_eq]
  have hl := lv_entry (as.map cv) (n := maxL) hlen
  rw [← hL0] at hl
  exact body p e s m _ below meth c C B.returns (name_of_methodNamed B.named B.method).1 s.heap [] _ hR va_S.rf hl
/-- what was proved of one end holds of a weaker one -/
theorem CT.mono {l : Launch} {D : va_G} {tc : Nat → ClassId} {base : Nat} {y : MethodName} {bytes : ByteArray} {maxL : Nat} {ret : Option FieldType} {d : Nat} {as : List AV} {h : AH} {post post' : Option AV → AH → Prop} (hC : CT l D tc base y bytes maxL ret d as h post) (hp : ∀ r h', post r h' → post' r h') : CT l D tc base y bytes maxL ret d as h post' := by
  intro p e ha hc hk s m args below hf hap hP hK
  obtain ⟨k, o, h1, h2, h3, ⟨⟨r, h', e1, e2, e3⟩, hF⟩, hfr⟩ := hC p e ha hc hk s m args below hf hap hP hK
  exact ⟨k, o, h1, h2, h3, ⟨⟨r, h', e1, hp r h' e2, e3⟩, hF⟩, hfr⟩
section WKC
variable {D : va_G} {tc : Nat → ClassId} {base nL : Nat} {own : String} {cc : ByteArray} {p : Program} {l : Launch} {e : Env} {R : Room} {s : State} {m : MethodId} {args : Array Value} {below : List Frame} {meth : Method} {c : Code} {cells slots : Nat} {Q : State → Prop} {pc : Nat} {L : List (Option AV)} {st : List AV} {h : AH}
theorem k_iaload (C : Cx D tc base own cc nL p s m args meth c) {a n : Nat} {f : Int → Int} {j : Int} (hd : decode cc pc = .ok (.iaload, 1)) (hh : h a = some (eA 0 n f)) (h0 : 0 ≤ j) (h1 : j < n) (hn : n < 2147483648) (k : Wk D tc base nL p l e R s m args below meth c cells slots Q (pc + 1) (L) (aI (f j) :: st) (h)) : Wk D tc base nL p l e R s m args below meth c cells slots Q (pc) (L) (aI j :: aR a :: st) (h) := by
  intro H locs ls hR hS hL
  refine va_iald (f := fun k => zi (f k)) C.1 C.2.1 C.2.2.2.2.2.1 (va_P1 (hR a _ hh).2) 0 0 rfl rfl (zi_in h0 h1 hn) hd ?_
  have e1 : ((zi j).toNatClampNeg : Int) = j := by rw [zi_clamp h0 (by omega)]; omega
  rw [e1]
  exact k H locs ls hR hS hL
theorem k_caload (C : Cx D tc base own cc nL p s m args meth c) {a n : Nat} {f : Int → Int} {j : Int} (hd : decode cc pc = .ok (.caload, 1)) (hh : h a = some (eA 1 n f)) (h0 : 0 ≤ j) (h1 : j < n) (hn : n < 2147483648) (k : Wk D tc base nL p l e R s m args below meth c cells slots Q (pc + 1) (L) (aI (f j) :: st) (h)) : Wk D tc base nL p l e R s m args below meth c cells slots Q (pc) (L) (aI j :: aR a :: st) (h) := by
  intro H locs ls hR hS hL
  refine va_cald (f := fun k => zi (f k)) C.1 C.2.1 C.2.2.2.2.2.1 (va_P1 (hR a _ hh).2) 0 1 rfl rfl (zi_in h0 h1 hn) hd ?_
  have e1 : ((zi j).toNatClampNeg : Int) = j := by rw [zi_clamp h0 (by omega)]; omega
  rw [e1]
  exact k H locs ls hR hS hL
theorem k_aaload (C : Cx D tc base own cc nL p s m args meth c) {a n b : Nat} {f : Int → Option Nat} {j : Int} (hd : decode cc pc = .ok (.aaload, 1)) (hh : h a = some (eR n f)) (h0 : 0 ≤ j) (h1 : j < n) (hn : n < 2147483648) (hf : f j = some b) (k : Wk D tc base nL p l e R s m args below meth c cells slots Q (pc + 1) (L) (aR b :: st) (h)) : Wk D tc base nL p l e R s m args below meth c cells slots Q (pc) (L) (aI j :: aR a :: st) (h) := by
  intro H locs ls hR hS hL
  refine va_aldq (f := fun k => f k) C.1 C.2.1 C.2.2.2.2.2.1 (va_P1 (hR a _ hh).2) 0 3 rfl rfl (zi_in h0 h1 hn) hd ?_
  have e1 : ((zi j).toNatClampNeg : Int) = j := by rw [zi_clamp h0 (by omega)]; omega
  rw [e1, hf]
  exact k H locs ls hR hS hL
theorem k_iastore (C : Cx D tc base own cc nL p s m args meth c) {a n : Nat} {f : Int → Int} {j x : Int} (hd : decode cc pc = .ok (.iastore, 1)) (hh : h a = some (eA 0 n f)) (h0 : 0 ≤ j) (h1 : j < n) (hn : n < 2147483648) (k : Wk D tc base nL p l e R s m args below meth c cells slots Q (pc + 1) (L) (st) (hs h a (eA 0 n (iu f j x)))) : Wk D tc base nL p l e R s m args below meth c cells slots Q (pc) (L) (aI x :: aI j :: aR a :: st) (h) := by
  intro H locs ls hR hS hL
  have hcell : H[a]? = some (vp_cell (tc 0) (n, .inl (fun k => zi (f k)))) := (hR a _ hh).2
  refine W.iast C.1 C.2.1 hcell ((C.2.2.2.2.2.1.2 0 _ rfl).1 n (fun j => .int (zi (f j)))) (fun q => by cases q) (by show ¬ (zi j < 0 ∨ (arrV _ _ _).slots.size ≤ _); rw [arrV_size]; exact zi_in h0 h1 hn) rfl rfl hd fun H1 e z oq => ?_
  refine k H1 _ ls (hR.set (hR a _ hh).1 ?_ oq) (hS.put z oq (hR a _ hh).1) hL
  show H1[a]? = some (vp_cell _ _)
  rw [e, vp_cell_i, arrV_store]
  show _ = some (vp_cell (tc 0) (n, .inl (fun k => zi (iu f j x k))))
  rw [vp_cell_i]
  congr 2
  funext q
  rw [zi_clamp h0 (by omega)]
  by_cases hq : q = j.toNat
  · subst hq
    have : ((j.toNat : Nat) : Int) = j := by omega
    simp [updV, iu, this]
  · have : ¬ (q : Int) = j := by omega
    simp [updV, iu, hq, this]
theorem k_get (C : Cx D tc base own cc nL p s m args meth c) {Cn : String} {T : u_T} {N ci index k a : Nat} {fs : List AV} {v : AV} (hin : ∀ w ∈ u_ws Cn T N, w ∈ gl_w) (hc : vwCl[ci]? = some (Cn, T, N)) (hk : k < N) (hlk : Cond.fieldLink own index (T k).1 (T k).2.1 (T k).2.2.1 ∈ gl_w) (hd : decode cc pc = .ok (.getfield index, 3)) (hh : h a = some (eO ci fs)) (hv : fs[k]? = some v) (kk : Wk D tc base nL p l e R s m args below meth c cells slots Q (pc + 3) (L) (v :: st) (h)) : Wk D tc base nL p l e R s m args below meth c cells slots Q (pc) (L) (aR a :: st) (h) := by
  intro H locs ls hR hS hL
  exact va_get C.1 C.2.1 C.2.2.2.2.1 hin C.2.2.2.1 C.2.2.2.2.2.1 (va_P1 (hR a _ hh).2) 0 rfl hc k hk (C.2.2.2.2.1 _ hlk) (fun _ q => q) (v := cv v) (by rw [List.getElem?_map, hv]; rfl) hd (kk H locs ls hR hS hL)
theorem k_putG (C : Cx D tc base own cc nL p s m args meth c) {Cn : String} {T : u_T} {N ci index k a : Nat} {fs : List AV} {v : AV} {ty0 : Nat → FieldType} (hin : ∀ w ∈ u_ws Cn T N, w ∈ gl_w) (hty : ∀ k, k < N → parseFieldDescriptor (T k).2.2.1 = some (ty0 k)) (hnm : ∀ a, a < N → ∀ b, b < N → a ≠ b → (T a).2.1 ≠ (T b).2.1) (hc : vwCl[ci]? = some (Cn, T, N)) (hk : k < N) (hlk : Cond.fieldLink own index (T k).1 (T k).2.1 (T k).2.2.1 ∈ gl_w) (hfin : (T k).2.2.2 = false) {ty : FieldType} (hdd : parseFieldDescriptor (T k).2.2.1 = some ty) (hn : narrow ty (cv v) = cv v) (hfit : fits ty (cv v) = true) (hl : k < fs.length) (hd : decode cc pc = .ok (.putfield index, 3)) (hh : h a = some (eO ci fs)) (kk : Wk D tc base nL p l e R s m args below meth c cells slots Q (pc + 3) (L) (st) (hs h a (eO ci (fs.set k v)))) : Wk D tc base nL p l e R s m args below meth c cells slots Q (pc) (L) (v :: aR a :: st) (h) := by
  intro H locs ls hR hS hL
  have hK := C.2.2.2.2.2.1
  have hts := C.2.2.2.2.1
  have hap := va_apart (own := own) hts hin ty0 hty hnm hK hc
  have hA := (hR a _ hh).1
  obtain ⟨r, h1, cell, q1, q2, q3, q4⟩ := (hR a _ hh).2
  have hr : r = (Cn, T, N) := Option.some.inj (h1.symm.trans hc)
  subst hr
  obtain ⟨hSl, hfc, kC, hkC, hkind⟩ := hK.1 ci _ hc
  obtain ⟨cf, kf, fi, f, hi, hsl⟩ := hSl k hk
  have hlay := hts _ (hin _ (u_in_lay hk))
  unfold u_lay at hlay
  rw [if_neg (by rw [hfin]; decide)] at hlay
  have hst := (u_facts hfc hkC (u_lays hts hin hk) hi).1
  have h6 := u_store hfc hkC hkind hlay hi hdd hn hfit
  refine W.putK C.1 C.2.1 (f := f) ⟨C.2.2.2.1, hts _ hlk, ⟨_, _, _, hi⟩, hst⟩ (by rw [q2]; exact h6) q1 q3 (by rw [hsl]; exact k2_hasslot (q4 k hk)) rfl rfl hd fun H' e1 e2 e3 => ?_
  rw [hsl] at e1 ⊢
  have hl' : k < (fs.map cv).length := by rw [List.length_map]; exact hl
  have hset : (fs.set k v).map cv = (fs.map cv).set k (cv v) := List.map_set
  refine kk H' _ ls (hR.set hA ⟨_, hc, ?_⟩ e3) (hS.put e2 e3 hA) hL
  show t_OB a (D.1 ci) N (D.2 ci) H' (vp_V ((fs.set k v).map cv))
  rw [hset]
  exact t_OB.to (V := updV (vp_V (fs.map cv)) k (cv v)) ⟨_, e1, q2, q3, t_set q4 hap hk _⟩ (fun j _ => vp_updV_set hl' _ j)
theorem k_put (C : Cx D tc base own cc nL p s m args meth c) {Cn : String} {T : u_T} {N ci index k a : Nat} {fs : List AV} {x : Int} {ty0 : Nat → FieldType} (hin : ∀ w ∈ u_ws Cn T N, w ∈ gl_w) (hty : ∀ k, k < N → parseFieldDescriptor (T k).2.2.1 = some (ty0 k)) (hnm : ∀ a, a < N → ∀ b, b < N → a ≠ b → (T a).2.1 ≠ (T b).2.1) (hc : vwCl[ci]? = some (Cn, T, N)) (hk : k < N) (hlk : Cond.fieldLink own index (T k).1 (T k).2.1 "I" ∈ gl_w) (hty1 : (T k).2.2 = ("I", false)) (hl : k < fs.length) (hd : decode cc pc = .ok (.putfield index, 3)) (hh : h a = some (eO ci fs)) (kk : Wk D tc base nL p l e R s m args below meth c cells slots Q (pc + 3) (L) (st) (hs h a (eO ci (fs.set k (aI x))))) : Wk D tc base nL p l e R s m args below meth c cells slots Q (pc) (L) (aI x :: aR a :: st) (h) :=
  k_putG C hin hty hnm hc hk (by rw [hty1]; exact hlk) (by rw [hty1]) (ty := .int) (by rw [hty1]; decide +kernel) rfl rfl hl hd hh kk
theorem k_iret (C : Cx D tc base own cc nL p s m args meth c) {post : Option AV → AH → Prop} {x : Int} (hr : meth.sig.returnType = some .int) (hd : decode cc pc = .ok (.ireturn, 1)) (hp : post (some (aI x)) h) : Wk D tc base nL p l e R s m args below meth c cells slots (MQ below (Qx D tc base post) args s cells slots (fun q => base ≤ q)) pc L [aI x] h :=
  fun H locs ls hR hS hL => W.iret (v := zi x) C.1 C.2.1 hr (fun t ht hW => ⟨⟨some (aI x), h, rfl, hp, by rw [ht]; exact hR⟩, hS.F ht⟩) hS.2.2 hd C.2.2.2.2.2.2.1
theorem k_zret (C : Cx D tc base own cc nL p s m args meth c) {post : Option AV → AH → Prop} {x : Int} (hr : meth.sig.returnType = some .boolean) (hd : decode cc pc = .ok (.ireturn, 1)) (hx : x = 0 ∨ x = 1) (hp : post (some (aI x)) h) : Wk D tc base nL p l e R s m args below meth c cells slots (MQ below (Qx D tc base post) args s cells slots (fun q => base ≤ q)) pc L [aI x] h :=
  fun H locs ls hR hS hL => W.zret (v := zi x) C.1 C.2.1 hr (by rcases hx with rfl | rfl <;> decide +kernel) (fun t ht hW => ⟨⟨some (aI x), h, rfl, hp, by rw [ht]; exact hR⟩, hS.F ht⟩) hS.2.2 hd C.2.2.2.2.2.2.1
theorem k_vret (C : Cx D tc base own cc nL p s m args meth c) {post : Option AV → AH → Prop} (hr : meth.sig.returnType = none) (hd : decode cc pc = .ok (.return_, 1)) (hp : post none h) : Wk D tc base nL p l e R s m args below meth c cells slots (MQ below (Qx D tc base post) args s cells slots (fun q => base ≤ q)) pc L [] h :=
  fun H locs ls hR hS hL => W.vret C.1 C.2.1 hr (fun t ht hW => ⟨⟨none, h, rfl, hp, by rw [ht]; exact hR⟩, hS.F ht⟩) hS.2.2 hd C.2.2.2.2.2.2.1
theorem k_lret (C : Cx D tc base own cc nL p s m args meth c) {post : Option AV → AH → Prop} {x : Int} (hr : meth.sig.returnType = some .long) (hd : decode cc pc = .ok (.lreturn, 1)) (hp : post (some (aL x)) h) : Wk D tc base nL p l e R s m args below meth c cells slots (MQ below (Qx D tc base post) args s cells slots (fun q => base ≤ q)) pc L [aL x] h :=
  fun H locs ls hR hS hL => W.lret (v := zj x) C.1 C.2.1 hr (fun t ht hW => ⟨⟨some (aL x), h, rfl, hp, by rw [ht]; exact hR⟩, hS.F ht⟩) hS.2.2 hd C.2.2.2.2.2.2.1
theorem k_dret (C : Cx D tc base own cc nL p s m args meth c) {post : Option AV → AH → Prop} {x : UInt64} (hr : meth.sig.returnType = some .double) (hd : decode cc pc = .ok (.dreturn, 1)) (hp : post (some (aD x)) h) : Wk D tc base nL p l e R s m args below meth c cells slots (MQ below (Qx D tc base post) args s cells slots (fun q => base ≤ q)) pc L [aD x] h :=
  fun H locs ls hR hS hL => W.dret (v := x) C.1 C.2.1 hr (fun t ht hW => ⟨⟨some (aD x), h, rfl, hp, by rw [ht]; exact hR⟩, hS.F ht⟩) hS.2.2 hd C.2.2.2.2.2.2.1
/-- what a call's start needs, out of the caller's place -/
theorem Px.at (C : Cx D tc base own cc nL p s m args meth c) {H : Heap} {locs : List Loc} (hR : Rep D tc base h H) (hS : va_S (fun q => base ≤ q) s.heap H locs) {U : State} (hU : U.heap = H) (hW : s.WarmedH U.vm) : Px D tc base h U :=
  ⟨by rw [hU]; exact Nat.le_trans C.2.2.2.2.2.2.2.1 hS.1, by rw [hU]; exact hR, va_K.moved hW.alike C.2.2.2.2.2.1, C.2.2.2.2.2.2.2.2.go hW.alike (fun q h1 h2 => by rw [hU]; exact hS.2.1 q h1 h2)⟩
/-- behind a call -/
theorem k_run (C : Cx D tc base own cc nL p s m args meth c) {g : Array Value} {rest : List AV} {post : Option AV → AH → Prop} (hcs : cells ≤ R.cells ∧ slots ≤ R.slots)
    (run : ∀ (H : Heap) (locs : List Loc) (ls : Array Slot), Rep D tc base h H → va_S (fun q => base ≤ q) s.heap H locs → lvP ls nL L → va_Run p l e R s m args below meth c H locs cells slots 0 0 (F0 m pc ls (st.map cv)) (rest.map cv) (Qx D tc base post g) (fun q => base ≤ q))
    (k : ∀ (r : Option AV) (h' : AH), post r h' → Wk D tc base nL p l e R s m args below meth c cells slots Q (pc + 3) (L) (pu r rest) (h')) : Wk D tc base nL p l e R s m args below meth c cells slots Q (pc) (L) (st) (h) := by
  intro H locs ls hR hS hL T hT X
  obtain ⟨v, st₀, t, T', Ls, h0, X', hLs, e1, e2, ⟨⟨r, h', hv, hp, hR'⟩, hF⟩, step⟩ := run H locs ls hR hS hL T hT X
  have hv : v = r.map cv := Outcome.returned.inj hv
  subst hv
  have hz := hF.1
  have hk := hF.2
  rw [h0] at hz hk
  obtain ⟨t2, a1, b1⟩ := k r h' hp T'.heap (locs ++ Ls) ls (by rw [e1]; exact hR') ⟨Nat.le_trans hS.1 (by rw [e1]; exact hz), fun q h1 h2 => by rw [e1, hk q (Nat.lt_of_lt_of_le h1 hS.1) h2]; exact hS.2.1 q h1 h2, fun q hq => by
      rcases List.mem_append.mp hq with h | h
      · exact hS.2.2 q h
      · exact hLs q h⟩ hL T' rfl X'
  refine ⟨t2, step t2 ?_, b1⟩
  have es : (pu r rest).map cv = (r.map cv).toList ++ rest.map cv := by cases r <;> rfl
  rw [es] at a1
  exact a1
theorem k_callV (C : Cx D tc base own cc nL p s m args meth c) {y : MethodName} {bytes : ByteArray} {maxL d n idx a ci N : Nat} {ret : Option FieldType} {as rest fs : List AV} {post : Option AV → AH → Prop} {cn : String} {T : u_T}
    (hM : CT l D tc base y bytes maxL ret d (aR a :: as) h post) (hml : Cond.methodLink own idx y ∈ gl_w) (him : Cond.instanceMethod y ∈ gl_w) (hse : Cond.selects cn y y ∈ gl_w) (hini : Cond.initialized cn ∈ gl_w) (hco : Cond.code y bytes maxL ret ∈ gl_w)
    (hy : y.cls = cn ∧ y.cls ≠ "java/lang/invoke/MethodHandle" ∧ y.cls ≠ "java/lang/invoke/VarHandle" ∧ (parseMethodDescriptor y.desc).map (fun d => d.parameters.length) = some n) (hn : as.length = n)
    (hc : vwCl[ci]? = some (cn, T, N)) (hh : h a = some (eO ci fs)) (hrm : d + 1 ≤ R.frames ∧ 8 + (maxL + 11) + 40 * d ≤ R.locals) (hst : st = as.reverse ++ aR a :: rest) (hw : ((rest.map cv).map fun v => v.category).sum ≤ 8) (hcs : cells ≤ R.cells ∧ slots ≤ R.slots)
    (hd : decode cc pc = .ok (.invokevirtual idx, 3)) (k : ∀ (r : Option AV) (h' : AH), post r h' → Wk D tc base nL p l e R s m args below meth c cells slots Q (pc + 3) (L) (pu r rest) (h')) : Wk D tc base nL p l e R s m args below meth c cells slots Q (pc) (L) (st) (h) := by
  have hts := C.2.2.2.2.1
  refine k_run C (g := (Value.ref a :: as.map cv).toArray) (post := post) hcs (fun H locs ls hR hS hL => ?_) k
  have hG : GoodIn gl_w (wsV own idx cn y (wsY y bytes maxL ret)) := by
    intro w hw
    have : w ∈ gl_w := by
      rcases List.mem_append.mp hw with h | h
      · simp only [List.mem_cons, List.not_mem_nil, or_false] at h
        rcases h with rfl | rfl | rfl | rfl
        · exact hml
        · exact him
        · exact hse
        · exact hini
      · rcases List.mem_cons.mp h with rfl | h
        · exact hco
        · exact h
    exact gl_self w this
  refine va_runV (As := as.map cv) (rest := rest.map cv) ⟨C.1, C.2.1, C.2.2.1, C.2.2.2.1, hts⟩ hM (cwV n hts hG rfl rfl rfl hy hrm) ⟨Px.blind _, va_recv (q0 := 0) C.2.2.2.2.2.1 (va_P1 (hR a _ hh).2) hc rfl, fun U hU hW => ⟨rfl, Px.at C hR hS hU hW⟩⟩ rfl (by rw [List.length_map]; exact hn) hL.1 ?_ (lv_room hw) hd hcs
  show st.map cv = _
  rw [hst, List.map_append, List.map_reverse]
  rfl
theorem k_callS (C : Cx D tc base own cc nL p s m args meth c) {y : MethodName} {bytes : ByteArray} {maxL d n idx : Nat} {ret : Option FieldType} {as rest : List AV} {post : Option AV → AH → Prop}
    (hM : CT l D tc base y bytes maxL ret d as h post) (hml : Cond.methodLink own idx y ∈ gl_w) (hsm : Cond.static y ∈ gl_w) (hini : Cond.initialized y.cls ∈ gl_w) (hco : Cond.code y bytes maxL ret ∈ gl_w)
    (hy : y.cls ≠ "java/lang/invoke/MethodHandle" ∧ y.cls ≠ "java/lang/invoke/VarHandle" ∧ (parseMethodDescriptor y.desc).map (fun d => d.parameters.length) = some n) (hn : as.length = n)
    (hrm : d + 1 ≤ R.frames ∧ 8 + (maxL + 11) + 40 * d ≤ R.locals) (hst : st = as.reverse ++ rest) (hw : ((rest.map cv).map fun v => v.category).sum ≤ 8) (hcs : cells ≤ R.cells ∧ slots ≤ R.slots)
    (hd : decode cc pc = .ok (.invokestatic idx, 3)) (k : ∀ (r : Option AV) (h' : AH), post r h' → Wk D tc base nL p l e R s m args below meth c cells slots Q (pc + 3) (L) (pu r rest) (h')) : Wk D tc base nL p l e R s m args below meth c cells slots Q (pc) (L) (st) (h) := by
  have hts := C.2.2.2.2.1
  refine k_run C (g := (as.map cv).toArray) (post := post) hcs (fun H locs ls hR hS hL => ?_) k
  have hG : GoodIn gl_w (va_wsS own idx y (wsY y bytes maxL ret)) := by
    intro w hw
    have : w ∈ gl_w := by
      rcases List.mem_append.mp hw with h | h
      · simp only [List.mem_cons, List.not_mem_nil, or_false] at h
        rcases h with rfl | rfl | rfl
        · exact hml
        · exact hsm
        · exact hini
      · rcases List.mem_cons.mp h with rfl | h
        · exact hco
        · exact h
    exact gl_self w this
  refine va_runS (As := as.map cv) (rest := rest.map cv) ⟨C.1, C.2.1, C.2.2.1, C.2.2.2.1, hts⟩ hM (va_cwS n hts hG rfl rfl rfl hy hrm) ⟨Px.blind _, fun U hU hW => ⟨rfl, Px.at C hR hS hU hW⟩⟩ rfl (by rw [List.length_map]; exact hn) hL.1 ?_ (lv_room hw) hd hcs
  show st.map cv = _
  rw [hst, List.map_append, List.map_reverse]
end WKC
theorem hs_same {h : AH} {a : Nat} {e : AE} (hh : h a = some e) : hs h a e = h := by
  funext j
  simp only [hs]
  split
  · rename_i hj
    rw [hj, hh]
  · rfl
def lsub : List (Option AV) → List (Option AV) → Prop
  | [], _ => True
  | none :: t, [] => lsub t []
  | none :: t, _ :: u => lsub t u
  | some _ :: _, [] => False
  | some v :: t, w :: u => w = some v ∧ lsub t u
theorem lsub_spec : ∀ {L' L : List (Option AV)}, lsub L' L → ∀ (i : Nat) (v : AV), L'[i]? = some (some v) → L[i]? = some (some v)
  | [], _, _, i, v, hi => by simp at hi
  | none :: t, [], h, i, v, hi => by
    cases i with
    | zero => simp at hi
    | succ i =>
      rw [List.getElem?_cons_succ] at hi
      have := lsub_spec (show lsub t [] from h) i v hi
      simp at this
  | none :: t, w :: u, h, i, v, hi => by
    cases i with
    | zero => simp at hi
    | succ i =>
      rw [List.getElem?_cons_succ] at hi ⊢
      exact lsub_spec (show lsub t u from h) i v hi
  | some x :: t, w :: u, h, i, v, hi => by
    cases i with
    | zero =>
      rw [List.getElem?_cons_zero] at hi ⊢
      rw [(show w = some x ∧ lsub t u from h).1]
      exact hi
    | succ i =>
      rw [List.getElem?_cons_succ] at hi ⊢
      exact lsub_spec (show w = some x ∧ lsub t u from h).2 i v hi
/-- fewer locals are spoken of -/
theorem k_sub {D : va_G} {tc : Nat → ClassId} {base nL : Nat} {p : Program} {l : Launch} {e : Env} {R : Room} {s : State} {m : MethodId} {args : Array Value} {below : List Frame} {meth : Method} {c : Code} {cells slots : Nat} {Q : State → Prop} {pc : Nat} {L L' : List (Option AV)} {st : List AV} {h : AH} (k : Wk D tc base nL p l e R s m args below meth c cells slots Q (pc) (L') (st) (h)) (hl : lsub L' L) : Wk D tc base nL p l e R s m args below meth c cells slots Q (pc) (L) (st) (h) := by
  intro H locs ls hR hS hL
  refine k H locs ls hR hS ⟨hL.1, hL.2.1, fun q hq => ?_⟩
  obtain ⟨i, v, h1, rfl⟩ := asc_mem.mp hq
  exact hL.2.2 _ (asc_mem.mpr ⟨i, v, lsub_spec hl i v h1, rfl⟩)
section WKX
variable {D : va_G} {tc : Nat → ClassId} {base nL : Nat} {own : String} {cc : ByteArray} {p : Program} {l : Launch} {e : Env} {R : Room} {s : State} {m : MethodId} {args : Array Value} {below : List Frame} {meth : Method} {c : Code} {cells slots : Nat} {Q : State → Prop} {pc : Nat} {L : List (Option AV)} {st : List AV} {h : AH}
theorem zi_divT {x y : Int} (hx : r32 x) (hy : r32 y) : zi x / zi y = zi (x.tdiv y) := by
  rw [← Int32.toInt_inj, Int32.toInt_div, zi_toInt hx, zi_toInt hy]
  unfold zi
  rw [Int32.toInt_ofInt]
theorem zi_remT {x y : Int} (hx : r32 x) (h0 : 0 < y) (hy : y < 2147483648) : zi x - zi x / zi y * zi y = zi (x.tmod y) := by
  rw [zi_divT hx ⟨by omega, hy⟩, zi_mul, zi_sub, Int.tmod_def, Int.mul_comm]
theorem k_iremT (C : Cx D tc base own cc nL p s m args meth c) {x y : Int} (hd : decode cc pc = .ok (.irem, 1)) (hx : r32 x) (hy0 : 0 < y) (hy : y < 2147483648) (k : Wk D tc base nL p l e R s m args below meth c cells slots Q (pc + 1) (L) (aI (x.tmod y) :: st) (h)) : Wk D tc base nL p l e R s m args below meth c cells slots Q (pc) (L) (aI y :: aI x :: st) (h) :=
  fun H locs ls hR hS hL => lv_irem C.1 C.2.1 hd (zi_pos hy0 hy) (by rw [zi_remT hx hy0 hy]; exact k H locs ls hR hS hL)
theorem zi_xorS {x y : Int} (hx : r32 x) (hy0 : 0 ≤ y) (hy : y < 2147483648) : ((zi x ^^^ zi y).toInt < 0 ↔ x < 0) := by
  have neg : ∀ v : Int32, v.toInt < 0 ↔ v.toBitVec.msb = true := fun v => by
    rw [← Int32.toInt_toBitVec]
    exact (BitVec.msb_eq_toInt (x := v.toBitVec)) ▸ by simp
  rw [neg, Int32.toBitVec_xor, BitVec.msb_xor]
  have h1 : (zi y).toBitVec.msb = false := by
    rcases hm : (zi y).toBitVec.msb with _ | _
    · rfl
    · have := (neg (zi y)).mpr hm
      rw [zi_toInt ⟨by omega, hy⟩] at this
      omega
  rw [h1, Bool.xor_false, ← neg, zi_toInt hx]
theorem k_ixorS (C : Cx D tc base own cc nL p s m args meth c) {x y : Int} (hd : decode cc pc = .ok (.ixor, 1)) (hx : r32 x) (hy0 : 0 ≤ y) (hy : y < 2147483648) (k : ∀ v : Int, r32 v → (v < 0 ↔ x < 0) → Wk D tc base nL p l e R s m args below meth c cells slots Q (pc + 1) (L) (aI v :: st) (h)) : Wk D tc base nL p l e R s m args below meth c cells slots Q (pc) (L) (aI y :: aI x :: st) (h) :=
  fun H locs ls hR hS hL => lv_ixor C.1 C.2.1 hd (by
    have := k (zi x ^^^ zi y).toInt (r32_of _) (zi_xorS hx hy0 hy) H locs ls hR hS hL
    rw [show (List.map cv (aI (zi x ^^^ zi y).toInt :: st)) = .int (zi x ^^^ zi y) :: st.map cv by show Value.int (zi _) :: _ = _; rw [zi_of]] at this
    exact this)
end WKX
theorem hs2 (h : AH) (a b : Nat) (x y x' y' : AE) : hs (hs (hs (hs h a x) b y) a x') b y' = hs (hs h a x') b y' := by
  funext j
  simp only [hs]
  (repeat' split) <;> first | rfl | contradiction
theorem hs3 (h : AH) (a b c : Nat) (x y z x' y' z' : AE) : hs (hs (hs (hs (hs (hs h a x) b y) c z) a x') b y') c z' = hs (hs (hs h a x') b y') c z' := by
  funext j
  simp only [hs]
  (repeat' split) <;> first | rfl | contradiction
theorem hs5 (h : AH) (a b c d e : Nat) (x y z u v x' y' z' u' v' : AE) : hs (hs (hs (hs (hs (hs (hs (hs (hs (hs h a x) b y) c z) d u) e v) a x') b y') c z') d u') e v' = hs (hs (hs (hs (hs h a x') b y') c z') d u') e v' := by
  funext j
  simp only [hs]
  (repeat' split) <;> first | rfl | contradiction
theorem cpy_s {F g : Int → Int} {k : Int} (h : ∀ j : Int, 0 ≤ j → j < k → F j = g j) : ∀ j : Int, 0 ≤ j → j < k + 1 → iu F k (g k) j = g j := by
  intro j h0 h1
  by_cases hj : j = k
  · subst hj
    rw [iu_eq]
  · rw [iu_ne hj]
    exact h j h0 (by omega)
theorem cpy_0 {F g : Int → Int} : ∀ j : Int, 0 ≤ j → j < 0 → F j = g j := fun j h0 h1 => by omega

