/-! ROWS THAT THE LAW NEEDS: the script, shifts, a constant; the law's five arrays and the row z -/
def Scr (base b LL : Nat) (xs : Nat → Int32) (s : State) : Prop := va_X b LL xs s s.heap ∧ b < s.heap.size ∧ ¬ base ≤ b ∧ LL ≤ 260
theorem ushr1 (u : UInt32) : 0 ≤ ((u >>> 1).toInt32).toInt := by
  have h : (u >>> 1).toNat < 2147483648 := by
    rw [UInt32.toNat_shiftRight]
    have := u.toNat_lt
    show u.toNat >>> (1 % 32) < _
    rw [Nat.shiftRight_eq_div_pow, show 2 ^ (1 % 32) = 2 from rfl]
    omega
  have h2 : ((u >>> 1).toInt32).toInt = ((u >>> 1).toNat : Int) := by
    show (u >>> 1).toBitVec.toInt = ((u >>> 1).toBitVec.toNat : Int)
    rw [BitVec.toInt_eq_toNat_cond, if_pos (by have : (u >>> 1).toBitVec.toNat < 2147483648 := h; omega)]
  omega
section WKR
variable {D : va_G} {tc : Nat → ClassId} {base nL : Nat} {own : String} {cc : ByteArray} {p : Program} {l : Launch} {e : Env} {R : Room} {s : State} {m : MethodId} {args : Array Value} {below : List Frame} {meth : Method} {c : Code} {cells slots : Nat} {Q : State → Prop} {pc : Nat} {L : List (Option AV)} {st : List AV} {h : AH}
theorem k_wid {k n : Nat} (h1 : cells ≤ k) (h2 : slots ≤ n) (kk : Wk D tc base nL p l e R s m args below meth c k n Q pc L st h) : Wk D tc base nL p l e R s m args below meth c cells slots Q pc L st h :=
  fun H locs ls hR hS hL => W.widen h1 h2 (kk H locs ls hR hS hL)
theorem k_sld (C : Cx D tc base own cc nL p s m args meth c) {b LL : Nat} {xs : Nat → Int32} (hX : Scr base b LL xs s) {q : Int} (h0 : 0 ≤ q) (h1 : q < LL) (hd : decode cc pc = .ok (.iaload, 1)) (k : ∀ v : Int, Wk D tc base nL p l e R s m args below meth c cells slots Q (pc + 1) (L) (aI v :: st) (h)) : Wk D tc base nL p l e R s m args below meth c cells slots Q (pc) (L) (aI q :: aR b :: st) (h) := by
  intro H locs ls hR hS hL
  obtain ⟨x1, x2, x3, x4⟩ := hX
  refine va_sld C.1 C.2.1 x1 x2 x3 hS (zi_in h0 h1 (by omega)) hd ?_
  rw [zi_clamp h0 (by omega)]
  have := k (xs q.toNat).toInt H locs ls hR hS hL
  rw [show (aI (xs q.toNat).toInt :: st).map cv = Value.int (xs q.toNat) :: st.map cv by (show Value.int (zi (xs q.toNat).toInt) :: _ = _; rw [zi_of])] at this
  exact this
theorem k_slen (C : Cx D tc base own cc nL p s m args meth c) {b LL : Nat} {xs : Nat → Int32} (hX : Scr base b LL xs s) (hd : decode cc pc = .ok (.arraylength, 1)) (k : Wk D tc base nL p l e R s m args below meth c cells slots Q (pc + 1) (L) (aI LL :: st) (h)) : Wk D tc base nL p l e R s m args below meth c cells slots Q (pc) (L) (aR b :: st) (h) := by
  intro H locs ls hR hS hL
  obtain ⟨x1, x2, x3, x4⟩ := hX
  refine va_slen C.1 C.2.1 x1 x2 x3 hS hd ?_
  have := k H locs ls hR hS hL
  rw [show (aI LL :: st).map cv = Value.int (Int32.ofNat LL) :: st.map cv by (show Value.int (zi LL) :: _ = _; rw [← zi_nI]; rfl)] at this
  exact this
theorem k_ishrO (C : Cx D tc base own cc nL p s m args meth c) {x y : Int} (hd : decode cc pc = .ok (.ishr, 1)) (k : ∀ v : Int, Wk D tc base nL p l e R s m args below meth c cells slots Q (pc + 1) (L) (aI v :: st) (h)) : Wk D tc base nL p l e R s m args below meth c cells slots Q (pc) (L) (aI y :: aI x :: st) (h) := by
  intro H locs ls hR hS hL
  refine lv_ishr C.1 C.2.1 hd ?_
  have := k (zi x >>> (zi y &&& 31)).toInt H locs ls hR hS hL
  rw [show (aI (zi x >>> (zi y &&& 31)).toInt :: st).map cv = Value.int (zi x >>> (zi y &&& 31)) :: st.map cv by (show Value.int (zi _) :: _ = _; rw [zi_of])] at this
  exact this
theorem zi_1u : (zi 1).toUInt32 &&& Int32.toUInt32 31 = 1 := by decide +kernel
theorem k_iushr1 (C : Cx D tc base own cc nL p s m args meth c) {x : Int} (hd : decode cc pc = .ok (.iushr, 1)) (k : ∀ v : Int, 0 ≤ v → v < 2147483648 → Wk D tc base nL p l e R s m args below meth c cells slots Q (pc + 1) (L) (aI v :: st) (h)) : Wk D tc base nL p l e R s m args below meth c cells slots Q (pc) (L) (aI 1 :: aI x :: st) (h) := by
  intro H locs ls hR hS hL
  refine lv_iushr (v := ((zi x).toUInt32 >>> 1).toInt32) C.1 C.2.1 hd (by rw [zi_1u]) ?_
  have := k (((zi x).toUInt32 >>> 1).toInt32).toInt (ushr1 _) (r32_of _).2 H locs ls hR hS hL
  rw [show (aI (((zi x).toUInt32 >>> 1).toInt32).toInt :: st).map cv = Value.int (((zi x).toUInt32 >>> 1).toInt32) :: st.map cv by (show Value.int (zi _) :: _ = _; rw [zi_of])] at this
  exact this
theorem k_dup_x2 (C : Cx D tc base own cc nL p s m args meth c) {v u w : AV} (hd : decode cc pc = .ok (.dup_x2, 1)) (hv : (cv v).category = 1) (hu : (cv u).category = 1) (hw : (cv w).category = 1) (k : Wk D tc base nL p l e R s m args below meth c cells slots Q (pc + 1) (L) (v :: u :: w :: v :: st) (h)) : Wk D tc base nL p l e R s m args below meth c cells slots Q (pc) (L) (v :: u :: w :: st) (h) :=
  fun H locs ls hR hS hL => lv_dup_x2 C.1 C.2.1 hd hv hu hw (k H locs ls hR hS hL)
theorem k_ldcI (C : Cx D tc base own cc nL p s m args meth c) {index : Nat} {v : Int32} {x : Int} (hk : Cond.constant own index v ∈ gl_w) (hv : v = zi x) (hd : decode cc pc = .ok (.ldc index, 2)) (k : Wk D tc base nL p l e R s m args below meth c cells slots Q (pc + 2) (L) (aI x :: st) (h)) : Wk D tc base nL p l e R s m args below meth c cells slots Q (pc) (L) (st) (h) := by
  intro H locs ls hR hS hL
  refine lv_ldc (v := v) C.1 C.2.1 C.2.2.2.1 (C.2.2.2.2.1 _ hk) hd ?_
  rw [hv]
  exact k H locs ls hR hS hL
/-- nothing is said of a branch's two numbers -/
theorem k_if_neO (C : Cx D tc base own cc nL p s m args meth c) {x off : Int} {tgt : Nat} (hd : decode cc pc = .ok (.ifCond .ne off, 3)) (ht : (pc : Int) + off = (tgt : Int)) (kt : Wk D tc base nL p l e R s m args below meth c cells slots Q (tgt) (L) (st) (h)) (kf : Wk D tc base nL p l e R s m args below meth c cells slots Q (pc + 3) (L) (st) (h)) : Wk D tc base nL p l e R s m args below meth c cells slots Q (pc) (L) (aI x :: st) (h) :=
  fun H locs ls hR hS hL => lv_if_ne C.1 C.2.1 hd ht (fun _ => kt H locs ls hR hS hL) (fun _ => kf H locs ls hR hS hL)
end WKR
theorem Scr.go {base b LL : Nat} {xs : Nat → Int32} {U V : State} (h : Scr base b LL xs U) (hvm : U.vm.Alike V.vm) (hz : U.heap.size ≤ V.heap.size) (hq : ∀ q : Nat, q < U.heap.size → ¬ base ≤ q → V.heap[q]? = U.heap[q]?) : Scr base b LL xs V :=
  ⟨va_X.moved hvm (h.1.kept (hq b h.2.1 h.2.2.1)), Nat.lt_of_lt_of_le h.2.1 hz, h.2.2⟩
/-- a method that reads the script: its contract -/
def CS (l : Launch) (D : va_G) (tc : Nat → ClassId) (base b LL : Nat) (xs : Nat → Int32) (y : MethodName) (bytes : ByteArray) (maxL : Nat) (ret : Option FieldType) (d : Nat) (as : List AV) (h : AH) (post : Option AV → AH → Prop) : Prop :=
  Met l y (wsY y bytes maxL ret) (lvR d) (va_Pc (as.map cv) (fun U => Px D tc base h U ∧ Scr base b LL xs U)) (Qx D tc base post) 0 0 (fun q => base ≤ q)
theorem PxS.blind {D : va_G} {tc : Nat → ClassId} {base b LL : Nat} {xs : Nat → Int32} {h : AH} (vs : List Value) : FrameBlind (va_Pc vs (fun U => Px D tc base h U ∧ Scr base b LL xs U)) := by
  intro a U g mk q
  obtain ⟨q0, ⟨q1, q2, q3, q4⟩, q5⟩ := q
  exact ⟨q0, ⟨q1, q2, va_K.moved (u := U) (U := U.calling g mk a) (Vm.Alike.refl U.vm) q3, StF.go (V := U.calling g mk a) q4 (Vm.Alike.refl U.vm) (fun _ _ _ => rfl)⟩, Scr.go (V := U.calling g mk a) q5 (Vm.Alike.refl U.vm) (Nat.le_refl _) (fun _ _ _ => rfl)⟩
theorem CS.of {l : Launch} {D : va_G} {tc : Nat → ClassId} {base b LL : Nat} {xs : Nat → Int32} {y : MethodName} {bytes : ByteArray} {maxL : Nat} {ret : Option FieldType} {d : Nat} {as : List AV} {h : AH} {post : Option AV → AH → Prop} (L0 : List (Option AV))
    (hy : plainFor y = true) (hL0 : asc 0 L0 = lv_args 0 (as.map cv)) (hlen : (lg_sl (as.map cv)).length ≤ maxL)
    (body : ∀ (p : Program) (e : Env) (s : State) (m : MethodId) (args : Array Value) (below : List Frame) (meth : Method) (c : Code), Cx D tc base y.cls bytes maxL p s m args meth c → Scr base b LL xs s → meth.sig.returnType = ret → meth.name = y.name →
      Wk D tc base maxL p l e (lvR d) s m args below meth c 0 0 (MQ below (Qx D tc base post) args s 0 0 (fun q => base ≤ q)) 0 L0 [] h) : CS l D tc base b LL xs y bytes maxL ret d as h post := by
  refine Met_ofWF (cc := bytes) (maxL := maxL) (ret := ret) hy rfl ?_
  intro p e s m args below meth c s₁ B hml hv
  obtain ⟨rfl, ⟨hb0, hR, hK, hF⟩, hX⟩ := hv
  have hts := atoms_spec (ws := wsY y bytes maxL ret) B.pre
  have C : Cx D tc base y.cls bytes maxL p s m (as.map cv).toArray meth c := ⟨B.exec, B.bytes, hml, findClass_of_methodNamed B.named, fun w hw => hts w (List.mem_cons_of_mem _ hw), hK, B.notSynchronized, hb0, hF⟩
  rw [lg_entry_eq]
  have hl := lv_entry (as.map cv) (n := maxL) hlen
  rw [← hL0] at hl
  exact body p e s m _ below meth c C hX B.returns (name_of_methodNamed B.named B.method).1 s.heap [] _ hR va_S.rf hl
section WKR2
variable {D : va_G} {tc : Nat → ClassId} {base nL : Nat} {own : String} {cc : ByteArray} {p : Program} {l : Launch} {e : Env} {R : Room} {s : State} {m : MethodId} {args : Array Value} {below : List Frame} {meth : Method} {c : Code} {cells slots : Nat} {Q : State → Prop} {pc : Nat} {L : List (Option AV)} {st : List AV} {h : AH}
theorem k_callC (C : Cx D tc base own cc nL p s m args meth c) {b LL : Nat} {xs : Nat → Int32} (hX : Scr base b LL xs s) {y : MethodName} {bytes : ByteArray} {maxL d n idx : Nat} {ret : Option FieldType} {as rest : List AV} {post : Option AV → AH → Prop}
    (hM : CS l D tc base b LL xs y bytes maxL ret d as h post) (hml : Cond.methodLink own idx y ∈ gl_w) (hsm : Cond.static y ∈ gl_w) (hini : Cond.initialized y.cls ∈ gl_w) (hco : Cond.code y bytes maxL ret ∈ gl_w)
    (hy : y.cls ≠ "java/lang/invoke/MethodHandle" ∧ y.cls ≠ "java/lang/invoke/VarHandle" ∧ (parseMethodDescriptor y.desc).map (fun d => d.parameters.length) = some n) (hn : as.length = n)
    (hrm : d + 1 ≤ R.frames ∧ 8 + (maxL + 11) + 40 * d ≤ R.locals) (hst : st = as.reverse ++ rest) (hw : ((rest.map cv).map fun v => v.category).sum ≤ 8) (hcs : cells ≤ R.cells ∧ slots ≤ R.slots)
    (hd : decode cc pc = .ok (.invokestatic idx, 3)) (k : ∀ (r : Option AV) (h' : AH), post r h' → Wk D tc base nL p l e R s m args below meth c cells slots Q (pc + 3) (L) (pu r rest) (h')) : Wk D tc base nL p l e R s m args below meth c cells slots Q (pc) (L) (st) (h) := by
  have hts := C.2.2.2.2.1
  refine k_run C (g := (as.map cv).toArray) (post := post) hcs (fun H locs ls hR hS hL => ?_) k
  have hG : GoodIn gl_w (va_wsS own idx y (wsY y bytes maxL ret)) := by
    intro w hw
    have : w ∈ gl_w := by
      rcases List.mem_append.mp hw with h | h
      · simp only [List.mem_cons, List.not_mem_nil, or_false] at h
        rcases h with rfl | rfl | rfl
        · exact hml
        · exact hsm
        · exact hini
      · rcases List.mem_cons.mp h with rfl | h
        · exact hco
        · exact h
    exact gl_self w this
  refine va_runS (As := as.map cv) (rest := rest.map cv) ⟨C.1, C.2.1, C.2.2.1, C.2.2.2.1, hts⟩ hM (va_cwS n hts hG rfl rfl rfl hy hrm) ⟨PxS.blind _, fun U hU hW => ⟨rfl, Px.at C hR hS hU hW, hX.go hW.alike (by rw [hU]; exact hS.1) (fun q h1 h2 => by rw [hU]; exact hS.2.1 q h1 h2)⟩⟩ rfl (by rw [List.length_map]; exact hn) hL.1 ?_ (lv_room hw) hd hcs
  show st.map cv = _
  rw [hst, List.map_append, List.map_reverse]
end WKR2
/-! the law's five arrays at an .. an + 4, and the row z: n, h, se, wi, de; 'kc' is the fifteenth number of n -/
def LR (z : RZ) (kc : Int) (n hh se wi de : Int → Int) : Prop :=
  (n 0 = z 13 ∧ n 1 = z 10 ∧ n 2 = z 9 ∧ n 3 = z 11 ∧ n 4 = z 12 ∧ n 5 = z 14 ∧ n 6 = z 15 ∧ n 7 = z 16 ∧ n 8 = z 17 ∧ n 9 = z 18 ∧ n 10 = z 19 ∧ n 11 = z 20 ∧ n 12 = z 21 ∧ n 13 = z 52 ∧ n 14 = kc) ∧
  (∀ k : Int, 0 ≤ k → k < 9 → hh k = z k) ∧ (∀ k : Int, 0 ≤ k → k < 6 → se k = z (61 + k)) ∧ (∀ k : Int, 0 ≤ k → k < 30 → wi k = z (22 + k)) ∧ (∀ k : Int, 0 ≤ k → k < 8 → de k = z (53 + k))
def LC (h : AH) (an : Nat) (n hh se wi de : Int → Int) : Prop :=
  h an = some (eA 0 15 n) ∧ h (an + 1) = some (eA 0 9 hh) ∧ h (an + 2) = some (eA 0 6 se) ∧ h (an + 3) = some (eA 0 30 wi) ∧ h (an + 4) = some (eA 0 10 de)
def LA (h : AH) (an : Nat) (z : RZ) (kc : Int) : Prop := ∃ n hh se wi de : Int → Int, LC h an n hh se wi de ∧ LR z kc n hh se wi de
theorem LA.fr {h h' : AH} {an : Nat} {z : RZ} {kc : Int} (hA : LA h an z kc) (hq : ∀ a : Nat, an ≤ a → a < an + 5 → h' a = h a) : LA h' an z kc := by
  obtain ⟨n, hh, se, wi, de, ⟨y0, y1, y2, y3, y4⟩, hr⟩ := hA
  exact ⟨n, hh, se, wi, de, ⟨(hq _ (by omega) (by omega)).trans y0, (hq _ (by omega) (by omega)).trans y1, (hq _ (by omega) (by omega)).trans y2, (hq _ (by omega) (by omega)).trans y3, (hq _ (by omega) (by omega)).trans y4⟩, hr⟩
