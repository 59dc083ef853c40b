/-! CONSTRUCTORS: the rows over a heap whose size is told -/
def Wn (D : va_G) (tc : Nat → ClassId) (base nL : Nat) (p : Program) (l : Launch) (e : Env) (R : Room) (s : State) (m : MethodId) (args : Array Value) (below : List Frame) (meth : Method) (c : Code) (cells slots : Nat) (Q : State → Prop) (NN : Nat) (pc : Nat) (L : List (Option AV)) (st : List AV) (h : AH) : Prop :=
  ∀ (H : Heap) (locs : List Loc) (ls : Array Slot), H.size = NN → Rep D tc base h H → va_S (fun q => base ≤ q) s.heap H locs → lvP ls nL L → W p l e R s m args below meth c H locs cells slots Q (F0 m pc ls (st.map cv))
/-- what the constructors need of the world beside -/
def PC (U : State) : Prop := va_Nw (.fieldLinkNest "RemontoirClock$State" 36 "RemontoirClock" "FIRST_VALUE" "[I" "RemontoirClock") U ∧ va_AO "RemontoirClock$State" U
theorem PC.go {U V : State} (h : PC U) (hW : U.WarmedH V.vm) : PC V := ⟨h.1.warmF hW, h.2.moved hW.alike⟩
theorem arrV_z (c : ClassId) (n t : Nat) (ty : FieldType) (tc : Nat → ClassId) (hc : c = tc t) (ht : (t = 0 ∧ ty = .int) ∨ (t = 1 ∧ ty = .char) ∨ (t = 2 ∧ ty = .long)) : ∃ x, ce tc (eA t n (fun _ => 0)) = .inl (tc t, x) ∧ vp_cell (tc t) x = arrV c n (fun _ => defaultValue ty) := by
  subst hc
  rcases ht with ⟨rfl, rfl⟩ | ⟨rfl, rfl⟩ | ⟨rfl, rfl⟩
  · exact ⟨_, rfl, by rw [vp_cell_i]; rfl⟩
  · exact ⟨_, rfl, by rw [vp_cell_i]; rfl⟩
  · exact ⟨_, rfl, rfl⟩
theorem Rep.push {D : va_G} {tc : Nat → ClassId} {base : Nat} {h : AH} {H H1 : Heap} {e : AE} {n : Nat} (hR : Rep D tc base h H) (hn : H.size = n) (hb : base ≤ n) (he : va_at D vwCl (n, ce tc e) H1) (hq : ∀ q : Nat, q < n → H1[q]? = H[q]?) : Rep D tc base (hs h n e) H1 := by
  intro b e' hb'
  by_cases hba : b = n
  · subst hba
    rw [hs_eq] at hb'
    cases hb'
    exact ⟨hb, he⟩
  · simp only [hs, hba, if_false] at hb'
    exact ⟨(hR b e' hb').1, (hR b e' hb').2.kept (hq b (by have := (hR b e' hb').2.lt; omega))⟩
section WKN
variable {D : va_G} {tc : Nat → ClassId} {base nL NN : Nat} {own : String} {cc : ByteArray} {p : Program} {l : Launch} {e : Env} {R : Room} {s : State} {m : MethodId} {args : Array Value} {below : List Frame} {meth : Method} {c : Code} {cells slots : Nat} {Q : State → Prop} {pc : Nat} {L : List (Option AV)} {st : List AV} {h : AH}
theorem n_iconst (C : Cx D tc base own cc nL p s m args meth c) {n : Int} (hd : decode cc pc = .ok (.iconst n, 1)) (k : Wn D tc base nL p l e R s m args below meth c cells slots Q NN (pc + 1) (L) (aI n :: st) (h)) : Wn D tc base nL p l e R s m args below meth c cells slots Q NN (pc) (L) (st) (h) :=
  fun H locs ls hN hR hS hL => lv_iconst C.1 C.2.1 hd rfl (k H locs ls hN hR hS hL)
theorem n_bipush (C : Cx D tc base own cc nL p s m args meth c) {n : Int} (hd : decode cc pc = .ok (.bipush n, 2)) (hv : (Int8.ofInt n).toInt32 = zi n) (k : Wn D tc base nL p l e R s m args below meth c cells slots Q NN (pc + 2) (L) (aI n :: st) (h)) : Wn D tc base nL p l e R s m args below meth c cells slots Q NN (pc) (L) (st) (h) :=
  fun H locs ls hN hR hS hL => lv_bipush C.1 C.2.1 hd hv (k H locs ls hN hR hS hL)
theorem n_sipush (C : Cx D tc base own cc nL p s m args meth c) {n : Int} (hd : decode cc pc = .ok (.sipush n, 3)) (hv : (Int16.ofInt n).toInt32 = zi n) (k : Wn D tc base nL p l e R s m args below meth c cells slots Q NN (pc + 3) (L) (aI n :: st) (h)) : Wn D tc base nL p l e R s m args below meth c cells slots Q NN (pc) (L) (st) (h) :=
  fun H locs ls hN hR hS hL => lv_sipush C.1 C.2.1 hd hv (k H locs ls hN hR hS hL)
theorem n_aload_n (C : Cx D tc base own cc nL p s m args meth c) {n : Fin 4} {x : Nat} (hd : decode cc pc = .ok (.aload_n n, 1)) (hl : L[(n : Nat)]? = some (some (aR x))) (k : Wn D tc base nL p l e R s m args below meth c cells slots Q NN (pc + 1) (L) (aR x :: st) (h)) : Wn D tc base nL p l e R s m args below meth c cells slots Q NN (pc) (L) (st) (h) :=
  fun H locs ls hN hR hS hL => lv_aload_n C.1 C.2.1 hd rfl (hL.get hl) (k H locs ls hN hR hS hL)
theorem n_iload_n (C : Cx D tc base own cc nL p s m args meth c) {n : Fin 4} {x : Int} (hd : decode cc pc = .ok (.iload_n n, 1)) (hl : L[(n : Nat)]? = some (some (aI x))) (k : Wn D tc base nL p l e R s m args below meth c cells slots Q NN (pc + 1) (L) (aI x :: st) (h)) : Wn D tc base nL p l e R s m args below meth c cells slots Q NN (pc) (L) (st) (h) :=
  fun H locs ls hN hR hS hL => lv_iload_n C.1 C.2.1 hd rfl (hL.get hl) (k H locs ls hN hR hS hL)
theorem n_istore_n (C : Cx D tc base own cc nL p s m args meth c) {n : Fin 4} {x : Int} (hd : decode cc pc = .ok (.istore_n n, 1)) (hn : (n : Nat) < nL) (hw : wSb L (n : Nat) = true) (k : Wn D tc base nL p l e R s m args below meth c cells slots Q NN (pc + 1) (L.set (n : Nat) (some (aI x))) (st) (h)) : Wn D tc base nL p l e R s m args below meth c cells slots Q NN (pc) (L) (aI x :: st) (h) :=
  fun H locs ls hN hR hS hL => lv_istore_n C.1 C.2.1 hd rfl hL hn rfl (fun ls' hl' => k H locs ls' hN hR hS (lvP.st1 (v := aI x) hw hl'))
theorem n_iinc (C : Cx D tc base own cc nL p s m args meth c) {i : Nat} {n x : Int} (hd : decode cc pc = .ok (.iinc i n, 3)) (hl : L[i]? = some (some (aI x))) (hn : i < nL) (hw : wSb L i = true) (k : Wn D tc base nL p l e R s m args below meth c cells slots Q NN (pc + 3) (L.set i (some (aI (x + n)))) (st) (h)) : Wn D tc base nL p l e R s m args below meth c cells slots Q NN (pc) (L) (st) (h) := by
  intro H locs ls hN hR hS hL
  obtain ⟨q, hq⟩ := hL.getl hl
  exact lv_iinc (v := zi (x + n)) C.1 C.2.1 hd hL hq (zi_add x n) hn rfl (fun ls' hl' => k H locs ls' hN hR hS (lvP.st1 (v := aI (x + n)) hw hl'))
theorem n_dup (C : Cx D tc base own cc nL p s m args meth c) {v : AV} (hd : decode cc pc = .ok (.dup, 1)) (hv : (cv v).category = 1) (k : Wn D tc base nL p l e R s m args below meth c cells slots Q NN (pc + 1) (L) (v :: v :: st) (h)) : Wn D tc base nL p l e R s m args below meth c cells slots Q NN (pc) (L) (v :: st) (h) :=
  fun H locs ls hN hR hS hL => lv_dup C.1 C.2.1 hd hv (k H locs ls hN hR hS hL)
theorem n_goto (C : Cx D tc base own cc nL p s m args meth c) {off : Int} {tgt : Nat} (hd : decode cc pc = .ok (.goto off, 3)) (ht : (pc : Int) + off = (tgt : Int)) (k : Wn D tc base nL p l e R s m args below meth c cells slots Q NN (tgt) (L) (st) (h)) : Wn D tc base nL p l e R s m args below meth c cells slots Q NN (pc) (L) (st) (h) :=
  fun H locs ls hN hR hS hL => lv_goto C.1 C.2.1 hd ht (k H locs ls hN hR hS hL)
theorem n_icmp_ge (C : Cx D tc base own cc nL p s m args meth c) {x y off : Int} {tgt : Nat} (hd : decode cc pc = .ok (.if_icmp .ge off, 3)) (ht : (pc : Int) + off = (tgt : Int)) (hx : r32 x) (hy : r32 y) (kt : y ≤ x → Wn D tc base nL p l e R s m args below meth c cells slots Q NN (tgt) (L) (st) (h)) (kf : ¬ y ≤ x → Wn D tc base nL p l e R s m args below meth c cells slots Q NN (pc + 3) (L) (st) (h)) : Wn D tc base nL p l e R s m args below meth c cells slots Q NN (pc) (L) (aI y :: aI x :: st) (h) :=
  fun H locs ls hN hR hS hL => lv_icmp_ge C.1 C.2.1 hd ht (fun q => kt ((zi_le hy hx).mp q) H locs ls hN hR hS hL) (fun q => kf (fun z => q ((zi_le hy hx).mpr z)) H locs ls hN hR hS hL)
theorem n_get (C : Cx D tc base own cc nL p s m args meth c) {Cn : String} {T : u_T} {N ci index k a : Nat} {fs : List AV} {v : AV} (hin : ∀ w ∈ u_ws Cn T N, w ∈ gl_w) (hc : vwCl[ci]? = some (Cn, T, N)) (hk : k < N) (hlk : Cond.fieldLink own index (T k).1 (T k).2.1 (T k).2.2.1 ∈ gl_w) (hd : decode cc pc = .ok (.getfield index, 3)) (hh : h a = some (eO ci fs)) (hv : fs[k]? = some v) (kk : Wn D tc base nL p l e R s m args below meth c cells slots Q NN (pc + 3) (L) (v :: st) (h)) : Wn D tc base nL p l e R s m args below meth c cells slots Q NN (pc) (L) (aR a :: st) (h) := by
  intro H locs ls hN hR hS hL
  exact va_get C.1 C.2.1 C.2.2.2.2.1 hin C.2.2.2.1 C.2.2.2.2.2.1 (va_P1 (hR a _ hh).2) 0 rfl hc k hk (C.2.2.2.2.1 _ hlk) (fun _ q => q) (v := cv v) (by rw [List.getElem?_map, hv]; rfl) hd (kk H locs ls hN hR hS hL)
theorem n_putG (C : Cx D tc base own cc nL p s m args meth c) {Cn : String} {T : u_T} {N ci index k a : Nat} {fs : List AV} {v : AV} {ty0 : Nat → FieldType} (hin : ∀ w ∈ u_ws Cn T N, w ∈ gl_w) (hty : ∀ k, k < N → parseFieldDescriptor (T k).2.2.1 = some (ty0 k)) (hnm : ∀ a, a < N → ∀ b, b < N → a ≠ b → (T a).2.1 ≠ (T b).2.1) (hc : vwCl[ci]? = some (Cn, T, N)) (hk : k < N) (hlk : Cond.fieldLink own index (T k).1 (T k).2.1 (T k).2.2.1 ∈ gl_w) (hfin : (T k).2.2.2 = false) {ty : FieldType} (hdd : parseFieldDescriptor (T k).2.2.1 = some ty) (hn : narrow ty (cv v) = cv v) (hfit : fits ty (cv v) = true) (hl : k < fs.length) (hd : decode cc pc = .ok (.putfield index, 3)) (hh : h a = some (eO ci fs)) (kk : Wn D tc base nL p l e R s m args below meth c cells slots Q NN (pc + 3) (L) (st) (hs h a (eO ci (fs.set k v)))) : Wn D tc base nL p l e R s m args below meth c cells slots Q NN (pc) (L) (v :: aR a :: st) (h) := by
  intro H locs ls hN hR hS hL
  have hK := C.2.2.2.2.2.1
  have hts := C.2.2.2.2.1
  have hap := va_apart (own := own) hts hin ty0 hty hnm hK hc
  have hA := (hR a _ hh).1
  obtain ⟨r, h1, cell, q1, q2, q3, q4⟩ := (hR a _ hh).2
  have hr : r = (Cn, T, N) := Option.some.inj (h1.symm.trans hc)
  subst hr
  obtain ⟨hSl, hfc, kC, hkC, hkind⟩ := hK.1 ci _ hc
  obtain ⟨cf, kf, fi, f, hi, hsl⟩ := hSl k hk
  have hlay := hts _ (hin _ (u_in_lay hk))
  unfold u_lay at hlay
  rw [if_neg (by rw [hfin]; decide)] at hlay
  have hst := (u_facts hfc hkC (u_lays hts hin hk) hi).1
  have h6 := u_store hfc hkC hkind hlay hi hdd hn hfit
  refine W.putK C.1 C.2.1 (f := f) ⟨C.2.2.2.1, hts _ hlk, ⟨_, _, _, hi⟩, hst⟩ (by rw [q2]; exact h6) q1 q3 (by rw [hsl]; exact k2_hasslot (q4 k hk)) rfl rfl hd fun H' e1 e2 e3 => ?_
  rw [hsl] at e1 ⊢
  have hl' : k < (fs.map cv).length := by rw [List.length_map]; exact hl
  have hset : (fs.set k v).map cv = (fs.map cv).set k (cv v) := List.map_set
  refine kk H' _ ls (e2.trans hN) (hR.set hA ⟨_, hc, ?_⟩ e3) (hS.put e2 e3 hA) hL
  show t_OB a (D.1 ci) N (D.2 ci) H' (vp_V ((fs.set k v).map cv))
  rw [hset]
  exact t_OB.to (V := updV (vp_V (fs.map cv)) k (cv v)) ⟨_, e1, q2, q3, t_set q4 hap hk _⟩ (fun j _ => vp_updV_set hl' _ j)
theorem n_put (C : Cx D tc base own cc nL p s m args meth c) {Cn : String} {T : u_T} {N ci index k a : Nat} {fs : List AV} {x : Int} {ty0 : Nat → FieldType} (hin : ∀ w ∈ u_ws Cn T N, w ∈ gl_w) (hty : ∀ k, k < N → parseFieldDescriptor (T k).2.2.1 = some (ty0 k)) (hnm : ∀ a, a < N → ∀ b, b < N → a ≠ b → (T a).2.1 ≠ (T b).2.1) (hc : vwCl[ci]? = some (Cn, T, N)) (hk : k < N) (hlk : Cond.fieldLink own index (T k).1 (T k).2.1 "I" ∈ gl_w) (hty1 : (T k).2.2 = ("I", false)) (hl : k < fs.length) (hd : decode cc pc = .ok (.putfield index, 3)) (hh : h a = some (eO ci fs)) (kk : Wn D tc base nL p l e R s m args below meth c cells slots Q NN (pc + 3) (L) (st) (hs h a (eO ci (fs.set k (aI x))))) : Wn D tc base nL p l e R s m args below meth c cells slots Q NN (pc) (L) (aI x :: aR a :: st) (h) :=
  n_putG C hin hty hnm hc hk (by rw [hty1]; exact hlk) (by rw [hty1]) (ty := .int) (by rw [hty1]; decide +kernel) rfl rfl hl hd hh kk
theorem n_iastore (C : Cx D tc base own cc nL p s m args meth c) {a n : Nat} {f : Int → Int} {j x : Int} (hd : decode cc pc = .ok (.iastore, 1)) (hh : h a = some (eA 0 n f)) (h0 : 0 ≤ j) (h1 : j < n) (hn : n < 2147483648) (k : Wn D tc base nL p l e R s m args below meth c cells slots Q NN (pc + 1) (L) (st) (hs h a (eA 0 n (iu f j x)))) : Wn D tc base nL p l e R s m args below meth c cells slots Q NN (pc) (L) (aI x :: aI j :: aR a :: st) (h) := by
  intro H locs ls hN hR hS hL
  have hcell : H[a]? = some (vp_cell (tc 0) (n, .inl (fun k => zi (f k)))) := (hR a _ hh).2
  refine W.iast C.1 C.2.1 hcell ((C.2.2.2.2.2.1.2 0 _ rfl).1 n (fun j => .int (zi (f j)))) (fun q => by cases q) (by show ¬ (zi j < 0 ∨ (arrV _ _ _).slots.size ≤ _); rw [arrV_size]; exact zi_in h0 h1 hn) rfl rfl hd fun H1 e z oq => ?_
  refine k H1 _ ls (z.trans hN) (hR.set (hR a _ hh).1 ?_ oq) (hS.put z oq (hR a _ hh).1) hL
  show H1[a]? = some (vp_cell _ _)
  rw [e, vp_cell_i, arrV_store]
  show _ = some (vp_cell (tc 0) (n, .inl (fun k => zi (iu f j x k))))
  rw [vp_cell_i]
  congr 2
  funext q
  rw [zi_clamp h0 (by omega)]
  by_cases hq : q = j.toNat
  · subst hq
    have : ((j.toNat : Nat) : Int) = j := by omega
    simp [updV, iu, this]
  · have : ¬ (q : Int) = j := by omega
    simp [updV, iu, hq, this]
theorem n_ialdst (C : Cx D tc base own cc nL p s m args meth c) {g : Nat → Int} {t : Nat} {j : Int} (hT : va_T .int t 6 (fun j => .int (zi (g j))) (fun q => base ≤ q) s s.heap) (h0 : 0 ≤ j) (h1 : j < 6) (hd : decode cc pc = .ok (.iaload, 1)) (k : Wn D tc base nL p l e R s m args below meth c cells slots Q NN (pc + 1) (L) (aI (g j.toNat) :: st) (h)) : Wn D tc base nL p l e R s m args below meth c cells slots Q NN (pc) (L) (aI j :: aR t :: st) (h) := by
  intro H locs ls hN hR hS hL
  refine va_ti (v := .int (zi (g j.toNat))) C.1 C.2.1 hT hS (zi_in h0 h1 (by omega)) ?_ hd (k H locs ls hN hR hS hL)
  rw [zi_clamp h0 (by omega)]
theorem va_S.grow {A : Nat → Prop} {H0 H H1 : Heap} {locs : List Loc} {n : Nat} (hS : va_S A H0 H locs) (hn : H.size = n) (z : H1.size = n + 1) (o : ∀ q : Nat, q < n → H1[q]? = H[q]?) : va_S A H0 H1 locs := by
  have := hS.1
  exact ⟨by omega, fun x h1 h2 => (o x (by omega)).trans (hS.2.1 x h1 h2), hS.2.2⟩
theorem n_new (C : Cx D tc base own cc nL p s m args meth c) {Cn : String} {T : u_T} {N ci index : Nat} {fs : List AV} {ty : Nat → FieldType} (hin : ∀ w ∈ u_ws Cn T N, w ∈ gl_w) (hty : ∀ k, k < N → parseFieldDescriptor (T k).2.2.1 = some (ty k)) (hc : vwCl[ci]? = some (Cn, T, N)) (hcl : Cond.classLink own index Cn ∈ gl_w) (hinst : Cond.instantiable Cn N ∈ gl_w) (hini : Cond.initialized Cn ∈ gl_w)
    (hfs : ∀ j, j < N → defaultValue (ty j) = vp_V (fs.map cv) j) (hcs : cells + 1 ≤ R.cells ∧ slots + N ≤ R.slots) (hd : decode cc pc = .ok (.new index, 3)) (k : Wn D tc base nL p l e R s m args below meth c (cells + 1) (slots + N) Q (NN + 1) (pc + 3) L (aR NN :: st) (hs h NN (eO ci fs))) : Wn D tc base nL p l e R s m args below meth c cells slots Q NN (pc) (L) (st) (h) := by
  intro H locs ls hN hR hS hL
  have hts := C.2.2.2.2.1
  have hKn := C.2.2.2.2.2.1.1 ci _ hc
  refine W.newcK C.1 C.2.1 C.2.2.2.1 (hts _ hcl) (hts _ hinst) (hts _ hini) rfl hd hcs.1 hcs.2 hKn.2.1 hN fun H1 kC hkC e1 z1 o1 => ?_
  have hb : base ≤ NN := by rw [← hN]; exact Nat.le_trans C.2.2.2.2.2.2.2.1 hS.1
  exact k H1 _ ls z1 (hR.push hN hb ⟨_, hc, (u_born ty hts hin hKn hkC e1 hty).to hfs⟩ o1) (hS.grow hN z1 o1) hL
theorem n_newa (C : Cx D tc base own cc nL p s m args meth c) {at_ : ArrayType} {n t : Nat} {ty : FieldType} (hac : Cond.arrayClass (newarray.typeOf at_) ∈ gl_w) (hty : newarray.typeOf at_ = ty) (ht : (t = 0 ∧ ty = .int) ∨ (t = 1 ∧ ty = .char) ∨ (t = 2 ∧ False)) (hn : n < 10000) (hcs : cells + 1 ≤ R.cells ∧ slots + n ≤ R.slots) (hd : decode cc pc = .ok (.newarray at_, 2))
    (k : Wn D tc base nL p l e R s m args below meth c (cells + 1) (slots + n) Q (NN + 1) (pc + 2) L (aR NN :: st) (hs h NN (eA t n (fun _ => 0)))) : Wn D tc base nL p l e R s m args below meth c cells slots Q NN (pc) (L) (aI n :: st) (h) := by
  intro H locs ls hN hR hS hL
  have hts := C.2.2.2.2.1
  subst hty
  have hz : ¬ zi n < 0 := by
    rw [← zi_0, zi_lt ⟨by omega, by omega⟩ ⟨by omega, by omega⟩]
    omega
  refine va_newaK C.1 C.2.1 (hts _ hac) rfl hd rfl hz (by rw [zi_clamp (by omega) (by omega)]; exact Int.toNat_natCast n) (by rcases ht with ⟨-, q⟩ | ⟨-, q⟩ | ⟨-, ⟨⟩⟩ <;> rw [q] <;> (show n * _ ≤ _; first | (show n * 4 ≤ _; omega) | (show n * 2 ≤ _; omega) | (show n * 8 ≤ _; omega))) hcs.1 hcs.2 hN fun H1 cA e1 z1 o1 hAr hNm => ?_
  have hb : base ≤ NN := by rw [← hN]; exact Nat.le_trans C.2.2.2.2.2.2.2.1 hS.1
  have hct : cA = tc t := by
    have hra : va_RA s (tc t) (newarray.typeOf at_) := by
      rcases ht with ⟨rfl, q⟩ | ⟨rfl, q⟩ | ⟨-, ⟨⟩⟩ <;> rw [q]
      · exact (C.2.2.2.2.2.1.2 0 _ rfl).2
      · exact (C.2.2.2.2.2.1.2 1 _ rfl).2
    have hra2 : s.vm.findClass ("[" ++ (newarray.typeOf at_).toString) = some (tc t) := by
      cases at_ <;> exact hra
    exact Option.some.inj (hNm.symm.trans hra2)
  obtain ⟨x, hx1, hx2⟩ := arrV_z cA n t _ tc hct (ht.imp_right (fun h => h.imp_right (fun q => ⟨q.1, q.2.elim⟩)))
  refine k H1 _ ls z1 (hR.push hN hb ?_ o1) (hS.grow hN z1 o1) hL
  rw [hx1]
  show H1[NN]? = some (vp_cell (tc t) x)
  rw [hx2]
  exact e1
theorem n_anewa (C : Cx D tc base own cc nL p s m args meth c) (hP : PC s) {index n : Nat} (hcl : Cond.classLink own index "RemontoirClock$State" ∈ gl_w) (hn : n < 10000) (hcs : cells + 1 ≤ R.cells ∧ slots + n ≤ R.slots) (hd : decode cc pc = .ok (.anewarray index, 3))
    (k : Wn D tc base nL p l e R s m args below meth c (cells + 1) (slots + n) Q (NN + 1) (pc + 3) L (aR NN :: st) (hs h NN (eR n (fun _ => none)))) : Wn D tc base nL p l e R s m args below meth c cells slots Q NN (pc) (L) (aI n :: st) (h) := by
  intro H locs ls hN hR hS hL
  have hts := C.2.2.2.2.1
  have hz : ¬ zi n < 0 := by
    rw [← zi_0, zi_lt ⟨by omega, by omega⟩ ⟨by omega, by omega⟩]
    omega
  have hcn : (zi n).toNatClampNeg = n := by rw [zi_clamp (by omega) (by omega)]; exact Int.toNat_natCast n
  refine W.anew C.1 C.2.1 C.2.2.2.1 (hts _ hcl) (va_AO.use hP.2) rfl hd rfl hz (by rw [hcn]; omega) hcs.1 (by rw [hcn]; exact hcs.2) fun cA kA comp f1 f2 f3 f4 => ?_
  generalize hH1 : H.push ({ cls := cA, slots := Array.replicate (zi n).toNatClampNeg .null, vm := .none } : Cell) = H1
  have z1 : H1.size = NN + 1 := by rw [← hH1, Array.size_push, hN]
  have e1 : H1[NN]? = some (arrV cA n (fun _ => .null)) := by rw [← hH1, ← hN, Array.getElem?_push_size, ← arrV_new, hcn]
  have o1 : ∀ q : Nat, q < NN → H1[q]? = H[q]? := fun q hq => by rw [← hH1, Array.getElem?_push, if_neg (by omega)]
  have hb : base ≤ NN := by rw [← hN]; exact Nat.le_trans C.2.2.2.2.2.2.2.1 hS.1
  obtain ⟨kA', comp', -, -, -, g4⟩ := (C.2.2.2.2.2.1.2 3 _ rfl).2
  have hct : cA = tc 3 := Option.some.inj (f1.symm.trans g4)
  rw [hcn]
  rw [hN]
  refine k H1 _ ls z1 (hR.push hN hb ?_ o1) (hS.grow hN z1 o1) hL
  show H1[NN]? = some (vp_cell (tc 3) _)
  rw [vp_cell_q, ← hct]
  exact e1
theorem n_aastore (C : Cx D tc base own cc nL p s m args meth c) {a n v : Nat} {f : Int → Option Nat} {fs : List AV} {j : Int} (hd : decode cc pc = .ok (.aastore, 1)) (hh : h a = some (eR n f)) (hv : h v = some (eO 3 fs)) (h0 : 0 ≤ j) (h1 : j < n) (hn : n < 2147483648) (k : Wn D tc base nL p l e R s m args below meth c cells slots Q NN (pc + 1) (L) (st) (hs h a (eR n (fun q => if q = j then some v else f q)))) : Wn D tc base nL p l e R s m args below meth c cells slots Q NN (pc) (L) (aR v :: aI j :: aR a :: st) (h) := by
  intro H locs ls hN hR hS hL
  obtain ⟨r', hr', cellV, g1, g2, g3, -⟩ := (hR v _ hv).2
  have hcls := (C.2.2.2.2.2.1.1 3 _ rfl).2
  obtain ⟨kA, comp, k1, k2, k3, -⟩ := (C.2.2.2.2.2.1.2 3 _ rfl).2
  have hcomp : comp = D.1 3 := Option.some.inj (k3.symm.trans hcls.1)
  subst hcomp
  obtain ⟨kC, hkC, -⟩ := hcls.2
  have hcell : H[a]? = some (vp_cell (tc 3) (n, .inr (.inr (.inr (.inr (fun k => f k)))))) := (hR a _ hh).2
  have hin := zi_in h0 h1 hn
  refine W.aast C.1 C.2.1 hcell (fun q h => by cases h) (fun h => by cases h) k1 k2 rfl hkC ⟨fun q => hin (Or.inl q), by show _ < (arrV _ _ _).slots.size; rw [arrV_size]; exact Nat.not_le.mp fun q => hin (Or.inr q)⟩ g1 (fun q h => by rw [g3] at h; cases h) (by rw [g2]; exact hkC) (by rw [g2]; exact va_assign hcls) rfl rfl hd fun H1 e z oq => ?_
  refine k H1 _ ls (z.trans hN) (hR.set (hR a _ hh).1 ?_ oq) (hS.put z oq (hR a _ hh).1) hL
  show H1[a]? = some (vp_cell _ _)
  rw [e]
  rw [vp_cell_q, vp_cell_q, arrV_store]
  congr 2
  funext q
  rw [zi_clamp h0 (by omega)]
  by_cases hq : q = j.toNat
  · subst hq
    have : ((j.toNat : Nat) : Int) = j := by omega
    simp only [updV, this, if_true]
    rfl
  · have : ¬ (q : Int) = j := by omega
    simp only [updV, hq, this, if_false]
theorem n_putF (C : Cx D tc base own cc nL p s m args meth c) {Cn : String} {T : u_T} {N ci index k a : Nat} {fs : List AV} {v : AV} {ty0 : Nat → FieldType} (hnm1 : meth.name = "<init>") (hin : ∀ w ∈ u_ws Cn T N, w ∈ gl_w) (hty : ∀ k, k < N → parseFieldDescriptor (T k).2.2.1 = some (ty0 k)) (hnm : ∀ a, a < N → ∀ b, b < N → a ≠ b → (T a).2.1 ≠ (T b).2.1) (hc : vwCl[ci]? = some (Cn, T, N)) (hk : k < N) (hlk : Cond.fieldLink own index (T k).1 (T k).2.1 (T k).2.2.1 ∈ gl_w) (hfin : (T k).2.2.2 = true) (hdecl : (T k).1 = own) {ty : FieldType} (hdd : parseFieldDescriptor (T k).2.2.1 = some ty) (hn : narrow ty (cv v) = cv v) (hfit : fits ty (cv v) = true) (hl : k < fs.length) (hd : decode cc pc = .ok (.putfield index, 3)) (hh : h a = some (eO ci fs)) (kk : Wn D tc base nL p l e R s m args below meth c cells slots Q NN (pc + 3) (L) (st) (hs h a (eO ci (fs.set k v)))) : Wn D tc base nL p l e R s m args below meth c cells slots Q NN (pc) (L) (v :: aR a :: st) (h) := by
  intro H locs ls hN hR hS hL
  have hK := C.2.2.2.2.2.1
  have hts := C.2.2.2.2.1
  have hap := va_apart (own := own) hts hin ty0 hty hnm hK hc
  have hA := (hR a _ hh).1
  obtain ⟨r, h1, cell, q1, q2, q3, q4⟩ := (hR a _ hh).2
  have hr : r = (Cn, T, N) := Option.some.inj (h1.symm.trans hc)
  subst hr
  obtain ⟨hSl, hfc, kC, hkC, hkind⟩ := hK.1 ci _ hc
  obtain ⟨cf, kf, fi, f, hi, hsl⟩ := hSl k hk
  have hlay := hts _ (hin _ (u_in_lay hk))
  unfold u_lay at hlay
  rw [if_pos hfin] at hlay
  have hst := (u_facts hfc hkC (u_lays hts hin hk) hi).1
  have hcf : m.cls = cf := by
    obtain ⟨_, _, c', _, _, _, -, -, hf', -, -, -, hown2, -⟩ := Cond.laysFinal_spec hlay
    have e1 : c' = cf := by have := hi.symm.trans hf'; simp at this; exact this.1.symm
    rw [hdecl] at hown2
    rw [← e1]; exact Option.some.inj (C.2.2.2.1.symm.trans hown2)
  have h6 := u_fits hfc hkC hkind (Or.inr hlay) hi hdd hn hfit
  refine W.putFinK C.1 C.2.1 C.2.2.2.1 (hts _ hlk) hi hst hcf hnm1 (by rw [q2]; exact h6) q1 q3 (by rw [hsl]; exact k2_hasslot (q4 k hk)) rfl rfl hd fun H' e1 e2 e3 => ?_
  rw [hsl] at e1 ⊢
  have hl' : k < (fs.map cv).length := by rw [List.length_map]; exact hl
  have hset : (fs.set k v).map cv = (fs.map cv).set k (cv v) := List.map_set
  refine kk H' _ ls (e2.trans hN) (hR.set hA ⟨_, hc, ?_⟩ e3) (hS.put e2 e3 hA) hL
  show t_OB a (D.1 ci) N (D.2 ci) H' (vp_V ((fs.set k v).map cv))
  rw [hset]
  exact t_OB.to (V := updV (vp_V (fs.map cv)) k (cv v)) ⟨_, e1, q2, q3, t_set q4 hap hk _⟩ (fun j _ => vp_updV_set hl' _ j)
theorem n_objInit (C : Cx D tc base own cc nL p s m args meth c) {a idx : Nat} (hml : Cond.methodLink own idx objectInit ∈ gl_w) (hf : 1 ≤ R.frames) (hlo : ((st.map cv).map fun v => v.category).sum + 12 ≤ R.locals) (hd : decode cc pc = .ok (.invokespecial idx, 3)) (k : Wn D tc base nL p l e R s m args below meth c cells slots Q NN (pc + 3) (L) (st) (h)) : Wn D tc base nL p l e R s m args below meth c cells slots Q NN (pc) (L) (aR a :: st) (h) := by
  intro H locs ls hN hR hS hL
  have hts := C.2.2.2.2.1
  refine W.objInit C.1 C.2.1 C.2.2.2.1 (hts _ hml) (hts _ im_objectInit) (hts _ co_objectInit) rfl (by show ls.size = _; rw [hL.1]; exact C.2.2.1.symm) rfl hd hf ?_ (k H locs ls hN hR hS hL)
  show 2 * 0 + _ + 12 ≤ _
  omega
theorem n_getst (C : Cx D tc base own cc nL p s m args meth c) (hP : PC s) (hZ : StA base "FIRST_VALUE" fV s) (hown : own = "RemontoirClock$State") (hd : decode cc pc = .ok (.getstatic 36, 3))
    (k : ∀ t : Nat, va_T .int t 6 (fun j => .int (zi (fV j))) (fun q => base ≤ q) s s.heap → Wn D tc base nL p l e R s m args below meth c cells slots Q NN (pc + 3) (L) (aR t :: st) (h)) : Wn D tc base nL p l e R s m args below meth c cells slots Q NN (pc) (L) (st) (h) := by
  intro H locs ls hN hR hS hL
  obtain ⟨t, h1, h2⟩ := hZ
  subst hown
  exact va_getsN C.1 C.2.1 h1 hS C.2.2.2.1 (hP.1.use rfl) (fun _ q => q) hd (k t h2 H locs ls hN hR hS hL)
theorem n_widen {k n : Nat} (h1 : cells ≤ k) (h2 : slots ≤ n) (kk : Wn D tc base nL p l e R s m args below meth c k n Q NN pc L st h) : Wn D tc base nL p l e R s m args below meth c cells slots Q NN (pc) (L) (st) (h) :=
  fun H locs ls hN hR hS hL => W.widen h1 h2 (kk H locs ls hN hR hS hL)
theorem n_sub {L' : List (Option AV)} (k : Wn D tc base nL p l e R s m args below meth c cells slots Q NN (pc) (L') (st) (h)) (hl : lsub L' L) : Wn D tc base nL p l e R s m args below meth c cells slots Q NN (pc) (L) (st) (h) := by
  intro H locs ls hN hR hS hL
  refine k H locs ls hN hR hS ⟨hL.1, hL.2.1, fun q hq => ?_⟩
  obtain ⟨i, v, h1, rfl⟩ := asc_mem.mp hq
  exact hL.2.2 _ (asc_mem.mpr ⟨i, v, lsub_spec hl i v h1, rfl⟩)
end WKN
def lvN (d mc ms : Nat) : Room := { frames := d, cells := mc, slots := ms, locals := 40 * d }
def Qn (D : va_G) (tc : Nat → ClassId) (base : Nat) (post : AH → Prop) (N' : Nat) : Array Value → State → Outcome → State → Prop := fun _ st o t => (∃ h' : AH, o = .returned none ∧ post h' ∧ Rep D tc base h' t.heap ∧ t.heap.size = N') ∧ va_F (fun q => base ≤ q) st t
/-- a constructor's contract: the heap grows from N to N' cells -/
def CN (l : Launch) (D : va_G) (tc : Nat → ClassId) (base : Nat) (y : MethodName) (bytes : ByteArray) (maxL d mc ms : Nat) (as : List AV) (h : AH) (N : Nat) (post : AH → Prop) (N' : Nat) : Prop :=
  Met l y (wsY y bytes maxL none) (lvN d mc ms) (va_Pc (as.map cv) (fun U => Px D tc base h U ∧ PC U ∧ U.heap.size = N)) (Qn D tc base post N') mc ms (fun q => base ≤ q)
theorem PxN.blind {D : va_G} {tc : Nat → ClassId} {base : Nat} {h : AH} {N : Nat} (vs : List Value) : FrameBlind (va_Pc vs (fun U => Px D tc base h U ∧ PC U ∧ U.heap.size = N)) := by
  intro a U g mk q
  obtain ⟨q0, ⟨q1, q2, q3, q4⟩, q5, q6⟩ := q
  exact ⟨q0, ⟨q1, q2, va_K.moved (u := U) (U := U.calling g mk a) (Vm.Alike.refl U.vm) q3, StF.go (V := U.calling g mk a) q4 (Vm.Alike.refl U.vm) (fun _ _ _ => rfl)⟩, PC.go (V := U.calling g mk a) q5 (State.WarmedH.refl U), q6⟩
theorem CN.of {l : Launch} {D : va_G} {tc : Nat → ClassId} {base : Nat} {y : MethodName} {bytes : ByteArray} {maxL d mc ms : Nat} {as : List AV} {h : AH} {N N' : Nat} {post : AH → Prop} (L0 : List (Option AV))
    (hy : plainFor y = true) (hL0 : asc 0 L0 = lv_args 0 (as.map cv)) (hlen : (lg_sl (as.map cv)).length ≤ maxL)
    (body : ∀ (p : Program) (e : Env) (s : State) (m : MethodId) (args : Array Value) (below : List Frame) (meth : Method) (c : Code), Cx D tc base y.cls bytes maxL p s m args meth c → PC s → meth.sig.returnType = none → meth.name = y.name →
      Wn D tc base maxL p l e (lvN d mc ms) s m args below meth c 0 0 (MQ below (Qn D tc base post N') args s mc ms (fun q => base ≤ q)) N 0 L0 [] h) : CN l D tc base y bytes maxL d mc ms as h N post N' := by
  refine Met_ofWF (cc := bytes) (maxL := maxL) (ret := none) hy rfl ?_
  intro p e s m args below meth c s₁ B hml hv
  obtain ⟨rfl, ⟨hb0, hR, hK, hF⟩, hP, hN⟩ := hv
  have hts := atoms_spec (ws := wsY y bytes maxL none) B.pre
  have C : Cx D tc base y.cls bytes maxL p s m (as.map cv).toArray meth c := ⟨B.exec, B.bytes, hml, findClass_of_methodNamed B.named, fun w hw => hts w (List.mem_cons_of_mem _ hw), hK, B.notSynchronized, hb0, hF⟩
  rw [lg_entry_eq]
  have hl := lv_entry (as.map cv) (n := maxL) hlen
  rw [← hL0] at hl
  exact body p e s m _ below meth c C hP B.returns (name_of_methodNamed B.named B.method).1 s.heap [] _ hN hR va_S.rf hl
section WKN2
variable {D : va_G} {tc : Nat → ClassId} {base nL NN : Nat} {own : String} {cc : ByteArray} {p : Program} {l : Launch} {e : Env} {R : Room} {s : State} {m : MethodId} {args : Array Value} {below : List Frame} {meth : Method} {c : Code} {cells slots : Nat} {Q : State → Prop} {pc : Nat} {L : List (Option AV)} {st : List AV} {h : AH}
theorem n_vret (C : Cx D tc base own cc nL p s m args meth c) {post : AH → Prop} (hr : meth.sig.returnType = none) (hd : decode cc pc = .ok (.return_, 1)) (hp : post h) : Wn D tc base nL p l e R s m args below meth c cells slots (MQ below (Qn D tc base post NN) args s cells slots (fun q => base ≤ q)) NN pc L [] h :=
  fun H locs ls hN hR hS hL => W.vret C.1 C.2.1 hr (fun t ht hW => ⟨⟨h, rfl, hp, by rw [ht]; exact hR, by rw [ht]; exact hN⟩, hS.F ht⟩) hS.2.2 hd C.2.2.2.2.2.2.1
theorem n_callI (C : Cx D tc base own cc nL p s m args meth c) (hP : PC s) {y : MethodName} {bytes : ByteArray} {maxL d mc ms idx a N' : Nat} {rest : List AV} {post : AH → Prop}
    (hM : CN l D tc base y bytes maxL d mc ms [aR a] h NN post N') (hml : Cond.methodLink own idx y ∈ gl_w) (him : Cond.instanceMethod y ∈ gl_w) (hini : Cond.initialized y.cls ∈ gl_w) (hco : Cond.code y bytes maxL none ∈ gl_w)
    (hy : y.name = "<init>" ∧ y.cls ≠ "java/lang/invoke/MethodHandle" ∧ y.cls ≠ "java/lang/invoke/VarHandle" ∧ (parseMethodDescriptor y.desc).map (fun d => d.parameters.length) = some 0)
    (hrm : d + 1 ≤ R.frames ∧ 8 + (maxL + 11) + 40 * d ≤ R.locals) (hst : st = aR a :: rest) (hw : ((rest.map cv).map fun v => v.category).sum ≤ 8) (hcs : cells + mc ≤ R.cells ∧ slots + ms ≤ R.slots)
    (hd : decode cc pc = .ok (.invokespecial idx, 3)) (k : ∀ h' : AH, post h' → Wn D tc base nL p l e R s m args below meth c (cells + mc) (slots + ms) Q N' (pc + 3) L rest h') : Wn D tc base nL p l e R s m args below meth c cells slots Q NN (pc) (L) (st) (h) := by
  subst hst
  intro H locs ls hN hR hS hL T hT X
  have hts := C.2.2.2.2.1
  have hG : GoodIn gl_w (wsY y bytes maxL none) := by
    intro w hw
    have : w ∈ gl_w := by
      rcases List.mem_cons.mp hw with rfl | h
      · exact hco
      · exact h
    exact gl_self w this
  obtain ⟨v, st₀, t, T', Ls, h0, X', hLs, e1, e2, ⟨⟨h', hv, hp, hR', hN'⟩, hF⟩, step⟩ := va_runI (As := []) (rest := rest.map cv) (b := a) ⟨C.1, C.2.1, C.2.2.1, C.2.2.2.1, hts⟩ hM (cwI 0 hts hG rfl rfl rfl (hts _ hini) (hts _ hml) (hts _ him) hy.1 hy.2 hrm) ⟨PxN.blind _, fun U hU hW => ⟨rfl, Px.at C hR hS hU hW, hP.go hW, by rw [hU]; exact hN⟩⟩ rfl rfl hL.1 rfl (lv_room hw) hd hcs T hT X
  have hv : v = none := Outcome.returned.inj hv
  subst hv
  have hz := hF.1
  have hk := hF.2
  rw [h0] at hz hk
  obtain ⟨t2, a1, b1⟩ := k h' hp T'.heap (locs ++ Ls) ls (by rw [e1]; exact hN') (by rw [e1]; exact hR') ⟨Nat.le_trans hS.1 (by rw [e1]; exact hz), fun q h1 h2 => by rw [e1, hk q (Nat.lt_of_lt_of_le h1 hS.1) h2]; exact hS.2.1 q h1 h2, fun q hq => by
      rcases List.mem_append.mp hq with h | h
      · exact hS.2.2 q h
      · exact hLs q h⟩ hL T' rfl X'
  exact ⟨t2, step t2 a1, b1⟩
end WKN2

