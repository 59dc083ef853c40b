/-! THE LAW FROM ITS ENTRY: the two clocks are made -/
section WKS9
variable {D : va_G} {tc : Nat → ClassId} {base nL NN : Nat} {own : String} {cc : ByteArray} {p : Program} {l : Launch} {e : Env} {R : Room} {s : State} {m : MethodId} {args : Array Value} {below : List Frame} {meth : Method} {c : Code} {cells slots : Nat} {Q : State → Prop} {pc : Nat} {L : List (Option AV)} {st : List AV} {h : AH}
theorem n_astore_n (C : Cx D tc base own cc nL p s m args meth c) {n : Fin 4} {x : Nat} (hd : decode cc pc = .ok (.astore_n n, 1)) (hn : (n : Nat) < nL) (hw : wSb L (n : Nat) = true) (k : Wn D tc base nL p l e R s m args below meth c cells slots Q NN (pc + 1) (L.set (n : Nat) (some (aR x))) st h) : Wn D tc base nL p l e R s m args below meth c cells slots Q NN pc L (aR x :: st) h :=
  fun H locs ls hN hR hS hL => lv_astore_n C.1 C.2.1 hd rfl hL hn rfl (fun ls' hl' => k H locs ls' hN hR hS (lvP.st1 (v := aR x) hw hl'))
theorem n_ofk (k : Wk D tc base nL p l e R s m args below meth c cells slots Q (pc) (L) (st) (h)) : Wn D tc base nL p l e R s m args below meth c cells slots Q NN pc L st h := fun H locs ls _ hR hS hL => k H locs ls hR hS hL
end WKS9
