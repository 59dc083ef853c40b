/-! THE LAW FROM ITS ENTRY: the two clocks are made -/
section WKS9
variable {D : va_G} {tc : Nat → ClassId} {base nL NN : Nat} {own : String} {cc : ByteArray} {p : Program} {l : Launch} {e : Env} {R : Room} {s : State} {m : MethodId} {args : Array Value} {below : List Frame} {meth : Method} {c : Code} {cells slots : Nat} {Q : State → Prop} {pc : Nat} {L : List (Option AV)} {st : List AV} {h : AH}
theorem n_astore_n (C : Cx D tc base own cc nL p s m args meth c) {n : Fin 4} {x : Nat} (hd : decode cc pc = .ok (.astore_n n, 1)) (hn : (n : Nat) < nL) (hw : wSb L (n : Nat) = true) (k : Wn D tc base nL p l e R s m args below meth c cells slots Q NN (pc + 1) (L.set (n : Nat) (some (aR x))) st h) : Wn D tc base nL p l e R s m args below meth c cells slots Q NN pc L (aR x :: st) h :=
  fun H locs ls hN hR hS hL => lv_astore_n C.1 C.2.1 hd rfl hL hn rfl (fun ls' hl' => k H locs ls' hN hR hS (lvP.st1 (v := aR x) hw hl'))
theorem n_ofk (k : Wk D tc base nL p l e R s m args below meth c cells slots Q (pc) (L) (st) (h)) : Wn D tc base nL p l e R s m args below meth c cells slots Q NN pc L st h := fun H locs ls _ hR hS hL => k H locs ls hR hS hL
end WKS9
set_option maxRecDepth 20000 in
set_option maxHeartbeats 2000000 in
theorem law_body {D : va_G} {tc : Nat → ClassId} {base : Nat} {p : Program} {l : Launch} {e : Env} {s : State} {m : MethodId} {args : Array Value} {below : List Frame} {meth : Method} {c : Code} {Q : State → Prop} (C : Cx D tc base RL cL_law 9 p s m args meth c) (hE : PE base s) (hP : PC s) {b LL : Nat} {xs : Nat → Int32} (hSc : Scr base b LL xs s) (hl : l.stackTraces = false)
    (kend : ∀ (cells slots : Nat) (h : AH) (L : List (Option AV)), cells ≤ 601024 → slots ≤ 7293034 → Wk D tc base 9 p l e room_1 s m args below meth c cells slots Q 1392 L [] h) :
    Wn D tc base 9 p l e room_1 s m args below meth c 0 0 Q base 0 [some (aR b), none, none, none, none, none, none, none, none] [] (fun _ => none) := by
  have hcc : ∀ x y : Nat, x ≤ 200 → y ≤ 3000 → x ≤ room_1.cells ∧ y ≤ room_1.slots := fun x y h1 h2 => ⟨by (show _ ≤ 601024); omega, by (show _ ≤ 7293034); omega⟩
  refine n_new C (ci := 7) (fs := [aN, aN, aN, aN, aN]) inX7 tyX7_ok rfl cl_L_8 mk_X7 ini_X7 (fun j hj => by (rcases j with _ | _ | _ | _ | _ | j) <;> first | rfl | (exfalso; omega)) (hcc _ _ (by omega) (by omega)) dL_law_0 ?_
  refine n_dup C dL_law_3 rfl ?_
  refine n_callI C hP (cn_X7 l D tc base base _ _ (base + 127) rfl rfl (hs_eq _ _ _)) ml_L_73 im_X7_init ini_X7 co_X7_init ⟨rfl, by decide, by decide, by decide +kernel⟩ (by decide) rfl (Nat.le_of_ble_eq_true rfl) (hcc _ _ (by omega) (by omega)) dL_law_4 ?_
  rintro h1 ⟨hX1, -⟩
  refine n_astore_n C dL_law_7 (by decide) rfl ?_
  refine n_new C (ci := 8) (fs := [aN, aI 0, aN, aI 0, aN, aI 0, aN, aN, aI 0, aI 0, aL 0]) inX8 tyX8_ok rfl cl_L_74 mk_X8 ini_X8 (fun j hj => by (rcases j with _ | _ | _ | _ | _ | _ | _ | _ | _ | _ | _ | j) <;> first | rfl | (exfalso; omega)) (hcc _ _ (by omega) (by omega)) dL_law_8 ?_
  refine n_dup C dL_law_11 rfl ?_
  refine n_callI C hP (cn_X8 l D tc base (base + 127) _ _ (base + 133) rfl rfl (hs_eq _ _ _)) ml_L_76 im_X8_init ini_X8 co_X8_init ⟨rfl, by decide, by decide, by decide +kernel⟩ (by decide) rfl (Nat.le_of_ble_eq_true rfl) (hcc _ _ (by omega) (by omega)) dL_law_12 ?_
  rintro h2 ⟨hM2, hF2⟩
  refine n_astore_n C dL_law_15 (by decide) rfl ?_
  refine n_iconst C dL_law_16 ?_
  refine n_newa C (at_ := .long) (n := 1) (t := 2) (ty := .long) ac_long rfl (Or.inr (Or.inr ⟨rfl, rfl⟩)) (by decide) (hcc _ _ (by omega) (by omega)) dL_law_17 ?_
  refine n_astore_n C dL_law_19 (by decide) rfl ?_
  refine n_ofk ?_
  refine k_iconst C dL_law_20 ?_
  refine k_istore C dL_law_21 (by decide) rfl ?_
  have hI : LI (hs h2 (base + 133) (eA 2 1 (fun _ => 0))) base zInit (fun _ => 0) (fun _ => 0) 0 0 (fun _ => 0) := ⟨hX1.fr (fun a a0 a1 => hs_ne (by omega) ((hF2 a (by omega)).trans (hs_ne (by omega) rfl))), ⟨_, _, _, _, _, _, hM2.fr (fun a a0 a1 => hs_ne (by omega) rfl)⟩, hs_eq _ _ _⟩
  have hg := law_loop C hE hSc hl kend (LL + 1) 0 _ _ _ _ _ _ _ hI (by omega) (by omega)
  rw [show (4 : Int) * ((0 : Nat) : Int) = 0 by rfl] at hg
  exact hg
