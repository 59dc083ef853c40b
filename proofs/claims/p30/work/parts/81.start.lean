/-! THE LAW FROM ITS ENTRY: the clock and the five arrays are made -/
section WKS9b
variable {D : va_G} {tc : Nat → ClassId} {base nL NN : Nat} {own : String} {cc : ByteArray} {p : Program} {l : Launch} {e : Env} {R : Room} {s : State} {m : MethodId} {args : Array Value} {below : List Frame} {meth : Method} {c : Code} {cells slots : Nat} {Q : State → Prop} {pc : Nat} {L : List (Option AV)} {st : List AV} {h : AH}
theorem n_astore (C : Cx D tc base own cc nL p s m args meth c) {n x : Nat} (hd : decode cc pc = .ok (.astore n, 2)) (hn : n < nL) (hw : wSb L n = true) (k : Wn D tc base nL p l e R s m args below meth c cells slots Q NN (pc + 2) (L.set n (some (aR x))) st h) : Wn D tc base nL p l e R s m args below meth c cells slots Q NN pc L (aR x :: st) h :=
  fun H locs ls hN hR hS hL => lv_astore C.1 C.2.1 hd hL hn rfl (fun ls' hl' => k H locs ls' hN hR hS (lvP.st1 (v := aR x) hw hl'))
end WKS9b
set_option maxRecDepth 20000 in
set_option maxHeartbeats 2000000 in
theorem law_body {D : va_G} {tc : Nat → ClassId} {base : Nat} {p : Program} {l : Launch} {e : Env} {s : State} {m : MethodId} {args : Array Value} {below : List Frame} {meth : Method} {c : Code} {Q : State → Prop} (C : Cx D tc base RL cL_law 12 p s m args meth c) (hP : PC s) {b LL : Nat} {xs : Nat → Int32} (hSc : Scr base b LL xs s)
    (kend : ∀ (hx : AH) (Lx : List (Option AV)), Wk D tc base 12 p l e room_1 s m args below meth c 132 1519 Q 192 Lx [] hx) :
    Wn D tc base 12 p l e room_1 s m args below meth c 0 0 Q base 0 [some (aR b), none, none, none, none, none, none, none, none, none, none, none] [] (fun _ => none) := by
  have hcc : ∀ x y : Nat, x ≤ 200 → y ≤ 3000 → x ≤ room_1.cells ∧ y ≤ room_1.slots := fun x y h1 h2 => ⟨by (show _ ≤ 600130); omega, by (show _ ≤ 7301080); omega⟩
  refine n_new C (ci := 7) (fs := [aN, aN, aN, aN, aN]) inX7 tyX7_ok rfl cl_L_31 mk_X7 ini_X7 (fun j hj => by (rcases j with _ | _ | _ | _ | _ | j) <;> first | rfl | (exfalso; omega)) (hcc _ _ (by omega) (by omega)) dL_law_0 ?_
  refine n_dup C dL_law_3 rfl ?_
  refine n_callI C hP (cn_X7 l D tc base base _ _ (base + 127) rfl rfl (hs_eq _ _ _)) ml_L_80 im_X7_init ini_X7 co_X7_init ⟨rfl, by decide, by decide, by decide +kernel⟩ (by decide) rfl (Nat.le_of_ble_eq_true rfl) (hcc _ _ (by omega) (by omega)) dL_law_4 ?_
  rintro h1 ⟨hX1, -⟩
  refine n_astore_n C dL_law_7 (by decide) rfl ?_
  refine n_bipush C dL_law_8 (by decide +kernel) ?_
  refine n_newa (NN := base + 127) C (at_ := .int) (n := 15) (t := 0) (ty := .int) ac_int rfl (Or.inl ⟨rfl, rfl⟩) (by decide) (hcc _ _ (by omega) (by omega)) dL_law_10 ?_
  refine n_astore_n C dL_law_12 (by decide) rfl ?_
  refine n_bipush C dL_law_13 (by decide +kernel) ?_
  refine n_newa (NN := base + 127 + 1) C (at_ := .int) (n := 9) (t := 0) (ty := .int) ac_int rfl (Or.inl ⟨rfl, rfl⟩) (by decide) (hcc _ _ (by omega) (by omega)) dL_law_15 ?_
  refine n_astore_n C dL_law_17 (by decide) rfl ?_
  refine n_bipush C dL_law_18 (by decide +kernel) ?_
  refine n_newa (NN := base + 127 + 2) C (at_ := .int) (n := 6) (t := 0) (ty := .int) ac_int rfl (Or.inl ⟨rfl, rfl⟩) (by decide) (hcc _ _ (by omega) (by omega)) dL_law_20 ?_
  refine n_astore C dL_law_22 (by decide) rfl ?_
  refine n_bipush C dL_law_24 (by decide +kernel) ?_
  refine n_newa (NN := base + 127 + 3) C (at_ := .int) (n := 30) (t := 0) (ty := .int) ac_int rfl (Or.inl ⟨rfl, rfl⟩) (by decide) (hcc _ _ (by omega) (by omega)) dL_law_26 ?_
  refine n_astore C dL_law_28 (by decide) rfl ?_
  refine n_bipush C dL_law_30 (by decide +kernel) ?_
  refine n_newa (NN := base + 127 + 4) C (at_ := .int) (n := 10) (t := 0) (ty := .int) ac_int rfl (Or.inl ⟨rfl, rfl⟩) (by decide) (hcc _ _ (by omega) (by omega)) dL_law_32 ?_
  refine n_astore C dL_law_34 (by decide) rfl ?_
  refine n_ofk ?_
  refine k_wid (k := 132) (n := 1519) (by omega) (by omega) ?_
  refine k_aload_n C dL_law_36 rfl ?_
  refine k_aload_n C dL_law_37 rfl ?_
  refine k_aload C dL_law_38 rfl ?_
  refine k_callS C (n := 3) (as := [_, _, _]) (ct_L_fresh l D tc base (base + 127) _ (by repeat (first | exact hs_eq _ _ _ | refine hs_ne (by omega) ?_ | assumption)) (by repeat (first | exact hs_eq _ _ _ | refine hs_ne (by omega) ?_ | assumption)) (by repeat (first | exact hs_eq _ _ _ | refine hs_ne (by omega) ?_ | assumption)) (by repeat (first | exact hs_eq _ _ _ | refine hs_ne (by omega) ?_ | assumption)) (by repeat (first | exact hs_eq _ _ _ | refine hs_ne (by omega) ?_ | assumption))) ml_L_81 sm_L_fresh ini_L co_L_fresh ⟨by decide, by decide, by decide +kernel⟩ rfl ⟨by decide, by decide⟩ rfl (Nat.le_of_ble_eq_true rfl) (hcc _ _ (by omega) (by omega)) dL_law_40 ?_
  rintro _ h2 ⟨rfl, hA, hF⟩
  refine k_iconst C dL_law_43 ?_
  refine k_istore C dL_law_44 (by decide) rfl ?_
  exact lw_loop C (hcc _ _ (by omega) (by omega)) hSc h2 (hX1.fr (fun a a0 a1 => (hF a (by omega)).trans (by repeat (first | rfl | refine hs_ne (by omega) ?_)))) hA kend
