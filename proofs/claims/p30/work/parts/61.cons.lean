/-! CONSTRUCTORS -/
def zInit : RZ := iu (iu (iu (iu (iu (iu (iu (iu (iu (fun _ => 0) 0 200) 1 200) 2 200) 9 10) 61 10) 62 2) 63 8) 64 6) 66 6
theorem zInit_ok : zOk zInit := by
  refine ⟨⟨by decide, fun w w0 w1 => ?_, fun w w0 w1 => ?_⟩, by decide⟩
  · have : zInit 21 = 0 := by decide
    omega
  · have : zInit 52 = 0 := by decide
    omega
section WKN3
variable {D : va_G} {tc : Nat → ClassId} {base nL NN : Nat} {own : String} {cc : ByteArray} {p : Program} {l : Launch} {e : Env} {R : Room} {s : State} {m : MethodId} {args : Array Value} {below : List Frame} {meth : Method} {c : Code} {cells slots : Nat} {Q : State → Prop} {pc : Nat} {L : List (Option AV)} {st : List AV} {h : AH}
theorem n_acopyT (C : Cx D tc base own cc nL p s m args meth c) {idx t a : Nat} {g0 : Nat → Int} {g : Int → Int} (hX : va_T .int t 6 (fun j => .int (zi (g0 j))) (fun q => base ≤ q) s s.heap) (hml : Cond.methodLink own idx arraycopyName ∈ gl_w) (h1 : h a = some (eA 0 6 g)) (hini : Cond.initialized "java/lang/System" ∈ gl_w)
    (hframes : 1 ≤ R.frames) (hlocals : ((st.map cv).map fun v => v.category).sum + (nativeFrameWords "java/lang/System" "arraycopy" 5 + 11) ≤ R.locals)
    (hd : decode cc pc = .ok (.invokestatic idx, 3)) (k : Wn D tc base nL p l e R s m args below meth c cells slots Q NN (pc + 3) L st (hs h a (eA 0 6 (cpy (fun j => g0 j.toNat) g 6)))) : Wn D tc base nL p l e R s m args below meth c cells slots Q NN pc L (aI 6 :: aI 0 :: aR a :: aI 0 :: aR t :: st) h := by
  intro H locs ls hN hR hS hL T hT X
  have hts := C.2.2.2.2.1
  have hK := C.2.2.2.2.2.1
  obtain ⟨scr, hs1, hs2, hs3, hs4, -, hs5, hs7⟩ := hX
  have hc0 : H[t]? = some scr := by rw [hS.2.1 t (Array.getElem?_eq_some_iff.mp hs1).1 hs7]; exact hs1
  have hc1 : H[a]? = some (vp_cell (tc 0) (6, .inl (fun k => zi (g k)))) := (hR a _ h1).2
  obtain ⟨hs6, k0, hk0, cm0, hkk0⟩ := hs2
  obtain ⟨-, k1, hk1, cm1, hkk1⟩ := (hK.2 0 _ rfl).1 6 (fun j => .int (zi (g j)))
  have n0 : ¬ zi 0 < 0 := by decide
  have n6 : ¬ zi 6 < 0 := by decide
  obtain ⟨vm', X', step⟩ := X.arraycopy C.1 C.2.2.2.1 (hts _ hml) (hts _ na_arraycopy) (hts _ sm_arraycopy) (hts _ hini) (src := t) (dst := a) (cs := scr) (cd := vp_cell (tc 0) (6, .inl (fun k => zi (g k)))) (srcPos := zi 0) (destPos := zi 0) (n := zi 6) (by rw [hT]; exact hc0) (by rw [hT]; exact hc1)
    hs6 (fun _ h => by cases h) hs3 (fun h => by cases h) hk0 hk1 hkk0 hkk1 (by simp [refKind]) n0 n0 n6
    (by show ¬ (0 + 6 : Int) > _; omega)
    (by show ¬ (0 + 6 : Int) > ((arrV (tc 0) 6 (fun j => .int (zi (g j)))).slots.size : Int); rw [arrV_size]; omega)
    (fun vm₁ _ i hi => by
      have hi6 : i < 6 := hi
      have e : scr.slots.getD ((zi 0).toNatClampNeg + i) .null = .int (zi (g0 i)) := by
        rw [Array.getD_eq_getD_getElem?, show (zi 0).toNatClampNeg + i = i by (show 0 + i = i); omega, hs5 _ (by omega)]
        rfl
      refine ⟨?_, ?_⟩
      · rw [e]
        rfl
      · rw [e]
        exact trivial)
    (g := F0 m pc ls ((aI 6 :: aI 0 :: aR a :: aI 0 :: aR t :: st).map cv)) rfl (by rw [hL.1]; exact C.2.2.1.symm) (rest := st.map cv) rfl (by rw [C.2.1]; exact hd) hframes (by show 2 * 0 + _ + _ ≤ _; omega)
  have e0 : copied scr (vp_cell (tc 0) (6, .inl (fun k => zi (g k)))) (zi 0) (zi 0) (zi 6) = vp_cell (tc 0) (6, .inl (va_cpy (fun k => zi (g0 k)) (fun k : Nat => zi (g k)) 0 0 6)) := va_copiedX (fun z => .int z) scr (tc 0) (fun k => zi (g0 k)) (fun k : Nat => zi (g k)) hs5 (show 0 + 6 ≤ 6 by omega)
  have e1 : copied scr (vp_cell (tc 0) (6, .inl (fun k => zi (g k)))) (zi 0) (zi 0) (zi 6) = vp_cell (tc 0) (6, .inl (fun k : Nat => zi (cpy (fun j => g0 j.toNat) g 6 k))) := by
    rw [e0]
    congr 3
    funext k
    unfold va_cpy cpy
    by_cases hk : k < 6
    · rw [if_pos ⟨by omega, by omega⟩, if_pos (by omega)]
      simp
    · rw [if_neg (by omega), if_neg (by omega)]
  rw [e1] at X' step
  have hl : a < H.size := (Array.getElem?_eq_some_iff.mp hc1).1
  have hheap : ((T.setVm vm').setCell a (vp_cell (tc 0) (6, .inl (fun k : Nat => zi (cpy (fun j => g0 j.toNat) g 6 k))))).heap = H.setIfInBounds a (vp_cell (tc 0) (6, .inl (fun k : Nat => zi (cpy (fun j => g0 j.toNat) g 6 k)))) := by rw [← hT]; rfl
  generalize hH1 : H.setIfInBounds a (vp_cell (tc 0) (6, .inl (fun k : Nat => zi (cpy (fun j => g0 j.toNat) g 6 k)))) = H1 at hheap
  have z : H1.size = H.size := by rw [← hH1]; simp
  have oq : ∀ q : Nat, q ≠ a → H1[q]? = H[q]? := fun q hq => by rw [← hH1]; simp [Array.getElem?_setIfInBounds, Ne.symm hq]
  have ee : H1[a]? = some (vp_cell (tc 0) (6, .inl (fun k : Nat => zi (cpy (fun j => g0 j.toNat) g 6 k)))) := by rw [← hH1]; simp [Array.getElem?_setIfInBounds, hl]
  obtain ⟨t', a1, b1⟩ := k H1 _ ls (z.trans hN) (hR.set (hR a _ h1).1 ee oq) ⟨by have := hS.1; omega, fun q g1 g2 => by
      rw [oq q (fun e => g2 (by rw [e]; exact (hR a _ h1).1))]
      exact hS.2.1 q g1 g2, fun q hq => by
      rcases List.mem_append.mp hq with h | h
      · exact hS.2.2 q h
      · obtain ⟨z, -, hz⟩ := List.mem_map.mp h
        rw [← hz]
        exact (hR a _ h1).1⟩ hL _ hheap X'
  exact ⟨t', step t' a1, b1⟩
end WKN3
set_option maxRecDepth 20000 in
set_option maxHeartbeats 1000000 in
theorem cn_X5 (l : Launch) (D : va_G) (tc : Nat → ClassId) (base : Nat)  (q : Nat) (h : AH) (N N' : Nat) (hN : N = q + 1) (hN' : N' = q + 4) (hq : h q = some (eO 5 [aN, aN, aN])) : CN l D tc base yX5_init cX5_init 2 1 3 9 [aR q] h N (fun h' => ∃ f1 : Int → Int, h' q = some (eO 5 [aR (q + 1), aR (q + 2), aR (q + 3)]) ∧ h' (q + 1) = some (eA 0 3 f1) ∧ (∀ k : Int, 0 ≤ k → k < 3 → f1 k = 200) ∧ h' (q + 2) = some (eA 0 3 (fun _ => 0)) ∧ h' (q + 3) = some (eA 0 3 (fun _ => 0)) ∧ Fr h h' q 4) N' := by
  subst hN hN'
  refine CN.of [some (aR q), none] (by decide +kernel) rfl (Nat.le_of_ble_eq_true rfl) ?_
  intro p e s m args below meth c C hP hr hnm
  refine n_aload_n C dX5_init_0 rfl ?_
  refine n_objInit C ml_X5_3 (by decide) (by decide +kernel) dX5_init_1 ?_
  refine n_aload_n C dX5_init_4 rfl ?_
  refine n_iconst C dX5_init_5 ?_
  refine n_newa C (at_ := .int) (n := 3) (t := 0) (ty := .int) ac_int rfl (Or.inl ⟨rfl, rfl⟩) (by decide) ⟨by (show _ ≤ (3 : Nat)); omega, by (show _ ≤ (9 : Nat)); omega⟩ dX5_init_6 ?_
  refine n_putF C (k := 0) hnm inX5 tyX5_ok nmX5 (ci := 5) rfl (by decide) fl_X5_9 rfl rfl (tyX5_ok 0 (by decide)) rfl rfl (Nat.le_of_ble_eq_true rfl) dX5_init_8 (by repeat (first | exact hs_eq _ _ _ | refine hs_ne (by omega) ?_ | assumption)) ?_
  refine n_aload_n C dX5_init_11 rfl ?_
  refine n_iconst C dX5_init_12 ?_
  refine n_newa C (at_ := .int) (n := 3) (t := 0) (ty := .int) ac_int rfl (Or.inl ⟨rfl, rfl⟩) (by decide) ⟨by (show _ ≤ (3 : Nat)); omega, by (show _ ≤ (9 : Nat)); omega⟩ dX5_init_13 ?_
  refine n_putF C (k := 1) hnm inX5 tyX5_ok nmX5 (ci := 5) rfl (by decide) fl_X5_15 rfl rfl (tyX5_ok 1 (by decide)) rfl rfl (Nat.le_of_ble_eq_true rfl) dX5_init_15 (by repeat (first | exact hs_eq _ _ _ | refine hs_ne (by omega) ?_ | assumption)) ?_
  refine n_aload_n C dX5_init_18 rfl ?_
  refine n_iconst C dX5_init_19 ?_
  refine n_newa C (at_ := .int) (n := 3) (t := 0) (ty := .int) ac_int rfl (Or.inl ⟨rfl, rfl⟩) (by decide) ⟨by (show _ ≤ (3 : Nat)); omega, by (show _ ≤ (9 : Nat)); omega⟩ dX5_init_20 ?_
  refine n_putF C (k := 2) hnm inX5 tyX5_ok nmX5 (ci := 5) rfl (by decide) fl_X5_18 rfl rfl (tyX5_ok 2 (by decide)) rfl rfl (Nat.le_of_ble_eq_true rfl) dX5_init_22 (by repeat (first | exact hs_eq _ _ _ | refine hs_ne (by omega) ?_ | assumption)) ?_
  refine n_iconst C dX5_init_25 ?_
  refine n_istore_n C dX5_init_26 (by decide) rfl ?_
  refine n_iload_n C dX5_init_27 rfl ?_
  refine n_iconst C dX5_init_28 ?_
  refine n_icmp_ge (tgt := 47) C dX5_init_29 (by decide) ⟨by omega, by omega⟩ ⟨by omega, by omega⟩ (fun cc => ?_) (fun cc => ?_)
  · exfalso; omega
  refine n_aload_n C dX5_init_32 rfl ?_
  refine n_get C (k := 0) inX5 (ci := 5) rfl (by decide) fl_X5_9 dX5_init_33 (by repeat (first | exact hs_eq _ _ _ | refine hs_ne (by omega) ?_ | assumption)) rfl ?_
  refine n_iload_n C dX5_init_36 rfl ?_
  refine n_sipush C dX5_init_37 (by decide +kernel) ?_
  refine n_iastore C dX5_init_40 (by repeat (first | exact hs_eq _ _ _ | refine hs_ne (by omega) ?_ | assumption)) (by omega) (by omega) (by omega) ?_
  refine n_iinc C dX5_init_41 rfl (by decide) rfl ?_
  refine n_goto (tgt := 27) C dX5_init_44 (by decide) ?_
  refine n_iload_n C dX5_init_27 rfl ?_
  refine n_iconst C dX5_init_28 ?_
  refine n_icmp_ge (tgt := 47) C dX5_init_29 (by decide) ⟨by omega, by omega⟩ ⟨by omega, by omega⟩ (fun cc => ?_) (fun cc => ?_)
  · exfalso; omega
  refine n_aload_n C dX5_init_32 rfl ?_
  refine n_get C (k := 0) inX5 (ci := 5) rfl (by decide) fl_X5_9 dX5_init_33 (by repeat (first | exact hs_eq _ _ _ | refine hs_ne (by omega) ?_ | assumption)) rfl ?_
  refine n_iload_n C dX5_init_36 rfl ?_
  refine n_sipush C dX5_init_37 (by decide +kernel) ?_
  refine n_iastore C dX5_init_40 (by repeat (first | exact hs_eq _ _ _ | refine hs_ne (by omega) ?_ | assumption)) (by omega) (by omega) (by omega) ?_
  refine n_iinc C dX5_init_41 rfl (by decide) rfl ?_
  refine n_goto (tgt := 27) C dX5_init_44 (by decide) ?_
  refine n_iload_n C dX5_init_27 rfl ?_
  refine n_iconst C dX5_init_28 ?_
  refine n_icmp_ge (tgt := 47) C dX5_init_29 (by decide) ⟨by omega, by omega⟩ ⟨by omega, by omega⟩ (fun cc => ?_) (fun cc => ?_)
  · exfalso; omega
  refine n_aload_n C dX5_init_32 rfl ?_
  refine n_get C (k := 0) inX5 (ci := 5) rfl (by decide) fl_X5_9 dX5_init_33 (by repeat (first | exact hs_eq _ _ _ | refine hs_ne (by omega) ?_ | assumption)) rfl ?_
  refine n_iload_n C dX5_init_36 rfl ?_
  refine n_sipush C dX5_init_37 (by decide +kernel) ?_
  refine n_iastore C dX5_init_40 (by repeat (first | exact hs_eq _ _ _ | refine hs_ne (by omega) ?_ | assumption)) (by omega) (by omega) (by omega) ?_
  refine n_iinc C dX5_init_41 rfl (by decide) rfl ?_
  refine n_goto (tgt := 27) C dX5_init_44 (by decide) ?_
  refine n_iload_n C dX5_init_27 rfl ?_
  refine n_iconst C dX5_init_28 ?_
  refine n_icmp_ge (tgt := 47) C dX5_init_29 (by decide) ⟨by omega, by omega⟩ ⟨by omega, by omega⟩ (fun cc => ?_) (fun cc => ?_)
  rotate_left
  · exfalso; omega
  refine n_widen (k := 3) (n := 9) (by omega) (by omega) ?_
  refine n_vret C hr dX5_init_47 ?_
  refine ⟨_, (by repeat (first | exact hs_eq _ _ _ | refine hs_ne (by omega) ?_ | assumption)), (by repeat (first | exact hs_eq _ _ _ | refine hs_ne (by omega) ?_ | assumption)), fun k k0 k1 => ?_, (by repeat (first | exact hs_eq _ _ _ | refine hs_ne (by omega) ?_ | assumption)), (by repeat (first | exact hs_eq _ _ _ | refine hs_ne (by omega) ?_ | assumption)), (by intro a ha; (repeat (refine hs_ne (by omega) ?_)); rfl)⟩
  have : k = 0 ∨ k = 1 ∨ k = 2 := by omega
  rcases this with rfl | rfl | rfl <;> rfl
set_option maxRecDepth 20000 in
set_option maxHeartbeats 1000000 in
theorem cn_X6 (l : Launch) (D : va_G) (tc : Nat → ClassId) (base : Nat)  (q : Nat) (h : AH) (N N' : Nat) (hN : N = q + 1) (hN' : N' = q + 6) (hq : h q = some (eO 6 [aI 0, aN, aN, aN, aN, aN])) : CN l D tc base yX6_init cX6_init 1 1 5 30 [aR q] h N (fun h' => h' q = some (eO 6 [aI 0, aR (q + 1), aR (q + 2), aR (q + 3), aR (q + 4), aR (q + 5)]) ∧ h' (q + 1) = some (eA 0 6 (fun _ => 0)) ∧ h' (q + 2) = some (eA 0 6 (fun _ => 0)) ∧ h' (q + 3) = some (eA 0 6 (fun _ => 0)) ∧ h' (q + 4) = some (eA 0 6 (fun _ => 0)) ∧ h' (q + 5) = some (eA 0 6 (fun _ => 0)) ∧ Fr h h' q 6) N' := by
  subst hN hN'
  refine CN.of [some (aR q)] (by decide +kernel) rfl (Nat.le_of_ble_eq_true rfl) ?_
  intro p e s m args below meth c C hP hr hnm
  refine n_aload_n C dX6_init_0 rfl ?_
  refine n_objInit C ml_X6_3 (by decide) (by decide +kernel) dX6_init_1 ?_
  refine n_aload_n C dX6_init_4 rfl ?_
  refine n_bipush C dX6_init_5 (by decide +kernel) ?_
  refine n_newa C (at_ := .int) (n := 6) (t := 0) (ty := .int) ac_int rfl (Or.inl ⟨rfl, rfl⟩) (by decide) ⟨by (show _ ≤ (5 : Nat)); omega, by (show _ ≤ (30 : Nat)); omega⟩ dX6_init_7 ?_
  refine n_putF C (k := 1) hnm inX6 tyX6_ok nmX6 (ci := 6) rfl (by decide) fl_X6_9 rfl rfl (tyX6_ok 1 (by decide)) rfl rfl (Nat.le_of_ble_eq_true rfl) dX6_init_9 (by repeat (first | exact hs_eq _ _ _ | refine hs_ne (by omega) ?_ | assumption)) ?_
  refine n_aload_n C dX6_init_12 rfl ?_
  refine n_bipush C dX6_init_13 (by decide +kernel) ?_
  refine n_newa C (at_ := .int) (n := 6) (t := 0) (ty := .int) ac_int rfl (Or.inl ⟨rfl, rfl⟩) (by decide) ⟨by (show _ ≤ (5 : Nat)); omega, by (show _ ≤ (30 : Nat)); omega⟩ dX6_init_15 ?_
  refine n_putF C (k := 2) hnm inX6 tyX6_ok nmX6 (ci := 6) rfl (by decide) fl_X6_15 rfl rfl (tyX6_ok 2 (by decide)) rfl rfl (Nat.le_of_ble_eq_true rfl) dX6_init_17 (by repeat (first | exact hs_eq _ _ _ | refine hs_ne (by omega) ?_ | assumption)) ?_
  refine n_aload_n C dX6_init_20 rfl ?_
  refine n_bipush C dX6_init_21 (by decide +kernel) ?_
  refine n_newa C (at_ := .int) (n := 6) (t := 0) (ty := .int) ac_int rfl (Or.inl ⟨rfl, rfl⟩) (by decide) ⟨by (show _ ≤ (5 : Nat)); omega, by (show _ ≤ (30 : Nat)); omega⟩ dX6_init_23 ?_
  refine n_putF C (k := 3) hnm inX6 tyX6_ok nmX6 (ci := 6) rfl (by decide) fl_X6_18 rfl rfl (tyX6_ok 3 (by decide)) rfl rfl (Nat.le_of_ble_eq_true rfl) dX6_init_25 (by repeat (first | exact hs_eq _ _ _ | refine hs_ne (by omega) ?_ | assumption)) ?_
  refine n_aload_n C dX6_init_28 rfl ?_
  refine n_bipush C dX6_init_29 (by decide +kernel) ?_
  refine n_newa C (at_ := .int) (n := 6) (t := 0) (ty := .int) ac_int rfl (Or.inl ⟨rfl, rfl⟩) (by decide) ⟨by (show _ ≤ (5 : Nat)); omega, by (show _ ≤ (30 : Nat)); omega⟩ dX6_init_31 ?_
  refine n_putF C (k := 4) hnm inX6 tyX6_ok nmX6 (ci := 6) rfl (by decide) fl_X6_21 rfl rfl (tyX6_ok 4 (by decide)) rfl rfl (Nat.le_of_ble_eq_true rfl) dX6_init_33 (by repeat (first | exact hs_eq _ _ _ | refine hs_ne (by omega) ?_ | assumption)) ?_
  refine n_aload_n C dX6_init_36 rfl ?_
  refine n_bipush C dX6_init_37 (by decide +kernel) ?_
  refine n_newa C (at_ := .int) (n := 6) (t := 0) (ty := .int) ac_int rfl (Or.inl ⟨rfl, rfl⟩) (by decide) ⟨by (show _ ≤ (5 : Nat)); omega, by (show _ ≤ (30 : Nat)); omega⟩ dX6_init_39 ?_
  refine n_putF C (k := 5) hnm inX6 tyX6_ok nmX6 (ci := 6) rfl (by decide) fl_X6_24 rfl rfl (tyX6_ok 5 (by decide)) rfl rfl (Nat.le_of_ble_eq_true rfl) dX6_init_41 (by repeat (first | exact hs_eq _ _ _ | refine hs_ne (by omega) ?_ | assumption)) ?_
  refine n_widen (k := 5) (n := 30) (by omega) (by omega) ?_
  refine n_vret C hr dX6_init_44 ?_
  refine ⟨(by repeat (first | exact hs_eq _ _ _ | refine hs_ne (by omega) ?_ | assumption)), (by repeat (first | exact hs_eq _ _ _ | refine hs_ne (by omega) ?_ | assumption)), (by repeat (first | exact hs_eq _ _ _ | refine hs_ne (by omega) ?_ | assumption)), (by repeat (first | exact hs_eq _ _ _ | refine hs_ne (by omega) ?_ | assumption)), (by repeat (first | exact hs_eq _ _ _ | refine hs_ne (by omega) ?_ | assumption)), (by repeat (first | exact hs_eq _ _ _ | refine hs_ne (by omega) ?_ | assumption)), (by intro a ha; (repeat (refine hs_ne (by omega) ?_)); rfl)⟩
set_option maxRecDepth 20000 in
set_option maxHeartbeats 1000000 in
theorem cn_X0 (l : Launch) (D : va_G) (tc : Nat → ClassId) (base : Nat)  (q : Nat) (h : AH) (N N' : Nat) (hN : N = q + 1) (hN' : N' = q + 3) (hq : h q = some (eO 0 [aI 0, aN, aN])) : CN l D tc base yX0_init cX0_init 1 1 2 8 [aR q] h N (fun h' => h' q = some (eO 0 [aI 0, aR (q + 1), aR (q + 2)]) ∧ h' (q + 1) = some (eA 0 4 (fun _ => 0)) ∧ h' (q + 2) = some (eA 0 4 (fun _ => 0)) ∧ Fr h h' q 3) N' := by
  subst hN hN'
  refine CN.of [some (aR q)] (by decide +kernel) rfl (Nat.le_of_ble_eq_true rfl) ?_
  intro p e s m args below meth c C hP hr hnm
  refine n_aload_n C dX0_init_0 rfl ?_
  refine n_objInit C ml_X0_3 (by decide) (by decide +kernel) dX0_init_1 ?_
  refine n_aload_n C dX0_init_4 rfl ?_
  refine n_iconst C dX0_init_5 ?_
  refine n_newa C (at_ := .int) (n := 4) (t := 0) (ty := .int) ac_int rfl (Or.inl ⟨rfl, rfl⟩) (by decide) ⟨by (show _ ≤ (2 : Nat)); omega, by (show _ ≤ (8 : Nat)); omega⟩ dX0_init_6 ?_
  refine n_putF C (k := 1) hnm inX0 tyX0_ok nmX0 (ci := 0) rfl (by decide) fl_X0_9 rfl rfl (tyX0_ok 1 (by decide)) rfl rfl (Nat.le_of_ble_eq_true rfl) dX0_init_8 (by repeat (first | exact hs_eq _ _ _ | refine hs_ne (by omega) ?_ | assumption)) ?_
  refine n_aload_n C dX0_init_11 rfl ?_
  refine n_iconst C dX0_init_12 ?_
  refine n_newa C (at_ := .int) (n := 4) (t := 0) (ty := .int) ac_int rfl (Or.inl ⟨rfl, rfl⟩) (by decide) ⟨by (show _ ≤ (2 : Nat)); omega, by (show _ ≤ (8 : Nat)); omega⟩ dX0_init_13 ?_
  refine n_putF C (k := 2) hnm inX0 tyX0_ok nmX0 (ci := 0) rfl (by decide) fl_X0_15 rfl rfl (tyX0_ok 2 (by decide)) rfl rfl (Nat.le_of_ble_eq_true rfl) dX0_init_15 (by repeat (first | exact hs_eq _ _ _ | refine hs_ne (by omega) ?_ | assumption)) ?_
  refine n_widen (k := 2) (n := 8) (by omega) (by omega) ?_
  refine n_vret C hr dX0_init_18 ?_
  refine ⟨(by repeat (first | exact hs_eq _ _ _ | refine hs_ne (by omega) ?_ | assumption)), (by repeat (first | exact hs_eq _ _ _ | refine hs_ne (by omega) ?_ | assumption)), (by repeat (first | exact hs_eq _ _ _ | refine hs_ne (by omega) ?_ | assumption)), (by intro a ha; (repeat (refine hs_ne (by omega) ?_)); rfl)⟩
set_option maxRecDepth 20000 in
set_option maxHeartbeats 1000000 in
theorem cn_X2 (l : Launch) (D : va_G) (tc : Nat → ClassId) (base : Nat)  (q : Nat) (h : AH) (N N' : Nat) (hN : N = q + 1) (hN' : N' = q + 1) (hq : h q = some (eO 2 [aI 0, aI 0, aI 0, aI 0])) : CN l D tc base yX2_init cX2_init 1 1 0 0 [aR q] h N (fun h' => (∃ a b c d : Int, h' q = some (eO 2 [aI a, aI b, aI c, aI d])) ∧ Fr h h' q 1) N' := by
  subst hN hN'
  refine CN.of [some (aR q)] (by decide +kernel) rfl (Nat.le_of_ble_eq_true rfl) ?_
  intro p e s m args below meth c C hP hr hnm
  refine n_aload_n C dX2_init_0 rfl ?_
  refine n_objInit C ml_X2_3 (by decide) (by decide +kernel) dX2_init_1 ?_
  refine n_aload_n C dX2_init_4 rfl ?_
  refine n_iconst C dX2_init_5 ?_
  refine n_put C (k := 0) inX2 tyX2_ok nmX2 (ci := 2) rfl (by decide) fl_X2_11 rfl (Nat.le_of_ble_eq_true rfl) dX2_init_6 (by repeat (first | exact hs_eq _ _ _ | refine hs_ne (by omega) ?_ | assumption)) ?_
  refine n_widen (k := 0) (n := 0) (by omega) (by omega) ?_
  refine n_vret C hr dX2_init_9 ?_
  refine ⟨⟨_, _, _, _, (by repeat (first | exact hs_eq _ _ _ | refine hs_ne (by omega) ?_ | assumption))⟩, (by intro a ha; (repeat (refine hs_ne (by omega) ?_)); rfl)⟩
set_option maxRecDepth 20000 in
set_option maxHeartbeats 1000000 in
theorem cn_X4 (l : Launch) (D : va_G) (tc : Nat → ClassId) (base : Nat)  (q : Nat) (h : AH) (N N' : Nat) (hN : N = q + 1) (hN' : N' = q + 3) (hq : h q = some (eO 4 [aI 0, aN, aN])) : CN l D tc base yX4_init cX4_init 1 2 2 64 [aR q] h N (fun h' => TxA h' q 0 (fun _ => 0) ∧ Fr h h' q 3) N' := by
  subst hN hN'
  refine CN.of [some (aR q)] (by decide +kernel) rfl (Nat.le_of_ble_eq_true rfl) ?_
  intro p e s m args below meth c C hP hr hnm
  refine n_aload_n C dX4_init_0 rfl ?_
  refine n_objInit C ml_X4_3 (by decide) (by decide +kernel) dX4_init_1 ?_
  refine n_aload_n C dX4_init_4 rfl ?_
  refine n_bipush C dX4_init_5 (by decide +kernel) ?_
  refine n_newa C (at_ := .char) (n := 60) (t := 1) (ty := .char) ac_char rfl (Or.inr (Or.inl ⟨rfl, rfl⟩)) (by decide) ⟨by (show _ ≤ (2 : Nat)); omega, by (show _ ≤ (64 : Nat)); omega⟩ dX4_init_7 ?_
  refine n_putF C (k := 1) hnm inX4 tyX4_ok nmX4 (ci := 4) rfl (by decide) fl_X4_9 rfl rfl (tyX4_ok 1 (by decide)) rfl rfl (Nat.le_of_ble_eq_true rfl) dX4_init_9 (by repeat (first | exact hs_eq _ _ _ | refine hs_ne (by omega) ?_ | assumption)) ?_
  refine n_aload_n C dX4_init_12 rfl ?_
  refine n_new C (ci := 2) (fs := [aI 0, aI 0, aI 0, aI 0]) inX2 tyX2_ok rfl cl_X4_15 mk_X2 ini_X2 (fun j hj => by (rcases j with _ | _ | _ | _ | j) <;> first | rfl | (exfalso; omega)) ⟨by (show _ ≤ (2 : Nat)); omega, by (show _ ≤ (64 : Nat)); omega⟩ dX4_init_13 ?_
  refine n_dup C dX4_init_16 rfl ?_
  refine n_callI C hP (cn_X2 l D tc base (q + 2) _ _ (q + 3) rfl rfl (hs_eq _ _ _)) ml_X4_17 im_X2_init ini_X2 co_X2_init ⟨rfl, by decide, by decide, by decide +kernel⟩ (by decide) rfl (Nat.le_of_ble_eq_true rfl) ⟨by (show _ ≤ (2 : Nat)); omega, by (show _ ≤ (64 : Nat)); omega⟩ dX4_init_17 ?_
  rintro h1 ⟨⟨xa, xb, xc, xd, g2⟩, F1⟩
  have g0 : h1 q = _ := (F1 q (by omega)).trans (hs_ne (by omega) (hs_eq _ _ _))
  have g1 : h1 (q + 1) = _ := (F1 (q + 1) (by omega)).trans (hs_ne (by omega) (hs_ne (by omega) (hs_eq _ _ _)))
  refine n_putF C (k := 2) hnm inX4 tyX4_ok nmX4 (ci := 4) rfl (by decide) fl_X4_18 rfl rfl (tyX4_ok 2 (by decide)) rfl rfl (Nat.le_of_ble_eq_true rfl) dX4_init_20 (by repeat (first | exact hs_eq _ _ _ | refine hs_ne (by omega) ?_ | assumption)) ?_
  refine n_widen (k := 2) (n := 64) (by omega) (by omega) ?_
  refine n_vret C hr dX4_init_23 ?_
  refine ⟨⟨_, (by repeat (first | exact hs_eq _ _ _ | refine hs_ne (by omega) ?_ | assumption)), (by repeat (first | exact hs_eq _ _ _ | refine hs_ne (by omega) ?_ | assumption)), ⟨by omega, by omega⟩, fun k k0 k1 => by omega, ⟨_, _, _, _, (by repeat (first | exact hs_eq _ _ _ | refine hs_ne (by omega) ?_ | assumption))⟩⟩, fun a ha => ?_⟩
  repeat (refine hs_ne (by omega) ?_)
  rw [F1 a (by omega)]
  repeat (refine hs_ne (by omega) ?_)
  rfl
set_option maxRecDepth 20000 in
set_option maxHeartbeats 1000000 in
theorem cn_X3 (l : Launch) (D : va_G) (tc : Nat → ClassId) (base : Nat)  (q : Nat) (h : AH) (N N' : Nat) (hN : N = q + 1) (hN' : N' = q + 15) (hq : h q = some (eO 3 [aN, aN, aN, aN, aI 0, aI 0, aI 0, aI 0, aI 0, aI 0, aI 0, aI 0, aI 0, aI 0, aI 0, aI 0])) : CN l D tc base yX3_init cX3_init 1 2 14 65 [aR q] h N (fun h' => SAt h' q zInit ∧ Fr h h' q 15) N' := by
  subst hN hN'
  refine CN.of [some (aR q)] (by decide +kernel) rfl (Nat.le_of_ble_eq_true rfl) ?_
  intro p e s m args below meth c C hP hr hnm
  refine n_aload_n C dX3_init_0 rfl ?_
  refine n_objInit C ml_X3_3 (by decide) (by decide +kernel) dX3_init_1 ?_
  refine n_aload_n C dX3_init_4 rfl ?_
  refine n_new C (ci := 5) (fs := [aN, aN, aN]) inX5 tyX5_ok rfl cl_X3_9 mk_X5 ini_X5 (fun j hj => by (rcases j with _ | _ | _ | j) <;> first | rfl | (exfalso; omega)) ⟨by (show _ ≤ (14 : Nat)); omega, by (show _ ≤ (65 : Nat)); omega⟩ dX3_init_5 ?_
  refine n_dup C dX3_init_8 rfl ?_
  refine n_callI C hP (cn_X5 l D tc base (q + 1) _ _ (q + 5) rfl rfl (hs_eq _ _ _)) ml_X3_11 im_X5_init ini_X5 co_X5_init ⟨rfl, by decide, by decide, by decide +kernel⟩ (by decide) rfl (Nat.le_of_ble_eq_true rfl) ⟨by (show _ ≤ (14 : Nat)); omega, by (show _ ≤ (65 : Nat)); omega⟩ dX3_init_9 ?_
  rintro h1 ⟨f1, a0, a1, af, a2, a3, F1⟩
  have b0 : h1 q = some (eO 3 [aN, aN, aN, aN, aI 0, aI 0, aI 0, aI 0, aI 0, aI 0, aI 0, aI 0, aI 0, aI 0, aI 0, aI 0]) := (F1 q (by omega)).trans (hs_ne (by omega) hq)
  refine n_putF C (k := 0) hnm inX3 tyX3_ok nmX3 (ci := 3) rfl (by decide) fl_X3_12 rfl rfl (tyX3_ok 0 (by decide)) rfl rfl (Nat.le_of_ble_eq_true rfl) dX3_init_12 (by repeat (first | exact hs_eq _ _ _ | refine hs_ne (by omega) ?_ | assumption)) ?_
  refine n_aload_n C dX3_init_15 rfl ?_
  refine n_new C (ci := 6) (fs := [aI 0, aN, aN, aN, aN, aN]) inX6 tyX6_ok rfl cl_X3_18 mk_X6 ini_X6 (fun j hj => by (rcases j with _ | _ | _ | _ | _ | _ | j) <;> first | rfl | (exfalso; omega)) ⟨by (show _ ≤ (14 : Nat)); omega, by (show _ ≤ (65 : Nat)); omega⟩ dX3_init_16 ?_
  refine n_dup C dX3_init_19 rfl ?_
  refine n_callI C hP (cn_X6 l D tc base (q + 5) _ _ (q + 11) rfl rfl (hs_eq _ _ _)) ml_X3_20 im_X6_init ini_X6 co_X6_init ⟨rfl, by decide, by decide, by decide +kernel⟩ (by decide) rfl (Nat.le_of_ble_eq_true rfl) ⟨by (show _ ≤ (14 : Nat)); omega, by (show _ ≤ (65 : Nat)); omega⟩ dX3_init_20 ?_
  rintro h2 ⟨w0, w1, w2, w3, w4, w5, F2⟩
  have T2 : ∀ a : Nat, a < q + 5 → a ≠ q → h2 a = h1 a := fun a ha hb => (F2 a (by omega)).trans (hs_ne (by omega) (hs_ne (by omega) rfl))
  have b0 : h2 q = _ := (F2 q (by omega)).trans (hs_ne (by omega) (hs_eq _ _ _))
  refine n_putF C (k := 1) hnm inX3 tyX3_ok nmX3 (ci := 3) rfl (by decide) fl_X3_21 rfl rfl (tyX3_ok 1 (by decide)) rfl rfl (Nat.le_of_ble_eq_true rfl) dX3_init_23 (by repeat (first | exact hs_eq _ _ _ | refine hs_ne (by omega) ?_ | assumption)) ?_
  refine n_aload_n C dX3_init_26 rfl ?_
  refine n_new C (ci := 0) (fs := [aI 0, aN, aN]) inX0 tyX0_ok rfl cl_X3_25 mk_X0 ini_X0 (fun j hj => by (rcases j with _ | _ | _ | j) <;> first | rfl | (exfalso; omega)) ⟨by (show _ ≤ (14 : Nat)); omega, by (show _ ≤ (65 : Nat)); omega⟩ dX3_init_27 ?_
  refine n_dup C dX3_init_30 rfl ?_
  refine n_callI C hP (cn_X0 l D tc base (q + 11) _ _ (q + 14) rfl rfl (hs_eq _ _ _)) ml_X3_27 im_X0_init ini_X0 co_X0_init ⟨rfl, by decide, by decide, by decide +kernel⟩ (by decide) rfl (Nat.le_of_ble_eq_true rfl) ⟨by (show _ ≤ (14 : Nat)); omega, by (show _ ≤ (65 : Nat)); omega⟩ dX3_init_31 ?_
  rintro h3 ⟨d0, d1, d2, F3⟩
  have T3 : ∀ a : Nat, a < q + 11 → a ≠ q → h3 a = h2 a := fun a ha hb => (F3 a (by omega)).trans (hs_ne (by omega) (hs_ne (by omega) rfl))
  have b0 : h3 q = _ := (F3 q (by omega)).trans (hs_ne (by omega) (hs_eq _ _ _))
  refine n_putF C (k := 2) hnm inX3 tyX3_ok nmX3 (ci := 3) rfl (by decide) fl_X3_28 rfl rfl (tyX3_ok 2 (by decide)) rfl rfl (Nat.le_of_ble_eq_true rfl) dX3_init_34 (by repeat (first | exact hs_eq _ _ _ | refine hs_ne (by omega) ?_ | assumption)) ?_
  refine n_aload_n C dX3_init_37 rfl ?_
  refine n_bipush C dX3_init_38 (by decide +kernel) ?_
  refine n_newa C (at_ := .int) (n := 6) (t := 0) (ty := .int) ac_int rfl (Or.inl ⟨rfl, rfl⟩) (by decide) ⟨by (show _ ≤ (14 : Nat)); omega, by (show _ ≤ (65 : Nat)); omega⟩ dX3_init_40 ?_
  refine n_putF C (k := 3) hnm inX3 tyX3_ok nmX3 (ci := 3) rfl (by decide) fl_X3_32 rfl rfl (tyX3_ok 3 (by decide)) rfl rfl (Nat.le_of_ble_eq_true rfl) dX3_init_42 (by repeat (first | exact hs_eq _ _ _ | refine hs_ne (by omega) ?_ | assumption)) ?_
  refine n_getst C hP C.2.2.2.2.2.2.2.2.1 rfl dX3_init_45 ?_
  intro t hT
  refine n_iconst C dX3_init_48 ?_
  refine n_aload_n C dX3_init_49 rfl ?_
  refine n_get C (k := 3) inX3 (ci := 3) rfl (by decide) fl_X3_32 dX3_init_50 (by repeat (first | exact hs_eq _ _ _ | refine hs_ne (by omega) ?_ | assumption)) rfl ?_
  refine n_iconst C dX3_init_53 ?_
  refine n_bipush C dX3_init_54 (by decide +kernel) ?_
  refine n_acopyT C hT ml_X3_39 (by repeat (first | exact hs_eq _ _ _ | refine hs_ne (by omega) ?_ | assumption)) (gl_1 (i := 6) (by decide +kernel) (by decide +kernel)) (by decide) (by decide +kernel) dX3_init_56 ?_
  refine n_aload_n C dX3_init_59 rfl ?_
  refine n_getst C hP C.2.2.2.2.2.2.2.2.1 rfl dX3_init_60 ?_
  intro t2 hT2
  refine n_iconst C dX3_init_63 ?_
  refine n_ialdst C hT2 (by omega) (by omega) dX3_init_64 ?_
  refine n_put C (k := 6) inX3 tyX3_ok nmX3 (ci := 3) rfl (by decide) fl_X3_45 rfl (Nat.le_of_ble_eq_true rfl) dX3_init_65 (by repeat (first | exact hs_eq _ _ _ | refine hs_ne (by omega) ?_ | assumption)) ?_
  refine n_widen (k := 14) (n := 65) (by omega) (by omega) ?_
  refine n_vret C hr dX3_init_68 ?_
  have T3' : ∀ a : Nat, a < q + 5 → a ≠ q → h3 a = h1 a := fun a ha hb => (T3 a (by omega) hb).trans (T2 a ha hb)
  have a0 := (T3' _ (by omega) (by omega)).trans a0
  have a1 := (T3' _ (by omega) (by omega)).trans a1
  have a2 := (T3' _ (by omega) (by omega)).trans a2
  have a3 := (T3' _ (by omega) (by omega)).trans a3
  have w0 := (T3 _ (by omega) (by omega)).trans w0
  have w1 := (T3 _ (by omega) (by omega)).trans w1
  have w2 := (T3 _ (by omega) (by omega)).trans w2
  have w3 := (T3 _ (by omega) (by omega)).trans w3
  have w4 := (T3 _ (by omega) (by omega)).trans w4
  have w5 := (T3 _ (by omega) (by omega)).trans w5
  refine ⟨⟨f1, fun _ => 0, fun _ => 0, fun _ => 0, fun _ => 0, fun _ => 0, fun _ => 0, fun _ => 0, fun _ => 0, fun _ => 0, _, ⟨(by repeat (first | exact hs_eq _ _ _ | refine hs_ne (by omega) ?_ | assumption)), (by repeat (first | exact hs_eq _ _ _ | refine hs_ne (by omega) ?_ | assumption)), (by repeat (first | exact hs_eq _ _ _ | refine hs_ne (by omega) ?_ | assumption)), (by repeat (first | exact hs_eq _ _ _ | refine hs_ne (by omega) ?_ | assumption)), (by repeat (first | exact hs_eq _ _ _ | refine hs_ne (by omega) ?_ | assumption)), (by repeat (first | exact hs_eq _ _ _ | refine hs_ne (by omega) ?_ | assumption)), (by repeat (first | exact hs_eq _ _ _ | refine hs_ne (by omega) ?_ | assumption)), (by repeat (first | exact hs_eq _ _ _ | refine hs_ne (by omega) ?_ | assumption)), (by repeat (first | exact hs_eq _ _ _ | refine hs_ne (by omega) ?_ | assumption)), (by repeat (first | exact hs_eq _ _ _ | refine hs_ne (by omega) ?_ | assumption)), (by repeat (first | exact hs_eq _ _ _ | refine hs_ne (by omega) ?_ | assumption)), (by repeat (first | exact hs_eq _ _ _ | refine hs_ne (by omega) ?_ | assumption)), (by repeat (first | exact hs_eq _ _ _ | refine hs_ne (by omega) ?_ | assumption)), (by repeat (first | exact hs_eq _ _ _ | refine hs_ne (by omega) ?_ | assumption)), (by repeat (first | exact hs_eq _ _ _ | refine hs_ne (by omega) ?_ | assumption))⟩, ?_⟩, fun a ha => ?_⟩
  · refine ⟨fun k k0 k1 => ?_, fun k k0 k1 => ?_, fun k k0 k1 => ?_, fun k k0 k1 => ?_⟩
    · have : k = 0 ∨ k = 1 ∨ k = 2 := by omega
      rw [af k k0 k1]
      rcases this with rfl | rfl | rfl <;> exact ⟨by decide, by decide, by decide⟩
    · have : zInit 21 = 0 := by decide
      omega
    · have : zInit 52 = 0 := by decide
      omega
    · have : k = 0 ∨ k = 1 ∨ k = 2 ∨ k = 3 ∨ k = 4 ∨ k = 5 := by omega
      rcases this with rfl | rfl | rfl | rfl | rfl | rfl <;> decide
  · repeat (refine hs_ne (by omega) ?_)
    rw [F3 a (by omega)]
    repeat (refine hs_ne (by omega) ?_)
    rw [F2 a (by omega)]
    repeat (refine hs_ne (by omega) ?_)
    rw [F1 a (by omega)]
    repeat (refine hs_ne (by omega) ?_)
    rfl
set_option maxRecDepth 20000 in
set_option maxHeartbeats 1000000 in
theorem cn_X1 (l : Launch) (D : va_G) (tc : Nat → ClassId) (base : Nat)  (q : Nat) (h : AH) (N N' : Nat) (hN : N = q + 1) (hN' : N' = q + 92) (hq : h q = some (eO 1 [aI 0, aI 0, aN])) : CN l D tc base yX1_init cX1_init 2 3 91 492 [aR q] h N (fun h' => (∀ hi : Int → Int, HAt h' q 0 hi) ∧ Fr h h' q 92) N' := by
  subst hN hN'
  refine CN.of [some (aR q), none] (by decide +kernel) rfl (Nat.le_of_ble_eq_true rfl) ?_
  intro p e s m args below meth c C hP hr hnm
  refine n_aload_n C dX1_init_0 rfl ?_
  refine n_objInit C ml_X1_3 (by decide) (by decide +kernel) dX1_init_1 ?_
  refine n_aload_n C dX1_init_4 rfl ?_
  refine n_bipush C dX1_init_5 (by decide +kernel) ?_
  refine n_anewa C hP (n := 6) cl_X1_9 (by decide) ⟨by (show _ ≤ (91 : Nat)); omega, by (show _ ≤ (492 : Nat)); omega⟩ dX1_init_7 ?_
  refine n_putF C (k := 2) hnm inX1 tyX1_ok nmX1 (ci := 1) rfl (by decide) fl_X1_11 rfl rfl (tyX1_ok 2 (by decide)) rfl rfl (Nat.le_of_ble_eq_true rfl) dX1_init_10 (by repeat (first | exact hs_eq _ _ _ | refine hs_ne (by omega) ?_ | assumption)) ?_
  refine n_iconst C dX1_init_13 ?_
  refine n_istore_n C dX1_init_14 (by decide) rfl ?_
  have loop : ∀ (n kk : Nat) (h1 : AH) (f : Int → Option Nat), kk ≤ 6 → 6 - kk < n → h1 q = some (eO 1 [aI 0, aI 0, aR (q + 1)]) → h1 (q + 1) = some (eR 6 f) → (∀ j : Nat, j < kk → f j = some (q + 2 + 15 * j)) → (∀ j : Nat, j < kk → SAt h1 (q + 2 + 15 * j) zInit) → Fr h h1 q 92 →
      Wn D tc base 2 p l e (lvN 3 91 492) s m args below meth c (1 + 15 * kk) (6 + 81 * kk) (MQ below (Qn D tc base (fun h' => (∀ hi : Int → Int, HAt h' q 0 hi) ∧ Fr h h' q 92) (q + 92)) args s 91 492 (fun q => base ≤ q)) (q + 2 + 15 * kk) 15 [some (aR q), some (aI kk)] [] h1 := by
    intro n
    induction n with
    | zero => intro kk h1 f _ hn; omega
    | succ n ih =>
      intro kk h1 f hk hn e0 e1 ef eS eF
      refine n_iload_n C dX1_init_15 rfl ?_
      refine n_bipush C dX1_init_16 (by decide +kernel) ?_
      refine n_icmp_ge (tgt := 40) C dX1_init_18 (by decide) ⟨by omega, by omega⟩ ⟨by omega, by omega⟩ (fun ck => ?_) (fun ck => ?_)
      · have h6 : kk = 6 := by omega
        subst h6
        refine n_widen (k := 91) (n := 492) (by omega) (by omega) ?_
        refine n_vret C hr dX1_init_40 ?_
        exact ⟨fun hi => ⟨0, f, ⟨by omega, by omega⟩, e0, e1, ef, fun j hj => ⟨_, eS j hj⟩, fun k hk => by omega⟩, eF⟩
      · refine n_aload_n C dX1_init_21 rfl ?_
        refine n_get C (k := 2) inX1 (ci := 1) rfl (by decide) fl_X1_11 dX1_init_22 e0 rfl ?_
        refine n_iload_n C dX1_init_25 rfl ?_
        refine n_new C (ci := 3) (fs := [aN, aN, aN, aN, aI 0, aI 0, aI 0, aI 0, aI 0, aI 0, aI 0, aI 0, aI 0, aI 0, aI 0, aI 0]) inX3 tyX3_ok rfl cl_X1_9 mk_X3 ini_X3 (fun j hj => by (rcases j with _ | _ | _ | _ | _ | _ | _ | _ | _ | _ | _ | _ | _ | _ | _ | _ | j) <;> first | rfl | (exfalso; omega)) ⟨by (show _ ≤ (91 : Nat)); omega, by (show _ ≤ (492 : Nat)); omega⟩ dX1_init_26 ?_
        refine n_dup C dX1_init_29 rfl ?_
        refine n_callI C hP (cn_X3 l D tc base (q + 2 + 15 * kk) _ _ (q + 2 + 15 * kk + 15) rfl rfl (hs_eq _ _ _)) ml_X1_17 im_X3_init ini_X3 co_X3_init ⟨rfl, by decide, by decide, by decide +kernel⟩ (by decide) rfl (Nat.le_of_ble_eq_true rfl) ⟨by (show _ ≤ (91 : Nat)); omega, by (show _ ≤ (492 : Nat)); omega⟩ dX1_init_30 ?_
        rintro h2 ⟨S2, F2⟩
        have T2 : ∀ a : Nat, a < q + 2 + 15 * kk → h2 a = h1 a := fun a ha => (F2 a (by omega)).trans (hs_ne (by omega) rfl)
        obtain ⟨fs2, x0⟩ : ∃ fs2, h2 (q + 2 + 15 * kk) = some (eO 3 fs2) := by
          obtain ⟨f1, f2, f3, w1, w2, w3, w4, w5, d1, d2, se, ⟨g0, -⟩, -⟩ := S2
          exact ⟨_, g0⟩
        refine n_aastore C dX1_init_33 ((T2 _ (by omega)).trans e1) x0 (by omega) (by omega) (by omega) ?_
        refine n_iinc C dX1_init_34 rfl (by decide) rfl ?_
        refine n_goto (tgt := 15) C dX1_init_37 (by decide) ?_
        have hg := ih (kk + 1) (hs h2 (q + 1) (eR 6 (fun j => if j = (kk : Int) then some (q + 2 + 15 * kk) else f j))) _ (by omega) (by omega) (hs_ne (by omega) ((T2 _ (by omega)).trans e0)) (hs_eq _ _ _) (fun j hj => by
            by_cases hjk : j = kk
            · subst hjk
              exact if_pos rfl
            · rw [if_neg (by omega)]
              exact ef j (by omega)) (fun j hj => by
            by_cases hjk : j = kk
            · subst hjk
              exact S2.fr (fun a a0 a1 => hs_ne (by omega) rfl)
            · exact (eS j (by omega)).fr (fun a a0 a1 => hs_ne (by omega) (T2 a (by omega)))) (fun a ha => hs_ne (by omega) ((F2 a (by omega)).trans (hs_ne (by omega) (eF a ha))))
        have x1 : 1 + 15 * (kk + 1) = 1 + 15 * kk + 1 + 14 := by omega
        have x2 : 6 + 81 * (kk + 1) = 6 + 81 * kk + 16 + 65 := by omega
        have x3 : q + 2 + 15 * (kk + 1) = q + 2 + 15 * kk + 15 := by omega
        rw [x1, x2, x3] at hg
        exact hg
  refine loop 7 0 _ (fun _ => none) (by omega) (by omega) (by repeat (first | exact hs_eq _ _ _ | refine hs_ne (by omega) ?_ | assumption)) (by repeat (first | exact hs_eq _ _ _ | refine hs_ne (by omega) ?_ | assumption)) (fun j hj => by omega) (fun j hj => by omega) (by intro a ha; (repeat (refine hs_ne (by omega) ?_)); rfl)
set_option maxRecDepth 20000 in
set_option maxHeartbeats 1000000 in
theorem cn_X7 (l : Launch) (D : va_G) (tc : Nat → ClassId) (base : Nat)  (q : Nat) (h : AH) (N N' : Nat) (hN : N = q + 1) (hN' : N' = q + 127) (hq : h q = some (eO 7 [aN, aN, aN, aN, aN])) : CN l D tc base yX7_init cX7_init 1 4 126 1444 [aR q] h N (fun h' => XA h' q zInit (fun _ => 0) (fun _ => 0) 0 0 ∧ Fr h h' q 127) N' := by
  subst hN hN'
  refine CN.of [some (aR q)] (by decide +kernel) rfl (Nat.le_of_ble_eq_true rfl) ?_
  intro p e s m args below meth c C hP hr hnm
  refine n_aload_n C dX7_init_0 rfl ?_
  refine n_objInit C ml_X7_1 (by decide) (by decide +kernel) dX7_init_1 ?_
  refine n_aload_n C dX7_init_4 rfl ?_
  refine n_new C (ci := 3) (fs := [aN, aN, aN, aN, aI 0, aI 0, aI 0, aI 0, aI 0, aI 0, aI 0, aI 0, aI 0, aI 0, aI 0, aI 0]) inX3 tyX3_ok rfl cl_X7_7 mk_X3 ini_X3 (fun j hj => by (rcases j with _ | _ | _ | _ | _ | _ | _ | _ | _ | _ | _ | _ | _ | _ | _ | _ | j) <;> first | rfl | (exfalso; omega)) ⟨by (show _ ≤ (126 : Nat)); omega, by (show _ ≤ (1444 : Nat)); omega⟩ dX7_init_5 ?_
  refine n_dup C dX7_init_8 rfl ?_
  refine n_callI C hP (cn_X3 l D tc base (q + 1) _ _ (q + 16) rfl rfl (hs_eq _ _ _)) ml_X7_9 im_X3_init ini_X3 co_X3_init ⟨rfl, by decide, by decide, by decide +kernel⟩ (by decide) rfl (Nat.le_of_ble_eq_true rfl) ⟨by (show _ ≤ (126 : Nat)); omega, by (show _ ≤ (1444 : Nat)); omega⟩ dX7_init_9 ?_
  rintro h1 ⟨S1, F1⟩
  have b0 : h1 q = some (eO 7 [aN, aN, aN, aN, aN]) := (F1 q (by omega)).trans (hs_ne (by omega) hq)
  refine n_putF C (k := 0) hnm inX7 tyX7_ok nmX7 (ci := 7) rfl (by decide) fl_X7_10 rfl rfl (tyX7_ok 0 (by decide)) rfl rfl (Nat.le_of_ble_eq_true rfl) dX7_init_12 (by repeat (first | exact hs_eq _ _ _ | refine hs_ne (by omega) ?_ | assumption)) ?_
  refine n_aload_n C dX7_init_15 rfl ?_
  refine n_new C (ci := 3) (fs := [aN, aN, aN, aN, aI 0, aI 0, aI 0, aI 0, aI 0, aI 0, aI 0, aI 0, aI 0, aI 0, aI 0, aI 0]) inX3 tyX3_ok rfl cl_X7_7 mk_X3 ini_X3 (fun j hj => by (rcases j with _ | _ | _ | _ | _ | _ | _ | _ | _ | _ | _ | _ | _ | _ | _ | _ | j) <;> first | rfl | (exfalso; omega)) ⟨by (show _ ≤ (126 : Nat)); omega, by (show _ ≤ (1444 : Nat)); omega⟩ dX7_init_16 ?_
  refine n_dup C dX7_init_19 rfl ?_
  refine n_callI C hP (cn_X3 l D tc base (q + 16) _ _ (q + 31) rfl rfl (hs_eq _ _ _)) ml_X7_9 im_X3_init ini_X3 co_X3_init ⟨rfl, by decide, by decide, by decide +kernel⟩ (by decide) rfl (Nat.le_of_ble_eq_true rfl) ⟨by (show _ ≤ (126 : Nat)); omega, by (show _ ≤ (1444 : Nat)); omega⟩ dX7_init_20 ?_
  rintro h2 ⟨S2, F2⟩
  have T2 : ∀ a : Nat, a < q + 16 → a ≠ q → h2 a = h1 a := fun a ha hb => (F2 a (by omega)).trans (hs_ne (by omega) (hs_ne (by omega) rfl))
  have b0 : h2 q = _ := (F2 q (by omega)).trans (hs_ne (by omega) (hs_eq _ _ _))
  refine n_putF C (k := 1) hnm inX7 tyX7_ok nmX7 (ci := 7) rfl (by decide) fl_X7_16 rfl rfl (tyX7_ok 1 (by decide)) rfl rfl (Nat.le_of_ble_eq_true rfl) dX7_init_23 (by repeat (first | exact hs_eq _ _ _ | refine hs_ne (by omega) ?_ | assumption)) ?_
  refine n_aload_n C dX7_init_26 rfl ?_
  refine n_new C (ci := 1) (fs := [aI 0, aI 0, aN]) inX1 tyX1_ok rfl cl_X7_19 mk_X1 ini_X1 (fun j hj => by (rcases j with _ | _ | _ | j) <;> first | rfl | (exfalso; omega)) ⟨by (show _ ≤ (126 : Nat)); omega, by (show _ ≤ (1444 : Nat)); omega⟩ dX7_init_27 ?_
  refine n_dup C dX7_init_30 rfl ?_
  refine n_callI C hP (cn_X1 l D tc base (q + 31) _ _ (q + 123) rfl rfl (hs_eq _ _ _)) ml_X7_21 im_X1_init ini_X1 co_X1_init ⟨rfl, by decide, by decide, by decide +kernel⟩ (by decide) rfl (Nat.le_of_ble_eq_true rfl) ⟨by (show _ ≤ (126 : Nat)); omega, by (show _ ≤ (1444 : Nat)); omega⟩ dX7_init_31 ?_
  rintro h3 ⟨H3, F3⟩
  have T3 : ∀ a : Nat, a < q + 31 → a ≠ q → h3 a = h2 a := fun a ha hb => (F3 a (by omega)).trans (hs_ne (by omega) (hs_ne (by omega) rfl))
  have b0 : h3 q = _ := (F3 q (by omega)).trans (hs_ne (by omega) (hs_eq _ _ _))
  refine n_putF C (k := 2) hnm inX7 tyX7_ok nmX7 (ci := 7) rfl (by decide) fl_X7_22 rfl rfl (tyX7_ok 2 (by decide)) rfl rfl (Nat.le_of_ble_eq_true rfl) dX7_init_34 (by repeat (first | exact hs_eq _ _ _ | refine hs_ne (by omega) ?_ | assumption)) ?_
  refine n_aload_n C dX7_init_37 rfl ?_
  refine n_new C (ci := 4) (fs := [aI 0, aN, aN]) inX4 tyX4_ok rfl cl_X7_26 mk_X4 ini_X4 (fun j hj => by (rcases j with _ | _ | _ | j) <;> first | rfl | (exfalso; omega)) ⟨by (show _ ≤ (126 : Nat)); omega, by (show _ ≤ (1444 : Nat)); omega⟩ dX7_init_38 ?_
  refine n_dup C dX7_init_41 rfl ?_
  refine n_callI C hP (cn_X4 l D tc base (q + 123) _ _ (q + 126) rfl rfl (hs_eq _ _ _)) ml_X7_28 im_X4_init ini_X4 co_X4_init ⟨rfl, by decide, by decide, by decide +kernel⟩ (by decide) rfl (Nat.le_of_ble_eq_true rfl) ⟨by (show _ ≤ (126 : Nat)); omega, by (show _ ≤ (1444 : Nat)); omega⟩ dX7_init_42 ?_
  rintro h4 ⟨X4t, F4⟩
  have T4 : ∀ a : Nat, a < q + 123 → a ≠ q → h4 a = h3 a := fun a ha hb => (F4 a (by omega)).trans (hs_ne (by omega) (hs_ne (by omega) rfl))
  have b0 : h4 q = _ := (F4 q (by omega)).trans (hs_ne (by omega) (hs_eq _ _ _))
  refine n_putF C (k := 3) hnm inX7 tyX7_ok nmX7 (ci := 7) rfl (by decide) fl_X7_29 rfl rfl (tyX7_ok 3 (by decide)) rfl rfl (Nat.le_of_ble_eq_true rfl) dX7_init_45 (by repeat (first | exact hs_eq _ _ _ | refine hs_ne (by omega) ?_ | assumption)) ?_
  refine n_aload_n C dX7_init_48 rfl ?_
  refine n_sipush C dX7_init_49 (by decide +kernel) ?_
  refine n_newa C (at_ := .int) (n := 720) (t := 0) (ty := .int) ac_int rfl (Or.inl ⟨rfl, rfl⟩) (by decide) ⟨by (show _ ≤ (126 : Nat)); omega, by (show _ ≤ (1444 : Nat)); omega⟩ dX7_init_52 ?_
  refine n_putF C (k := 4) hnm inX7 tyX7_ok nmX7 (ci := 7) rfl (by decide) fl_X7_33 rfl rfl (tyX7_ok 4 (by decide)) rfl rfl (Nat.le_of_ble_eq_true rfl) dX7_init_54 (by repeat (first | exact hs_eq _ _ _ | refine hs_ne (by omega) ?_ | assumption)) ?_
  refine n_widen (k := 126) (n := 1444) (by omega) (by omega) ?_
  refine n_vret C hr dX7_init_57 ?_
  have T5 : ∀ (e0 e1 e2 : AE) (a : Nat), a < q + 126 → a ≠ q → hs (hs (hs h4 q e0) (q + 126) e1) q e2 a = h4 a := fun e0 e1 e2 a ha hb => hs_ne (by omega) (hs_ne (by omega) (hs_ne (by omega) rfl))
  refine ⟨⟨zInit, fun _ => 0, (by repeat (first | exact hs_eq _ _ _ | refine hs_ne (by omega) ?_ | assumption)), S1.fr (fun a a0 a1 => (T5 _ _ _ a (by omega) (by omega)).trans ((T4 a (by omega) (by omega)).trans ((T3 a (by omega) (by omega)).trans (T2 a (by omega) (by omega))))), S2.fr (fun a a0 a1 => (T5 _ _ _ a (by omega) (by omega)).trans ((T4 a (by omega) (by omega)).trans (T3 a (by omega) (by omega)))), (H3 _).fr (fun a a0 a1 => (T5 _ _ _ a (by omega) (by omega)).trans (T4 a (by omega) (by omega))) (by omega), X4t.fr (fun a a0 a1 => (T5 _ _ _ a (by omega) (by omega))), (by repeat (first | exact hs_eq _ _ _ | refine hs_ne (by omega) ?_ | assumption)), zInit_ok, by decide, by omega, by omega⟩, fun a ha => ?_⟩
  repeat (refine hs_ne (by omega) ?_)
  rw [F4 a (by omega)]
  repeat (refine hs_ne (by omega) ?_)
  rw [F3 a (by omega)]
  repeat (refine hs_ne (by omega) ?_)
  rw [F2 a (by omega)]
  repeat (refine hs_ne (by omega) ?_)
  rw [F1 a (by omega)]
  repeat (refine hs_ne (by omega) ?_)
  rfl
