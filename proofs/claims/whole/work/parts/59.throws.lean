set_option maxRecDepth 20000 in
set_option maxHeartbeats 1000000 in
theorem tx_X7_requireWeight (l : Launch) (D : va_G) (tc : Nat → ClassId) (base : Nat) (hl : l.stackTraces = false) (ww : Int) (hpp : AH) (hr32 : r32 ww) (hw : ¬ (0 ≤ ww ∧ ww ≤ 2)) : TX l D tc base yX7_requireWeight cX7_requireWeight 1 none 6 [aI ww] hpp eIO (fun h' => hpp = h') := by
  refine TX.of [some (aI ww)] (by decide +kernel) rfl (Nat.le_of_ble_eq_true rfl) ?_
  intro p e s m args below meth c C hE ht
  refine k_iload_n C dX7_requireWeight_0 rfl ?_
  refine k_if_lt (tgt := 9) C dX7_requireWeight_1 (by decide) ⟨by omega, by omega⟩ (fun c1 => ?_) (fun c1 => ?_)
  · try (exfalso; omega)
    all_goals (
      exact k_throwW C hE hl (text := "no such weight") rfl (by decide +kernel) (by decide +kernel) cl_X7_208 ini_IndexOutOfBoundsException at_IO ab_IO ht (by decide) (by decide) (by decide) (by decide) dX7_requireWeight_9 dX7_requireWeight_12 dX7_requireWeight_13 dX7_requireWeight_16 dX7_requireWeight_19 rfl)
  · try (exfalso; omega)
    all_goals (
      refine k_iload_n C dX7_requireWeight_4 rfl ?_
      refine k_iconst C dX7_requireWeight_5 ?_
      refine k_icmp_lt (tgt := 20) C dX7_requireWeight_6 (by decide) ⟨by omega, by omega⟩ ⟨by omega, by omega⟩ (fun c6 => ?_) (fun c6 => ?_)
      · try (exfalso; omega)
        all_goals (
          exfalso
          omega)
      · try (exfalso; omega)
        all_goals (
          exact k_throwW C hE hl (text := "no such weight") rfl (by decide +kernel) (by decide +kernel) cl_X7_208 ini_IndexOutOfBoundsException at_IO ab_IO ht (by decide) (by decide) (by decide) (by decide) dX7_requireWeight_9 dX7_requireWeight_12 dX7_requireWeight_13 dX7_requireWeight_16 dX7_requireWeight_19 rfl))

set_option maxRecDepth 20000 in
set_option maxHeartbeats 1000000 in
theorem tx_X7_requireSetting (l : Launch) (D : va_G) (tc : Nat → ClassId) (base : Nat) (hl : l.stackTraces = false) (ww : Int) (hpp : AH) (hr32 : r32 ww) (hw : ¬ (0 ≤ ww ∧ ww ≤ 5)) : TX l D tc base yX7_requireSetting cX7_requireSetting 1 none 6 [aI ww] hpp eIO (fun h' => hpp = h') := by
  refine TX.of [some (aI ww)] (by decide +kernel) rfl (Nat.le_of_ble_eq_true rfl) ?_
  intro p e s m args below meth c C hE ht
  refine k_iload_n C dX7_requireSetting_0 rfl ?_
  refine k_if_lt (tgt := 10) C dX7_requireSetting_1 (by decide) ⟨by omega, by omega⟩ (fun c1 => ?_) (fun c1 => ?_)
  · try (exfalso; omega)
    all_goals (
      exact k_throwW C hE hl (text := "no such setting") rfl (by decide +kernel) (by decide +kernel) cl_X7_208 ini_IndexOutOfBoundsException at_IO ab_IO ht (by decide) (by decide) (by decide) (by decide) dX7_requireSetting_10 dX7_requireSetting_13 dX7_requireSetting_14 dX7_requireSetting_17 dX7_requireSetting_20 rfl)
  · try (exfalso; omega)
    all_goals (
      refine k_iload_n C dX7_requireSetting_4 rfl ?_
      refine k_bipush C dX7_requireSetting_5 (by decide +kernel) ?_
      refine k_icmp_lt (tgt := 21) C dX7_requireSetting_7 (by decide) ⟨by omega, by omega⟩ ⟨by omega, by omega⟩ (fun c7 => ?_) (fun c7 => ?_)
      · try (exfalso; omega)
        all_goals (
          exfalso
          omega)
      · try (exfalso; omega)
        all_goals (
          exact k_throwW C hE hl (text := "no such setting") rfl (by decide +kernel) (by decide +kernel) cl_X7_208 ini_IndexOutOfBoundsException at_IO ab_IO ht (by decide) (by decide) (by decide) (by decide) dX7_requireSetting_10 dX7_requireSetting_13 dX7_requireSetting_14 dX7_requireSetting_17 dX7_requireSetting_20 rfl))

set_option maxRecDepth 20000 in
set_option maxHeartbeats 1000000 in
theorem tx_X7_requireRange (l : Launch) (D : va_G) (tc : Nat → ClassId) (base : Nat) (hl : l.stackTraces = false) (vv lo hu : Int) (hpp : AH) (hr32 : r32 vv) (hv : ¬ (lo ≤ vv ∧ vv ≤ hu)) (hlo : -100000 ≤ lo ∧ lo ≤ 100000) (hhu : -100000 ≤ hu ∧ hu ≤ 100000) : TX l D tc base yX7_requireRange cX7_requireRange 3 none 6 [aI vv, aI lo, aI hu] hpp eIA (fun h' => hpp = h') := by
  refine TX.of [some (aI vv), some (aI lo), some (aI hu)] (by decide +kernel) rfl (Nat.le_of_ble_eq_true rfl) ?_
  intro p e s m args below meth c C hE ht
  refine k_iload_n C dX7_requireRange_0 rfl ?_
  refine k_iload_n C dX7_requireRange_1 rfl ?_
  refine k_icmp_lt (tgt := 10) C dX7_requireRange_2 (by decide) ⟨by omega, by omega⟩ ⟨by omega, by omega⟩ (fun c2 => ?_) (fun c2 => ?_)
  · try (exfalso; omega)
    all_goals (
      exact k_throwW C hE hl (text := "out of range") rfl (by decide +kernel) (by decide +kernel) cl_X7_155 ini_IllegalArgumentException at_IA ab_IA ht (by decide) (by decide) (by decide) (by decide) dX7_requireRange_10 dX7_requireRange_13 dX7_requireRange_14 dX7_requireRange_17 dX7_requireRange_20 rfl)
  · try (exfalso; omega)
    all_goals (
      refine k_iload_n C dX7_requireRange_5 rfl ?_
      refine k_iload_n C dX7_requireRange_6 rfl ?_
      refine k_icmp_le (tgt := 21) C dX7_requireRange_7 (by decide) ⟨by omega, by omega⟩ ⟨by omega, by omega⟩ (fun c7 => ?_) (fun c7 => ?_)
      · try (exfalso; omega)
        all_goals (
          exfalso
          omega)
      · try (exfalso; omega)
        all_goals (
          exact k_throwW C hE hl (text := "out of range") rfl (by decide +kernel) (by decide +kernel) cl_X7_155 ini_IllegalArgumentException at_IA ab_IA ht (by decide) (by decide) (by decide) (by decide) dX7_requireRange_10 dX7_requireRange_13 dX7_requireRange_14 dX7_requireRange_17 dX7_requireRange_20 rfl))

set_option maxRecDepth 20000 in
set_option maxHeartbeats 1000000 in
theorem tx_X7_requireWinder (l : Launch) (D : va_G) (tc : Nat → ClassId) (base : Nat) (hl : l.stackTraces = false) (rc : Nat) (zrr hhi htx : Int → Int) (st ln : Int) (hpp : AH) (hX : XA hpp rc zrr hhi htx st ln) (ww : Int) (hr32 : r32 ww) (hw : ¬ (0 ≤ ww ∧ ww < zrr 21)) : TX l D tc base yX7_requireWinder cX7_requireWinder 2 none 6 [aR rc, aI ww] hpp eIO (fun h' => hpp = h') := by
  refine TX.of [some (aR rc), some (aI ww)] (by decide +kernel) rfl (Nat.le_of_ble_eq_true rfl) ?_
  intro p e s m args below meth c C hE ht
  obtain ⟨zth, gr, x0, hS, hT, hH, hTx, x5, hok, h13, hst⟩ := id hX
  obtain ⟨ol, ff, hol, hj0, -⟩ := id hH
  obtain ⟨fsn, hsn0⟩ := hS.obj
  have hi := hok.1
  obtain ⟨⟨v0, v1, v2, v9, v10, v11, v12, v13, v21, v52, v61, v62, v63, v64, v65, v66⟩, hwi, hde⟩ := id hi
  obtain ⟨f1, f2, f3, w1, w2, w3, w4, w5, d1, d2, se, ⟨g0, g1, g2, g3, g4, g5, g6, g7, g8, g9, g10, g11, g12, g13, g14⟩, hsr⟩ := id hS
  obtain ⟨r1, r2, r3, r4⟩ := id hsr
  refine k_iload_n C dX7_requireWinder_0 rfl ?_
  refine k_if_lt (tgt := 18) C dX7_requireWinder_1 (by decide) ⟨by omega, by omega⟩ (fun c1 => ?_) (fun c1 => ?_)
  · try (exfalso; omega)
    all_goals (
      exact k_throwW C hE hl (text := "no such winder") rfl (by decide +kernel) (by decide +kernel) cl_X7_208 ini_IndexOutOfBoundsException at_IO ab_IO ht (by decide) (by decide) (by decide) (by decide) dX7_requireWinder_18 dX7_requireWinder_21 dX7_requireWinder_22 dX7_requireWinder_25 dX7_requireWinder_28 rfl)
  · try (exfalso; omega)
    all_goals (
      refine k_iload_n C dX7_requireWinder_4 rfl ?_
      refine k_aload_n C dX7_requireWinder_5 rfl ?_
      refine k_get C (k := 0) inX7 (ci := 7) rfl (by decide) fl_X7_10 dX7_requireWinder_6 (by repeat (first | exact hs_eq _ _ _ | refine hs_ne (by omega) ?_ | assumption)) rfl ?_
      refine k_get C (k := 1) inX3 (ci := 3) rfl (by decide) fl_X7_105 dX7_requireWinder_9 (by repeat (first | exact hs_eq _ _ _ | refine hs_ne (by omega) ?_ | assumption)) rfl ?_
      refine k_get C (k := 0) inX6 (ci := 6) rfl (by decide) fl_X7_109 dX7_requireWinder_12 (by repeat (first | exact hs_eq _ _ _ | refine hs_ne (by omega) ?_ | assumption)) rfl ?_
      refine k_icmp_lt (tgt := 29) C dX7_requireWinder_15 (by decide) ⟨by omega, by omega⟩ ⟨by omega, by omega⟩ (fun c15 => ?_) (fun c15 => ?_)
      · try (exfalso; omega)
        all_goals (
          exfalso
          omega)
      · try (exfalso; omega)
        all_goals (
          exact k_throwW C hE hl (text := "no such winder") rfl (by decide +kernel) (by decide +kernel) cl_X7_208 ini_IndexOutOfBoundsException at_IO ab_IO ht (by decide) (by decide) (by decide) (by decide) dX7_requireWinder_18 dX7_requireWinder_21 dX7_requireWinder_22 dX7_requireWinder_25 dX7_requireWinder_28 rfl))

set_option maxRecDepth 20000 in
set_option maxHeartbeats 1000000 in
theorem tx_wind1 (l : Launch) (D : va_G) (tc : Nat → ClassId) (base : Nat) (hl : l.stackTraces = false) (rc : Nat) (ww tt : Int) (hpp : AH) (hr1 : r32 ww) (hw : ¬ (0 ≤ ww ∧ ww ≤ 2)) : TX l D tc base yX7_wind cX7_wind 3 (some .int) 7 [aR rc, aI ww, aI tt] hpp eIO (fun h' => hpp = h') := by
  refine TX.of [some (aR rc), some (aI ww), some (aI tt)] (by decide +kernel) rfl (Nat.le_of_ble_eq_true rfl) ?_
  intro p e s m args below meth c C hE ht
  refine k_iload_n C dX7_wind_0 rfl ?_
  refine k_xcallS C hE (n := 1) (as := [_]) (tx_X7_requireWeight l D tc base hl _ _ hr1 hw) ml_X7_37 sm_X7_requireWeight ini_X7 co_X7_requireWeight ⟨by decide, by decide, by decide +kernel⟩ rfl ⟨by decide, by decide⟩ rfl (Nat.le_of_ble_eq_true rfl) ⟨by decide, by decide⟩ dX7_wind_1 ?_
  rintro _ rfl
  exact Xk.out C ht rfl

set_option maxRecDepth 20000 in
set_option maxHeartbeats 1000000 in
theorem tx_wind2 (l : Launch) (D : va_G) (tc : Nat → ClassId) (base : Nat) (hl : l.stackTraces = false) (rc : Nat) (ww tt : Int) (hpp : AH) (hr2 : r32 tt) (hw : 0 ≤ ww ∧ ww ≤ 2) (hv : ¬ (1 ≤ tt ∧ tt ≤ 200)) : TX l D tc base yX7_wind cX7_wind 3 (some .int) 7 [aR rc, aI ww, aI tt] hpp eIA (fun h' => hpp = h') := by
  refine TX.of [some (aR rc), some (aI ww), some (aI tt)] (by decide +kernel) rfl (Nat.le_of_ble_eq_true rfl) ?_
  intro p e s m args below meth c C hE ht
  refine k_iload_n C dX7_wind_0 rfl ?_
  refine k_callS C (n := 1) (as := [_]) (ct_X7_requireWeight l D tc base _ _ ⟨by omega, by omega⟩) ml_X7_37 sm_X7_requireWeight ini_X7 co_X7_requireWeight ⟨by decide, by decide, by decide +kernel⟩ rfl ⟨by decide, by decide⟩ rfl (Nat.le_of_ble_eq_true rfl) ⟨Nat.zero_le _, Nat.zero_le _⟩ dX7_wind_1 ?_
  rintro _ _ ⟨rfl, rfl⟩
  refine k_iload_n C dX7_wind_4 rfl ?_
  refine k_iconst C dX7_wind_5 ?_
  refine k_sipush C dX7_wind_6 (by decide +kernel) ?_
  refine k_xcallS C hE (n := 3) (as := [_, _, _]) (tx_X7_requireRange l D tc base hl _ _ _ _ hr2 hv ⟨by omega, by omega⟩ ⟨by omega, by omega⟩) ml_X7_41 sm_X7_requireRange ini_X7 co_X7_requireRange ⟨by decide, by decide, by decide +kernel⟩ rfl ⟨by decide, by decide⟩ rfl (Nat.le_of_ble_eq_true rfl) ⟨by decide, by decide⟩ dX7_wind_9 ?_
  rintro _ rfl
  exact Xk.out C ht rfl

set_option maxRecDepth 20000 in
set_option maxHeartbeats 1000000 in
theorem tx_set1 (l : Launch) (D : va_G) (tc : Nat → ClassId) (base : Nat) (hl : l.stackTraces = false) (rc : Nat) (ww vv : Int) (hpp : AH) (hr1 : r32 ww) (hw : ¬ (0 ≤ ww ∧ ww ≤ 5)) : TX l D tc base yX7_set cX7_set 4 (some .int) 7 [aR rc, aI ww, aI vv] hpp eIO (fun h' => hpp = h') := by
  refine TX.of [some (aR rc), some (aI ww), some (aI vv), none] (by decide +kernel) rfl (Nat.le_of_ble_eq_true rfl) ?_
  intro p e s m args below meth c C hE ht
  refine k_iload_n C dX7_set_0 rfl ?_
  refine k_xcallS C hE (n := 1) (as := [_]) (tx_X7_requireSetting l D tc base hl _ _ hr1 hw) ml_X7_59 sm_X7_requireSetting ini_X7 co_X7_requireSetting ⟨by decide, by decide, by decide +kernel⟩ rfl ⟨by decide, by decide⟩ rfl (Nat.le_of_ble_eq_true rfl) ⟨by decide, by decide⟩ dX7_set_1 ?_
  rintro _ rfl
  exact Xk.out C ht rfl

set_option maxRecDepth 20000 in
set_option maxHeartbeats 1000000 in
theorem tx_set2 (l : Launch) (D : va_G) (tc : Nat → ClassId) (base : Nat) (hl : l.stackTraces = false) (rc : Nat) (ww vv : Int) (hpp : AH) (hr2 : r32 vv) (hw : 0 ≤ ww ∧ ww ≤ 5) (hv : ¬ zVal ww vv) : TX l D tc base yX7_set cX7_set 4 (some .int) 7 [aR rc, aI ww, aI vv] hpp eIA (fun h' => hpp = h') := by
  refine TX.of [some (aR rc), some (aI ww), some (aI vv), none] (by decide +kernel) rfl (Nat.le_of_ble_eq_true rfl) ?_
  intro p e s m args below meth c C hE ht
  have hlm := lmV hw
  have hvl : ¬ (lV ww.toNat ≤ vv ∧ vv ≤ mV ww.toNat) := fun q => hv ((zVal_lm hw).mpr q)
  refine k_iload_n C dX7_set_0 rfl ?_
  refine k_callS C (n := 1) (as := [_]) (ct_X7_requireSetting l D tc base _ _ ⟨by omega, by omega⟩) ml_X7_59 sm_X7_requireSetting ini_X7 co_X7_requireSetting ⟨by decide, by decide, by decide +kernel⟩ rfl ⟨by decide, by decide⟩ rfl (Nat.le_of_ble_eq_true rfl) ⟨Nat.zero_le _, Nat.zero_le _⟩ dX7_set_1 ?_
  rintro _ _ ⟨rfl, rfl⟩
  refine k_iload_n C dX7_set_4 rfl ?_
  refine k_getst C C.2.2.2.2.2.2.2.2.2.1 fl_X7_62 dX7_set_5 ?_
  intro ta hta
  refine k_iload_n C dX7_set_8 rfl ?_
  refine k_ialdst C hta (by omega) (by omega) dX7_set_9 ?_
  refine k_getst C C.2.2.2.2.2.2.2.2.2.2 fl_X7_65 dX7_set_10 ?_
  intro tb htb
  refine k_iload_n C dX7_set_13 rfl ?_
  refine k_ialdst C htb (by omega) (by omega) dX7_set_14 ?_
  refine k_xcallS C hE (n := 3) (as := [_, _, _]) (tx_X7_requireRange l D tc base hl _ _ _ _ hr2 hvl ⟨by omega, by omega⟩ ⟨by omega, by omega⟩) ml_X7_41 sm_X7_requireRange ini_X7 co_X7_requireRange ⟨by decide, by decide, by decide +kernel⟩ rfl ⟨by decide, by decide⟩ rfl (Nat.le_of_ble_eq_true rfl) ⟨by decide, by decide⟩ dX7_set_15 ?_
  rintro _ rfl
  exact Xk.out C ht rfl

set_option maxRecDepth 20000 in
set_option maxHeartbeats 1000000 in
theorem tx_setSnow (l : Launch) (D : va_G) (tc : Nat → ClassId) (base : Nat) (hl : l.stackTraces = false) (rc : Nat) (ww : Int) (hpp : AH) (hr1 : r32 ww) (hw : ¬ (0 ≤ ww ∧ ww ≤ 20)) : TX l D tc base yX7_setSnow cX7_setSnow 3 (some .int) 7 [aR rc, aI ww] hpp eIA (fun h' => hpp = h') := by
  refine TX.of [some (aR rc), some (aI ww), none] (by decide +kernel) rfl (Nat.le_of_ble_eq_true rfl) ?_
  intro p e s m args below meth c C hE ht
  refine k_iload_n C dX7_setSnow_0 rfl ?_
  refine k_iconst C dX7_setSnow_1 ?_
  refine k_bipush C dX7_setSnow_2 (by decide +kernel) ?_
  refine k_xcallS C hE (n := 3) (as := [_, _, _]) (tx_X7_requireRange l D tc base hl _ _ _ _ hr1 hw ⟨by omega, by omega⟩ ⟨by omega, by omega⟩) ml_X7_41 sm_X7_requireRange ini_X7 co_X7_requireRange ⟨by decide, by decide, by decide +kernel⟩ rfl ⟨by decide, by decide⟩ rfl (Nat.le_of_ble_eq_true rfl) ⟨by decide, by decide⟩ dX7_setSnow_4 ?_
  rintro _ rfl
  exact Xk.out C ht rfl

set_option maxRecDepth 20000 in
set_option maxHeartbeats 1000000 in
theorem tx_setHands (l : Launch) (D : va_G) (tc : Nat → ClassId) (base : Nat) (hl : l.stackTraces = false) (rc : Nat) (ww : Int) (hpp : AH) (hr1 : r32 ww) (hw : ¬ (0 ≤ ww ∧ ww ≤ 719)) : TX l D tc base yX7_setHands cX7_setHands 3 (some .int) 7 [aR rc, aI ww] hpp eIA (fun h' => hpp = h') := by
  refine TX.of [some (aR rc), some (aI ww), none] (by decide +kernel) rfl (Nat.le_of_ble_eq_true rfl) ?_
  intro p e s m args below meth c C hE ht
  refine k_iload_n C dX7_setHands_0 rfl ?_
  refine k_iconst C dX7_setHands_1 ?_
  refine k_sipush C dX7_setHands_2 (by decide +kernel) ?_
  refine k_xcallS C hE (n := 3) (as := [_, _, _]) (tx_X7_requireRange l D tc base hl _ _ _ _ hr1 hw ⟨by omega, by omega⟩ ⟨by omega, by omega⟩) ml_X7_41 sm_X7_requireRange ini_X7 co_X7_requireRange ⟨by decide, by decide, by decide +kernel⟩ rfl ⟨by decide, by decide⟩ rfl (Nat.le_of_ble_eq_true rfl) ⟨by decide, by decide⟩ dX7_setHands_5 ?_
  rintro _ rfl
  exact Xk.out C ht rfl

set_option maxRecDepth 20000 in
set_option maxHeartbeats 1000000 in
theorem tx_hire1 (l : Launch) (D : va_G) (tc : Nat → ClassId) (base : Nat) (hl : l.stackTraces = false) (rc : Nat) (ww tt pd : Int) (hpp : AH) (hr1 : r32 ww) (hw : ¬ (0 ≤ ww ∧ ww ≤ 2)) : TX l D tc base yX7_hire cX7_hire 4 (some .int) 7 [aR rc, aI ww, aI tt, aI pd] hpp eIO (fun h' => hpp = h') := by
  refine TX.of [some (aR rc), some (aI ww), some (aI tt), some (aI pd)] (by decide +kernel) rfl (Nat.le_of_ble_eq_true rfl) ?_
  intro p e s m args below meth c C hE ht
  refine k_iload_n C dX7_hire_0 rfl ?_
  refine k_xcallS C hE (n := 1) (as := [_]) (tx_X7_requireWeight l D tc base hl _ _ hr1 hw) ml_X7_37 sm_X7_requireWeight ini_X7 co_X7_requireWeight ⟨by decide, by decide, by decide +kernel⟩ rfl ⟨by decide, by decide⟩ rfl (Nat.le_of_ble_eq_true rfl) ⟨by decide, by decide⟩ dX7_hire_1 ?_
  rintro _ rfl
  exact Xk.out C ht rfl

set_option maxRecDepth 20000 in
set_option maxHeartbeats 1000000 in
theorem tx_hire2 (l : Launch) (D : va_G) (tc : Nat → ClassId) (base : Nat) (hl : l.stackTraces = false) (rc : Nat) (ww tt pd : Int) (hpp : AH) (hr2 : r32 tt) (hw : 0 ≤ ww ∧ ww ≤ 2) (hv : ¬ (1 ≤ tt ∧ tt ≤ 200)) : TX l D tc base yX7_hire cX7_hire 4 (some .int) 7 [aR rc, aI ww, aI tt, aI pd] hpp eIA (fun h' => hpp = h') := by
  refine TX.of [some (aR rc), some (aI ww), some (aI tt), some (aI pd)] (by decide +kernel) rfl (Nat.le_of_ble_eq_true rfl) ?_
  intro p e s m args below meth c C hE ht
  refine k_iload_n C dX7_hire_0 rfl ?_
  refine k_callS C (n := 1) (as := [_]) (ct_X7_requireWeight l D tc base _ _ ⟨by omega, by omega⟩) ml_X7_37 sm_X7_requireWeight ini_X7 co_X7_requireWeight ⟨by decide, by decide, by decide +kernel⟩ rfl ⟨by decide, by decide⟩ rfl (Nat.le_of_ble_eq_true rfl) ⟨Nat.zero_le _, Nat.zero_le _⟩ dX7_hire_1 ?_
  rintro _ _ ⟨rfl, rfl⟩
  refine k_iload_n C dX7_hire_4 rfl ?_
  refine k_iconst C dX7_hire_5 ?_
  refine k_sipush C dX7_hire_6 (by decide +kernel) ?_
  refine k_xcallS C hE (n := 3) (as := [_, _, _]) (tx_X7_requireRange l D tc base hl _ _ _ _ hr2 hv ⟨by omega, by omega⟩ ⟨by omega, by omega⟩) ml_X7_41 sm_X7_requireRange ini_X7 co_X7_requireRange ⟨by decide, by decide, by decide +kernel⟩ rfl ⟨by decide, by decide⟩ rfl (Nat.le_of_ble_eq_true rfl) ⟨by decide, by decide⟩ dX7_hire_9 ?_
  rintro _ rfl
  exact Xk.out C ht rfl

set_option maxRecDepth 20000 in
set_option maxHeartbeats 1000000 in
theorem tx_hire3 (l : Launch) (D : va_G) (tc : Nat → ClassId) (base : Nat) (hl : l.stackTraces = false) (rc : Nat) (ww tt pd : Int) (hpp : AH) (hr3 : r32 pd) (hw : 0 ≤ ww ∧ ww ≤ 2) (ht2 : 1 ≤ tt ∧ tt ≤ 200) (hv : ¬ (1 ≤ pd ∧ pd ≤ 720)) : TX l D tc base yX7_hire cX7_hire 4 (some .int) 7 [aR rc, aI ww, aI tt, aI pd] hpp eIA (fun h' => hpp = h') := by
  refine TX.of [some (aR rc), some (aI ww), some (aI tt), some (aI pd)] (by decide +kernel) rfl (Nat.le_of_ble_eq_true rfl) ?_
  intro p e s m args below meth c C hE ht
  refine k_iload_n C dX7_hire_0 rfl ?_
  refine k_callS C (n := 1) (as := [_]) (ct_X7_requireWeight l D tc base _ _ ⟨by omega, by omega⟩) ml_X7_37 sm_X7_requireWeight ini_X7 co_X7_requireWeight ⟨by decide, by decide, by decide +kernel⟩ rfl ⟨by decide, by decide⟩ rfl (Nat.le_of_ble_eq_true rfl) ⟨Nat.zero_le _, Nat.zero_le _⟩ dX7_hire_1 ?_
  rintro _ _ ⟨rfl, rfl⟩
  refine k_iload_n C dX7_hire_4 rfl ?_
  refine k_iconst C dX7_hire_5 ?_
  refine k_sipush C dX7_hire_6 (by decide +kernel) ?_
  refine k_callS C (n := 3) (as := [_, _, _]) (ct_X7_requireRange l D tc base _ _ _ _ ⟨by omega, by omega⟩ ⟨by omega, by omega⟩ ⟨by omega, by omega⟩) ml_X7_41 sm_X7_requireRange ini_X7 co_X7_requireRange ⟨by decide, by decide, by decide +kernel⟩ rfl ⟨by decide, by decide⟩ rfl (Nat.le_of_ble_eq_true rfl) ⟨Nat.zero_le _, Nat.zero_le _⟩ dX7_hire_9 ?_
  rintro _ _ ⟨rfl, rfl⟩
  refine k_iload_n C dX7_hire_12 rfl ?_
  refine k_iconst C dX7_hire_13 ?_
  refine k_sipush C dX7_hire_14 (by decide +kernel) ?_
  refine k_xcallS C hE (n := 3) (as := [_, _, _]) (tx_X7_requireRange l D tc base hl _ _ _ _ hr3 hv ⟨by omega, by omega⟩ ⟨by omega, by omega⟩) ml_X7_41 sm_X7_requireRange ini_X7 co_X7_requireRange ⟨by decide, by decide, by decide +kernel⟩ rfl ⟨by decide, by decide⟩ rfl (Nat.le_of_ble_eq_true rfl) ⟨by decide, by decide⟩ dX7_hire_17 ?_
  rintro _ rfl
  exact Xk.out C ht rfl

set_option maxRecDepth 20000 in
set_option maxHeartbeats 1000000 in
theorem tx_hire4 (l : Launch) (D : va_G) (tc : Nat → ClassId) (base : Nat) (hl : l.stackTraces = false) (rc : Nat) (zrr hhi htx : Int → Int) (st ln : Int) (hpp : AH) (hX : XA hpp rc zrr hhi htx st ln) (ww tt pd : Int) (hw : 0 ≤ ww ∧ ww ≤ 2) (ht2 : 1 ≤ tt ∧ tt ≤ 200) (hp : 1 ≤ pd ∧ pd ≤ 720) (h6 : zrr 21 = 6) : TX l D tc base yX7_hire cX7_hire 4 (some .int) 7 [aR rc, aI ww, aI tt, aI pd] hpp eIS (fun h' => hpp = h') := by
  refine TX.of [some (aR rc), some (aI ww), some (aI tt), some (aI pd)] (by decide +kernel) rfl (Nat.le_of_ble_eq_true rfl) ?_
  intro p e s m args below meth c C hE ht
  obtain ⟨zth, gr, x0, hS, hT, hH, hTx, x5, hok, h13, hst⟩ := id hX
  obtain ⟨ol, ff, hol, hj0, -⟩ := id hH
  obtain ⟨fsn, hsn0⟩ := hS.obj
  have hi := hok.1
  obtain ⟨⟨v0, v1, v2, v9, v10, v11, v12, v13, v21, v52, v61, v62, v63, v64, v65, v66⟩, hwi, hde⟩ := id hi
  obtain ⟨f1, f2, f3, w1, w2, w3, w4, w5, d1, d2, se, ⟨g0, g1, g2, g3, g4, g5, g6, g7, g8, g9, g10, g11, g12, g13, g14⟩, hsr⟩ := id hS
  obtain ⟨r1, r2, r3, r4⟩ := id hsr
  refine k_iload_n C dX7_hire_0 rfl ?_
  refine k_callS C (n := 1) (as := [_]) (ct_X7_requireWeight l D tc base _ _ ⟨by omega, by omega⟩) ml_X7_37 sm_X7_requireWeight ini_X7 co_X7_requireWeight ⟨by decide, by decide, by decide +kernel⟩ rfl ⟨by decide, by decide⟩ rfl (Nat.le_of_ble_eq_true rfl) ⟨Nat.zero_le _, Nat.zero_le _⟩ dX7_hire_1 ?_
  rintro _ _ ⟨rfl, rfl⟩
  refine k_iload_n C dX7_hire_4 rfl ?_
  refine k_iconst C dX7_hire_5 ?_
  refine k_sipush C dX7_hire_6 (by decide +kernel) ?_
  refine k_callS C (n := 3) (as := [_, _, _]) (ct_X7_requireRange l D tc base _ _ _ _ ⟨by omega, by omega⟩ ⟨by omega, by omega⟩ ⟨by omega, by omega⟩) ml_X7_41 sm_X7_requireRange ini_X7 co_X7_requireRange ⟨by decide, by decide, by decide +kernel⟩ rfl ⟨by decide, by decide⟩ rfl (Nat.le_of_ble_eq_true rfl) ⟨Nat.zero_le _, Nat.zero_le _⟩ dX7_hire_9 ?_
  rintro _ _ ⟨rfl, rfl⟩
  refine k_iload_n C dX7_hire_12 rfl ?_
  refine k_iconst C dX7_hire_13 ?_
  refine k_sipush C dX7_hire_14 (by decide +kernel) ?_
  refine k_callS C (n := 3) (as := [_, _, _]) (ct_X7_requireRange l D tc base _ _ _ _ ⟨by omega, by omega⟩ ⟨by omega, by omega⟩ ⟨by omega, by omega⟩) ml_X7_41 sm_X7_requireRange ini_X7 co_X7_requireRange ⟨by decide, by decide, by decide +kernel⟩ rfl ⟨by decide, by decide⟩ rfl (Nat.le_of_ble_eq_true rfl) ⟨Nat.zero_le _, Nat.zero_le _⟩ dX7_hire_17 ?_
  rintro _ _ ⟨rfl, rfl⟩
  refine k_aload_n C dX7_hire_20 rfl ?_
  refine k_get C (k := 0) inX7 (ci := 7) rfl (by decide) fl_X7_10 dX7_hire_21 (by repeat (first | exact hs_eq _ _ _ | refine hs_ne (by omega) ?_ | assumption)) rfl ?_
  refine k_get C (k := 1) inX3 (ci := 3) rfl (by decide) fl_X7_105 dX7_hire_24 (by repeat (first | exact hs_eq _ _ _ | refine hs_ne (by omega) ?_ | assumption)) rfl ?_
  refine k_get C (k := 0) inX6 (ci := 6) rfl (by decide) fl_X7_109 dX7_hire_27 (by repeat (first | exact hs_eq _ _ _ | refine hs_ne (by omega) ?_ | assumption)) rfl ?_
  refine k_bipush C dX7_hire_30 (by decide +kernel) ?_
  refine k_icmp_lt (tgt := 45) C dX7_hire_32 (by decide) ⟨by omega, by omega⟩ ⟨by omega, by omega⟩ (fun c32 => ?_) (fun c32 => ?_)
  · try (exfalso; omega)
    all_goals (
      exfalso
      omega)
  · try (exfalso; omega)
    all_goals (
      exact k_throw C hE hl (text := "there are 6 winders") rfl (by decide +kernel) (by decide +kernel) cl_X7_112 ini_IllegalStateException at_IS ab_IS ht (by decide) (by decide) (by decide) (by decide) dX7_hire_35 dX7_hire_38 dX7_hire_39 dX7_hire_41 dX7_hire_44 rfl)

set_option maxRecDepth 20000 in
set_option maxHeartbeats 1000000 in
theorem tx_dismiss (l : Launch) (D : va_G) (tc : Nat → ClassId) (base : Nat) (hl : l.stackTraces = false) (rc : Nat) (zrr hhi htx : Int → Int) (st ln : Int) (hpp : AH) (hX : XA hpp rc zrr hhi htx st ln) (ww : Int) (hr1 : r32 ww) (hw : ¬ (0 ≤ ww ∧ ww < zrr 21)) : TX l D tc base yX7_dismiss cX7_dismiss 2 (some .int) 7 [aR rc, aI ww] hpp eIO (fun h' => hpp = h') := by
  refine TX.of [some (aR rc), some (aI ww)] (by decide +kernel) rfl (Nat.le_of_ble_eq_true rfl) ?_
  intro p e s m args below meth c C hE ht
  obtain ⟨zth, gr, x0, hS, hT, hH, hTx, x5, hok, h13, hst⟩ := id hX
  obtain ⟨ol, ff, hol, hj0, -⟩ := id hH
  obtain ⟨fsn, hsn0⟩ := hS.obj
  have hi := hok.1
  obtain ⟨⟨v0, v1, v2, v9, v10, v11, v12, v13, v21, v52, v61, v62, v63, v64, v65, v66⟩, hwi, hde⟩ := id hi
  refine k_aload_n C dX7_dismiss_0 rfl ?_
  refine k_iload_n C dX7_dismiss_1 rfl ?_
  refine k_xcallV C hE (n := 1) (as := [_]) (tx_X7_requireWinder l D tc base hl rc zrr hhi htx st ln _ hX _ hr1 hw) ml_X7_126 im_X7_requireWinder se_X7_requireWinder ini_X7 co_X7_requireWinder ⟨rfl, by decide, by decide, by decide +kernel⟩ rfl (ci := 7) rfl (by repeat (first | exact hs_eq _ _ _ | refine hs_ne (by omega) ?_ | assumption)) ⟨by decide, by decide⟩ rfl (Nat.le_of_ble_eq_true rfl) ⟨by decide, by decide⟩ dX7_dismiss_2 ?_
  rintro _ rfl
  exact Xk.out C ht rfl

set_option maxRecDepth 20000 in
set_option maxHeartbeats 1000000 in
theorem tx_pass1 (l : Launch) (D : va_G) (tc : Nat → ClassId) (base : Nat) (hl : l.stackTraces = false) (rc : Nat) (ww : Int) (hpp : AH) (hr1 : r32 ww) (hw : ¬ (1 ≤ ww ∧ ww ≤ 720)) : TX l D tc base yX7_pass cX7_pass 3 (some .int) 7 [aR rc, aI ww] hpp eIA (fun h' => hpp = h') := by
  refine TX.of [some (aR rc), some (aI ww), none] (by decide +kernel) rfl (Nat.le_of_ble_eq_true rfl) ?_
  intro p e s m args below meth c C hE ht
  refine k_iload_n C dX7_pass_0 rfl ?_
  refine k_iconst C dX7_pass_1 ?_
  refine k_sipush C dX7_pass_2 (by decide +kernel) ?_
  refine k_xcallS C hE (n := 3) (as := [_, _, _]) (tx_X7_requireRange l D tc base hl _ _ _ _ hr1 hw ⟨by omega, by omega⟩ ⟨by omega, by omega⟩) ml_X7_41 sm_X7_requireRange ini_X7 co_X7_requireRange ⟨by decide, by decide, by decide +kernel⟩ rfl ⟨by decide, by decide⟩ rfl (Nat.le_of_ble_eq_true rfl) ⟨by decide, by decide⟩ dX7_pass_5 ?_
  rintro _ rfl
  exact Xk.out C ht rfl

set_option maxRecDepth 20000 in
set_option maxHeartbeats 1000000 in
theorem tx_pass2 (l : Launch) (D : va_G) (tc : Nat → ClassId) (base : Nat) (hl : l.stackTraces = false) (rc : Nat) (zrr hhi htx : Int → Int) (st ln : Int) (hpp : AH) (hX : XA hpp rc zrr hhi htx st ln) (ww : Int) (hw : 1 ≤ ww ∧ ww ≤ 720) (hm : ¬ zrr 13 + ww ≤ 20000) : TX l D tc base yX7_pass cX7_pass 3 (some .int) 7 [aR rc, aI ww] hpp eIS (fun h' => hpp = h') := by
  refine TX.of [some (aR rc), some (aI ww), none] (by decide +kernel) rfl (Nat.le_of_ble_eq_true rfl) ?_
  intro p e s m args below meth c C hE ht
  obtain ⟨zth, gr, x0, hS, hT, hH, hTx, x5, hok, h13, hst⟩ := id hX
  obtain ⟨ol, ff, hol, hj0, -⟩ := id hH
  obtain ⟨fsn, hsn0⟩ := hS.obj
  have hi := hok.1
  obtain ⟨⟨v0, v1, v2, v9, v10, v11, v12, v13, v21, v52, v61, v62, v63, v64, v65, v66⟩, hwi, hde⟩ := id hi
  obtain ⟨f1, f2, f3, w1, w2, w3, w4, w5, d1, d2, se, ⟨g0, g1, g2, g3, g4, g5, g6, g7, g8, g9, g10, g11, g12, g13, g14⟩, hsr⟩ := id hS
  obtain ⟨r1, r2, r3, r4⟩ := id hsr
  refine k_iload_n C dX7_pass_0 rfl ?_
  refine k_iconst C dX7_pass_1 ?_
  refine k_sipush C dX7_pass_2 (by decide +kernel) ?_
  refine k_callS C (n := 3) (as := [_, _, _]) (ct_X7_requireRange l D tc base _ _ _ _ ⟨by omega, by omega⟩ ⟨by omega, by omega⟩ ⟨by omega, by omega⟩) ml_X7_41 sm_X7_requireRange ini_X7 co_X7_requireRange ⟨by decide, by decide, by decide +kernel⟩ rfl ⟨by decide, by decide⟩ rfl (Nat.le_of_ble_eq_true rfl) ⟨Nat.zero_le _, Nat.zero_le _⟩ dX7_pass_5 ?_
  rintro _ _ ⟨rfl, rfl⟩
  refine k_aload_n C dX7_pass_8 rfl ?_
  refine k_get C (k := 0) inX7 (ci := 7) rfl (by decide) fl_X7_10 dX7_pass_9 (by repeat (first | exact hs_eq _ _ _ | refine hs_ne (by omega) ?_ | assumption)) rfl ?_
  refine k_get C (k := 4) inX3 (ci := 3) rfl (by decide) fl_X7_119 dX7_pass_12 (by repeat (first | exact hs_eq _ _ _ | refine hs_ne (by omega) ?_ | assumption)) rfl ?_
  refine k_iload_n C dX7_pass_15 rfl ?_
  refine k_iadd C dX7_pass_16 ?_
  refine k_sipush C dX7_pass_17 (by decide +kernel) ?_
  refine k_icmp_le (tgt := 33) C dX7_pass_20 (by decide) ⟨by omega, by omega⟩ ⟨by omega, by omega⟩ (fun c20 => ?_) (fun c20 => ?_)
  · try (exfalso; omega)
    all_goals (
      exfalso
      omega)
  · try (exfalso; omega)
    all_goals (
      exact k_throw C hE hl (text := "the minutes end at 20000") rfl (by decide +kernel) (by decide +kernel) cl_X7_112 ini_IllegalStateException at_IS ab_IS ht (by decide) (by decide) (by decide) (by decide) dX7_pass_23 dX7_pass_26 dX7_pass_27 dX7_pass_29 dX7_pass_32 rfl)

set_option maxRecDepth 20000 in
set_option maxHeartbeats 1000000 in
theorem tx_append1 (l : Launch) (D : va_G) (tc : Nat → ClassId) (base : Nat) (hl : l.stackTraces = false) (rc : Nat) (ww : Int) (hpp : AH) (hr1 : r32 ww) (hw : ¬ (33 ≤ ww ∧ ww ≤ 126)) : TX l D tc base yX7_append cX7_append 2 (some .int) 7 [aR rc, aI ww] hpp eIA (fun h' => hpp = h') := by
  refine TX.of [some (aR rc), some (aI ww)] (by decide +kernel) rfl (Nat.le_of_ble_eq_true rfl) ?_
  intro p e s m args below meth c C hE ht
  refine k_iload_n C dX7_append_0 rfl ?_
  refine k_bipush C dX7_append_1 (by decide +kernel) ?_
  refine k_bipush C dX7_append_3 (by decide +kernel) ?_
  refine k_xcallS C hE (n := 3) (as := [_, _, _]) (tx_X7_requireRange l D tc base hl _ _ _ _ hr1 hw ⟨by omega, by omega⟩ ⟨by omega, by omega⟩) ml_X7_41 sm_X7_requireRange ini_X7 co_X7_requireRange ⟨by decide, by decide, by decide +kernel⟩ rfl ⟨by decide, by decide⟩ rfl (Nat.le_of_ble_eq_true rfl) ⟨by decide, by decide⟩ dX7_append_5 ?_
  rintro _ rfl
  exact Xk.out C ht rfl

set_option maxRecDepth 20000 in
set_option maxHeartbeats 1000000 in
theorem tx_append2 (l : Launch) (D : va_G) (tc : Nat → ClassId) (base : Nat) (hl : l.stackTraces = false) (rc : Nat) (zrr hhi htx : Int → Int) (st ln : Int) (hpp : AH) (hX : XA hpp rc zrr hhi htx st ln) (ww : Int) (hw : 33 ≤ ww ∧ ww ≤ 126) (hm : ln = 60) : TX l D tc base yX7_append cX7_append 2 (some .int) 7 [aR rc, aI ww] hpp eIS (fun h' => hpp = h') := by
  refine TX.of [some (aR rc), some (aI ww)] (by decide +kernel) rfl (Nat.le_of_ble_eq_true rfl) ?_
  intro p e s m args below meth c C hE ht
  obtain ⟨zth, gr, x0, hS, hT, hH, hTx, x5, hok, h13, hst⟩ := id hX
  obtain ⟨ol, ff, hol, hj0, -⟩ := id hH
  obtain ⟨fsn, hsn0⟩ := hS.obj
  have hi := hok.1
  obtain ⟨⟨v0, v1, v2, v9, v10, v11, v12, v13, v21, v52, v61, v62, v63, v64, v65, v66⟩, hwi, hde⟩ := id hi
  obtain ⟨sg, t0, t1, hln, hsg, qa, qb, qc, qd, t2⟩ := id hTx
  refine k_iload_n C dX7_append_0 rfl ?_
  refine k_bipush C dX7_append_1 (by decide +kernel) ?_
  refine k_bipush C dX7_append_3 (by decide +kernel) ?_
  refine k_callS C (n := 3) (as := [_, _, _]) (ct_X7_requireRange l D tc base _ _ _ _ ⟨by omega, by omega⟩ ⟨by omega, by omega⟩ ⟨by omega, by omega⟩) ml_X7_41 sm_X7_requireRange ini_X7 co_X7_requireRange ⟨by decide, by decide, by decide +kernel⟩ rfl ⟨by decide, by decide⟩ rfl (Nat.le_of_ble_eq_true rfl) ⟨Nat.zero_le _, Nat.zero_le _⟩ dX7_append_5 ?_
  rintro _ _ ⟨rfl, rfl⟩
  refine k_aload_n C dX7_append_8 rfl ?_
  refine k_get C (k := 3) inX7 (ci := 7) rfl (by decide) fl_X7_29 dX7_append_9 (by repeat (first | exact hs_eq _ _ _ | refine hs_ne (by omega) ?_ | assumption)) rfl ?_
  refine k_get C (k := 0) inX4 (ci := 4) rfl (by decide) fl_X7_140 dX7_append_12 (by repeat (first | exact hs_eq _ _ _ | refine hs_ne (by omega) ?_ | assumption)) rfl ?_
  refine k_bipush C dX7_append_15 (by decide +kernel) ?_
  refine k_icmp_lt (tgt := 30) C dX7_append_17 (by decide) ⟨by omega, by omega⟩ ⟨by omega, by omega⟩ (fun c17 => ?_) (fun c17 => ?_)
  · try (exfalso; omega)
    all_goals (
      exfalso
      omega)
  · try (exfalso; omega)
    all_goals (
      exact k_throw C hE hl (text := "the buffer has 60 characters") rfl (by decide +kernel) (by decide +kernel) cl_X7_112 ini_IllegalStateException at_IS ab_IS ht (by decide) (by decide) (by decide) (by decide) dX7_append_20 dX7_append_23 dX7_append_24 dX7_append_26 dX7_append_29 rfl)

set_option maxRecDepth 20000 in
set_option maxHeartbeats 1000000 in
theorem tx_load1 (l : Launch) (D : va_G) (tc : Nat → ClassId) (base : Nat) (hl : l.stackTraces = false) (rc : Nat) (zrr hhi htx : Int → Int) (st ln : Int) (hpp : AH) (hX : XA hpp rc zrr hhi htx st ln) (hro : Int → Int) (hnw : ¬ pWhole htx hro ln.toNat) : TX l D tc base yX7_load cX7_load 1 (some .int) 7 [aR rc] hpp eIA (fun h' => XA h' rc zrr hhi htx st ln ∧ Fr hpp h' rc 127) := by
  refine TX.of [some (aR rc)] (by decide +kernel) rfl (Nat.le_of_ble_eq_true rfl) ?_
  intro p e s m args below meth c C hE ht
  obtain ⟨zth, gr, x0, hS, hT, hH, hTx, x5, hok, h13, hst⟩ := id hX
  obtain ⟨ol, ff, hol, hj0, -⟩ := id hH
  obtain ⟨fsn, hsn0⟩ := hS.obj
  have hi := hok.1
  obtain ⟨⟨v0, v1, v2, v9, v10, v11, v12, v13, v21, v52, v61, v62, v63, v64, v65, v66⟩, hwi, hde⟩ := id hi
  obtain ⟨sg, t0, t1, hln, hsg, qa, qb, qc, qd, t2⟩ := id hTx
  refine k_aload_n C dX7_load_0 rfl ?_
  refine k_get C (k := 3) inX7 (ci := 7) rfl (by decide) fl_X7_29 dX7_load_1 (by repeat (first | exact hs_eq _ _ _ | refine hs_ne (by omega) ?_ | assumption)) rfl ?_
  refine k_callV C (n := 0) (as := []) (ct_X4_isListOfRounds l D tc base (rc + 123) ln htx _ hTx hro) ml_X7_151 im_X4_isListOfRounds se_X4_isListOfRounds ini_X4 co_X4_isListOfRounds ⟨rfl, by decide, by decide, by decide +kernel⟩ rfl (ci := 4) rfl (by repeat (first | exact hs_eq _ _ _ | refine hs_ne (by omega) ?_ | assumption)) ⟨by decide, by decide⟩ rfl (Nat.le_of_ble_eq_true rfl) ⟨Nat.zero_le _, Nat.zero_le _⟩ dX7_load_4 ?_
  rintro _ hil ⟨hil0, hTi, hFi⟩
  have hXi := hX.text hFi hTi
  have hFw := hFi.wide (p := rc) (m := 127) (by omega) (by omega)
  obtain ⟨zth1, gr1, x01, hS0, hT0, hH0, hTx0, x51, -, -, -⟩ := id hXi
  obtain ⟨sg0, t00, -⟩ := id hTi
  obtain ⟨rfl, -⟩ := hil0.resolve_left (fun q => hnw q.2)
  refine k_if_ne (tgt := 20) C dX7_load_7 (by decide) ⟨by omega, by omega⟩ (fun c7 => ?_) (fun c7 => ?_)
  · try (exfalso; omega)
    all_goals (
      exfalso
      omega)
  · try (exfalso; omega)
    all_goals (
      exact k_throw C hE hl (text := "the buffer is not a complete list of rounds") rfl (by decide +kernel) (by decide +kernel) cl_X7_155 ini_IllegalArgumentException at_IA ab_IA ht (by decide) (by decide) (by decide) (by decide) dX7_load_10 dX7_load_13 dX7_load_14 dX7_load_16 dX7_load_19 ⟨hXi, hFw⟩)

set_option maxRecDepth 20000 in
set_option maxHeartbeats 1000000 in
theorem tx_load2 (l : Launch) (D : va_G) (tc : Nat → ClassId) (base : Nat) (hl : l.stackTraces = false) (rc : Nat) (zrr hhi htx : Int → Int) (st ln : Int) (hpp : AH) (hX : XA hpp rc zrr hhi htx st ln) (hro : Int → Int) (hwh : pWhole htx hro ln.toNat) (hse : ¬ (pS htx hro ln.toNat).1 + 1 ≤ 6) : TX l D tc base yX7_load cX7_load 1 (some .int) 7 [aR rc] hpp eIS (fun h' => XA h' rc zrr hhi htx st ln ∧ Fr hpp h' rc 127) := by
  refine TX.of [some (aR rc)] (by decide +kernel) rfl (Nat.le_of_ble_eq_true rfl) ?_
  intro p e s m args below meth c C hE ht
  obtain ⟨zth, gr, x0, hS, hT, hH, hTx, x5, hok, h13, hst⟩ := id hX
  obtain ⟨ol, ff, hol, hj0, -⟩ := id hH
  obtain ⟨fsn, hsn0⟩ := hS.obj
  have hi := hok.1
  obtain ⟨⟨v0, v1, v2, v9, v10, v11, v12, v13, v21, v52, v61, v62, v63, v64, v65, v66⟩, hwi, hde⟩ := id hi
  obtain ⟨sg, t0, t1, hln, hsg, qa, qb, qc, qd, t2⟩ := id hTx
  have hcn := cN_read hwh.1
  have hpi := pInv_run hwh.1
  have hp0 := hpi.1
  refine k_aload_n C dX7_load_0 rfl ?_
  refine k_get C (k := 3) inX7 (ci := 7) rfl (by decide) fl_X7_29 dX7_load_1 (by repeat (first | exact hs_eq _ _ _ | refine hs_ne (by omega) ?_ | assumption)) rfl ?_
  refine k_callV C (n := 0) (as := []) (ct_X4_isListOfRounds l D tc base (rc + 123) ln htx _ hTx hro) ml_X7_151 im_X4_isListOfRounds se_X4_isListOfRounds ini_X4 co_X4_isListOfRounds ⟨rfl, by decide, by decide, by decide +kernel⟩ rfl (ci := 4) rfl (by repeat (first | exact hs_eq _ _ _ | refine hs_ne (by omega) ?_ | assumption)) ⟨by decide, by decide⟩ rfl (Nat.le_of_ble_eq_true rfl) ⟨Nat.zero_le _, Nat.zero_le _⟩ dX7_load_4 ?_
  rintro _ hil ⟨hil0, hTi, hFi⟩
  have hXi := hX.text hFi hTi
  have hFw := hFi.wide (p := rc) (m := 127) (by omega) (by omega)
  obtain ⟨zth1, gr1, x01, hS0, hT0, hH0, hTx0, x51, -, -, -⟩ := id hXi
  obtain ⟨sg0, t00, -⟩ := id hTi
  obtain ⟨rfl, -⟩ := hil0.resolve_right (fun q => q.2 hwh)
  refine k_if_ne (tgt := 20) C dX7_load_7 (by decide) ⟨by omega, by omega⟩ (fun c7 => ?_) (fun c7 => ?_)
  · try (exfalso; omega)
    all_goals (
      refine k_aload_n C dX7_load_20 rfl ?_
      refine k_get C (k := 3) inX7 (ci := 7) rfl (by decide) fl_X7_29 dX7_load_21 (by repeat (first | exact hs_eq _ _ _ | refine hs_ne (by omega) ?_ | assumption)) rfl ?_
      refine k_callV C (n := 0) (as := []) (ct_X4_separators l D tc base (rc + 123) ln htx _ hTi) ml_X7_160 im_X4_separators se_X4_separators ini_X4 co_X4_separators ⟨rfl, by decide, by decide, by decide +kernel⟩ rfl (ci := 4) rfl (by repeat (first | exact hs_eq _ _ _ | refine hs_ne (by omega) ?_ | assumption)) ⟨by decide, by decide⟩ rfl (Nat.le_of_ble_eq_true rfl) ⟨Nat.zero_le _, Nat.zero_le _⟩ dX7_load_24 ?_
      rintro _ _ ⟨rfl, rfl⟩
      rw [hcn]
      refine k_bipush C dX7_load_27 (by decide +kernel) ?_
      refine k_icmp_lt (tgt := 42) C dX7_load_29 (by decide) ⟨by omega, by omega⟩ ⟨by omega, by omega⟩ (fun c29 => ?_) (fun c29 => ?_)
      · try (exfalso; omega)
        all_goals (
          exfalso
          omega)
      · try (exfalso; omega)
        all_goals (
          exact k_throw C hE hl (text := "there are more than 6 rounds") rfl (by decide +kernel) (by decide +kernel) cl_X7_112 ini_IllegalStateException at_IS ab_IS ht (by decide) (by decide) (by decide) (by decide) dX7_load_32 dX7_load_35 dX7_load_36 dX7_load_38 dX7_load_41 ⟨hXi, hFw⟩))
  · try (exfalso; omega)
    all_goals (
      exfalso
      omega)

set_option maxRecDepth 20000 in
set_option maxHeartbeats 1000000 in
theorem tx_undo (l : Launch) (D : va_G) (tc : Nat → ClassId) (base : Nat) (hl : l.stackTraces = false) (rc : Nat) (zrr hhi htx : Int → Int) (st ln : Int) (hpp : AH) (hX : XA hpp rc zrr hhi htx st ln) (hs0 : st = 0) : TX l D tc base yX7_undo cX7_undo 1 (some .int) 7 [aR rc] hpp eIS (fun h' => hpp = h') := by
  refine TX.of [some (aR rc)] (by decide +kernel) rfl (Nat.le_of_ble_eq_true rfl) ?_
  intro p e s m args below meth c C hE ht
  obtain ⟨zth, gr, x0, hS, hT, hH, hTx, x5, hok, h13, hst⟩ := id hX
  obtain ⟨ol, ff, hol, hj0, -⟩ := id hH
  obtain ⟨fsn, hsn0⟩ := hS.obj
  have hi := hok.1
  obtain ⟨⟨v0, v1, v2, v9, v10, v11, v12, v13, v21, v52, v61, v62, v63, v64, v65, v66⟩, hwi, hde⟩ := id hi
  refine k_aload_n C dX7_undo_0 rfl ?_
  refine k_get C (k := 2) inX7 (ci := 7) rfl (by decide) fl_X7_22 dX7_undo_1 (by repeat (first | exact hs_eq _ _ _ | refine hs_ne (by omega) ?_ | assumption)) rfl ?_
  refine k_get C (k := 0) inX1 (ci := 1) rfl (by decide) fl_X7_169 dX7_undo_4 (by repeat (first | exact hs_eq _ _ _ | refine hs_ne (by omega) ?_ | assumption)) rfl ?_
  refine k_if_ne (tgt := 20) C dX7_undo_7 (by decide) ⟨by omega, by omega⟩ (fun c7 => ?_) (fun c7 => ?_)
  · try (exfalso; omega)
    all_goals (
      exfalso
      omega)
  · try (exfalso; omega)
    all_goals (
      exact k_throw C hE hl (text := "there is no saved state") rfl (by decide +kernel) (by decide +kernel) cl_X7_112 ini_IllegalStateException at_IS ab_IS ht (by decide) (by decide) (by decide) (by decide) dX7_undo_10 dX7_undo_13 dX7_undo_14 dX7_undo_16 dX7_undo_19 rfl)

set_option maxRecDepth 20000 in
set_option maxHeartbeats 1000000 in
theorem tx_weight1 (l : Launch) (D : va_G) (tc : Nat → ClassId) (base : Nat) (hl : l.stackTraces = false) (rc : Nat) (ww qq : Int) (hpp : AH) (hr1 : r32 ww) (hw : ¬ (0 ≤ ww ∧ ww ≤ 2)) : TX l D tc base yX7_weight cX7_weight 3 (some .int) 7 [aR rc, aI ww, aI qq] hpp eIO (fun h' => hpp = h') := by
  refine TX.of [some (aR rc), some (aI ww), some (aI qq)] (by decide +kernel) rfl (Nat.le_of_ble_eq_true rfl) ?_
  intro p e s m args below meth c C hE ht
  refine k_iload_n C dX7_weight_0 rfl ?_
  refine k_xcallS C hE (n := 1) (as := [_]) (tx_X7_requireWeight l D tc base hl _ _ hr1 hw) ml_X7_37 sm_X7_requireWeight ini_X7 co_X7_requireWeight ⟨by decide, by decide, by decide +kernel⟩ rfl ⟨by decide, by decide⟩ rfl (Nat.le_of_ble_eq_true rfl) ⟨by decide, by decide⟩ dX7_weight_1 ?_
  rintro _ rfl
  exact Xk.out C ht rfl

set_option maxRecDepth 20000 in
set_option maxHeartbeats 1000000 in
theorem tx_weight2 (l : Launch) (D : va_G) (tc : Nat → ClassId) (base : Nat) (hl : l.stackTraces = false) (rc : Nat) (ww qq : Int) (hpp : AH) (hr2 : r32 qq) (hw : 0 ≤ ww ∧ ww ≤ 2) (hq : ¬ (0 ≤ qq ∧ qq ≤ 2)) : TX l D tc base yX7_weight cX7_weight 3 (some .int) 7 [aR rc, aI ww, aI qq] hpp eIA (fun h' => hpp = h') := by
  refine TX.of [some (aR rc), some (aI ww), some (aI qq)] (by decide +kernel) rfl (Nat.le_of_ble_eq_true rfl) ?_
  intro p e s m args below meth c C hE ht
  refine k_iload_n C dX7_weight_0 rfl ?_
  refine k_callS C (n := 1) (as := [_]) (ct_X7_requireWeight l D tc base _ _ ⟨by omega, by omega⟩) ml_X7_37 sm_X7_requireWeight ini_X7 co_X7_requireWeight ⟨by decide, by decide, by decide +kernel⟩ rfl ⟨by decide, by decide⟩ rfl (Nat.le_of_ble_eq_true rfl) ⟨Nat.zero_le _, Nat.zero_le _⟩ dX7_weight_1 ?_
  rintro _ _ ⟨rfl, rfl⟩
  refine k_iload_n C dX7_weight_4 rfl ?_
  refine k_tsw (dt := 71) C [32, 45, 58] dX7_weight_5 ⟨by omega, by omega⟩ (by decide) (by decide) (by decide) (And.intro (fun c5 => ?_) (And.intro (fun c5 => ?_) (And.intro (fun c5 => ?_) trivial))) (fun c5 => ?_)
  · try (exfalso; omega)
    all_goals (
      exfalso
      omega)
  · try (exfalso; omega)
    all_goals (
      exfalso
      omega)
  · try (exfalso; omega)
    all_goals (
      exfalso
      omega)
  · try (exfalso; omega)
    all_goals (
      exact k_throw C hE hl (text := "no such property") rfl (by decide +kernel) (by decide +kernel) cl_X7_155 ini_IllegalArgumentException at_IA ab_IA ht (by decide) (by decide) (by decide) (by decide) dX7_weight_71 dX7_weight_74 dX7_weight_75 dX7_weight_77 dX7_weight_80 rfl)

set_option maxRecDepth 20000 in
set_option maxHeartbeats 1000000 in
theorem tx_winder1 (l : Launch) (D : va_G) (tc : Nat → ClassId) (base : Nat) (hl : l.stackTraces = false) (rc : Nat) (zrr hhi htx : Int → Int) (st ln : Int) (hpp : AH) (hX : XA hpp rc zrr hhi htx st ln) (ww qq : Int) (hr1 : r32 ww) (hw : ¬ (0 ≤ ww ∧ ww < zrr 21)) : TX l D tc base yX7_winder cX7_winder 4 (some .int) 7 [aR rc, aI ww, aI qq] hpp eIO (fun h' => hpp = h') := by
  refine TX.of [some (aR rc), some (aI ww), some (aI qq), none] (by decide +kernel) rfl (Nat.le_of_ble_eq_true rfl) ?_
  intro p e s m args below meth c C hE ht
  obtain ⟨zth, gr, x0, hS, hT, hH, hTx, x5, hok, h13, hst⟩ := id hX
  obtain ⟨ol, ff, hol, hj0, -⟩ := id hH
  obtain ⟨fsn, hsn0⟩ := hS.obj
  have hi := hok.1
  obtain ⟨⟨v0, v1, v2, v9, v10, v11, v12, v13, v21, v52, v61, v62, v63, v64, v65, v66⟩, hwi, hde⟩ := id hi
  refine k_aload_n C dX7_winder_0 rfl ?_
  refine k_iload_n C dX7_winder_1 rfl ?_
  refine k_xcallV C hE (n := 1) (as := [_]) (tx_X7_requireWinder l D tc base hl rc zrr hhi htx st ln _ hX _ hr1 hw) ml_X7_126 im_X7_requireWinder se_X7_requireWinder ini_X7 co_X7_requireWinder ⟨rfl, by decide, by decide, by decide +kernel⟩ rfl (ci := 7) rfl (by repeat (first | exact hs_eq _ _ _ | refine hs_ne (by omega) ?_ | assumption)) ⟨by decide, by decide⟩ rfl (Nat.le_of_ble_eq_true rfl) ⟨by decide, by decide⟩ dX7_winder_2 ?_
  rintro _ rfl
  exact Xk.out C ht rfl

set_option maxRecDepth 20000 in
set_option maxHeartbeats 1000000 in
theorem tx_winder2 (l : Launch) (D : va_G) (tc : Nat → ClassId) (base : Nat) (hl : l.stackTraces = false) (rc : Nat) (zrr hhi htx : Int → Int) (st ln : Int) (hpp : AH) (hX : XA hpp rc zrr hhi htx st ln) (ww qq : Int) (hr2 : r32 qq) (hw : 0 ≤ ww ∧ ww < zrr 21) (hq : ¬ (0 ≤ qq ∧ qq ≤ 5)) : TX l D tc base yX7_winder cX7_winder 4 (some .int) 7 [aR rc, aI ww, aI qq] hpp eIA (fun h' => hpp = h') := by
  refine TX.of [some (aR rc), some (aI ww), some (aI qq), none] (by decide +kernel) rfl (Nat.le_of_ble_eq_true rfl) ?_
  intro p e s m args below meth c C hE ht
  obtain ⟨zth, gr, x0, hS, hT, hH, hTx, x5, hok, h13, hst⟩ := id hX
  obtain ⟨ol, ff, hol, hj0, -⟩ := id hH
  obtain ⟨fsn, hsn0⟩ := hS.obj
  have hi := hok.1
  obtain ⟨⟨v0, v1, v2, v9, v10, v11, v12, v13, v21, v52, v61, v62, v63, v64, v65, v66⟩, hwi, hde⟩ := id hi
  obtain ⟨f1, f2, f3, w1, w2, w3, w4, w5, d1, d2, se, ⟨g0, g1, g2, g3, g4, g5, g6, g7, g8, g9, g10, g11, g12, g13, g14⟩, hsr⟩ := id hS
  obtain ⟨r1, r2, r3, r4⟩ := id hsr
  refine k_aload_n C dX7_winder_0 rfl ?_
  refine k_iload_n C dX7_winder_1 rfl ?_
  refine k_callV C (n := 1) (as := [_]) (ct_X7_requireWinder l D tc base rc zrr hhi htx st ln _ hX _ hw) ml_X7_126 im_X7_requireWinder se_X7_requireWinder ini_X7 co_X7_requireWinder ⟨rfl, by decide, by decide, by decide +kernel⟩ rfl (ci := 7) rfl (by repeat (first | exact hs_eq _ _ _ | refine hs_ne (by omega) ?_ | assumption)) ⟨by decide, by decide⟩ rfl (Nat.le_of_ble_eq_true rfl) ⟨Nat.zero_le _, Nat.zero_le _⟩ dX7_winder_2 ?_
  rintro _ _ ⟨rfl, rfl⟩
  refine k_aload_n C dX7_winder_5 rfl ?_
  refine k_get C (k := 0) inX7 (ci := 7) rfl (by decide) fl_X7_10 dX7_winder_6 (by repeat (first | exact hs_eq _ _ _ | refine hs_ne (by omega) ?_ | assumption)) rfl ?_
  refine k_get C (k := 1) inX3 (ci := 3) rfl (by decide) fl_X7_105 dX7_winder_9 (by repeat (first | exact hs_eq _ _ _ | refine hs_ne (by omega) ?_ | assumption)) rfl ?_
  refine k_astore_n C dX7_winder_12 (by decide) rfl ?_
  refine k_iload_n C dX7_winder_13 rfl ?_
  refine k_tsw (dt := 116) C [52, 59, 66, 73, 92, 99] dX7_winder_14 ⟨by omega, by omega⟩ (by decide) (by decide) (by decide) (And.intro (fun c14 => ?_) (And.intro (fun c14 => ?_) (And.intro (fun c14 => ?_) (And.intro (fun c14 => ?_) (And.intro (fun c14 => ?_) (And.intro (fun c14 => ?_) trivial)))))) (fun c14 => ?_)
  · try (exfalso; omega)
    all_goals (
      exfalso
      omega)
  · try (exfalso; omega)
    all_goals (
      exfalso
      omega)
  · try (exfalso; omega)
    all_goals (
      exfalso
      omega)
  · try (exfalso; omega)
    all_goals (
      exfalso
      omega)
  · try (exfalso; omega)
    all_goals (
      exfalso
      omega)
  · try (exfalso; omega)
    all_goals (
      exfalso
      omega)
  · try (exfalso; omega)
    all_goals (
      exact k_throw C hE hl (text := "no such property") rfl (by decide +kernel) (by decide +kernel) cl_X7_155 ini_IllegalArgumentException at_IA ab_IA ht (by decide) (by decide) (by decide) (by decide) dX7_winder_116 dX7_winder_119 dX7_winder_120 dX7_winder_122 dX7_winder_125 rfl)

set_option maxRecDepth 20000 in
set_option maxHeartbeats 1000000 in
theorem tx_debt1 (l : Launch) (D : va_G) (tc : Nat → ClassId) (base : Nat) (hl : l.stackTraces = false) (rc : Nat) (zrr hhi htx : Int → Int) (st ln : Int) (hpp : AH) (hX : XA hpp rc zrr hhi htx st ln) (ww qq : Int) (hr1 : r32 ww) (hw : ¬ (0 ≤ ww ∧ ww < zrr 52)) : TX l D tc base yX7_debt cX7_debt 3 (some .int) 7 [aR rc, aI ww, aI qq] hpp eIO (fun h' => hpp = h') := by
  refine TX.of [some (aR rc), some (aI ww), some (aI qq)] (by decide +kernel) rfl (Nat.le_of_ble_eq_true rfl) ?_
  intro p e s m args below meth c C hE ht
  obtain ⟨zth, gr, x0, hS, hT, hH, hTx, x5, hok, h13, hst⟩ := id hX
  obtain ⟨ol, ff, hol, hj0, -⟩ := id hH
  obtain ⟨fsn, hsn0⟩ := hS.obj
  have hi := hok.1
  obtain ⟨⟨v0, v1, v2, v9, v10, v11, v12, v13, v21, v52, v61, v62, v63, v64, v65, v66⟩, hwi, hde⟩ := id hi
  obtain ⟨f1, f2, f3, w1, w2, w3, w4, w5, d1, d2, se, ⟨g0, g1, g2, g3, g4, g5, g6, g7, g8, g9, g10, g11, g12, g13, g14⟩, hsr⟩ := id hS
  obtain ⟨r1, r2, r3, r4⟩ := id hsr
  refine k_iload_n C dX7_debt_0 rfl ?_
  refine k_if_lt (tgt := 18) C dX7_debt_1 (by decide) ⟨by omega, by omega⟩ (fun c1 => ?_) (fun c1 => ?_)
  · try (exfalso; omega)
    all_goals (
      exact k_throw C hE hl (text := "no such debt") rfl (by decide +kernel) (by decide +kernel) cl_X7_208 ini_IndexOutOfBoundsException at_IO ab_IO ht (by decide) (by decide) (by decide) (by decide) dX7_debt_18 dX7_debt_21 dX7_debt_22 dX7_debt_24 dX7_debt_27 rfl)
  · try (exfalso; omega)
    all_goals (
      refine k_iload_n C dX7_debt_4 rfl ?_
      refine k_aload_n C dX7_debt_5 rfl ?_
      refine k_get C (k := 0) inX7 (ci := 7) rfl (by decide) fl_X7_10 dX7_debt_6 (by repeat (first | exact hs_eq _ _ _ | refine hs_ne (by omega) ?_ | assumption)) rfl ?_
      refine k_get C (k := 2) inX3 (ci := 3) rfl (by decide) fl_X7_89 dX7_debt_9 (by repeat (first | exact hs_eq _ _ _ | refine hs_ne (by omega) ?_ | assumption)) rfl ?_
      refine k_get C (k := 0) inX0 (ci := 0) rfl (by decide) fl_X7_99 dX7_debt_12 (by repeat (first | exact hs_eq _ _ _ | refine hs_ne (by omega) ?_ | assumption)) rfl ?_
      refine k_icmp_lt (tgt := 28) C dX7_debt_15 (by decide) ⟨by omega, by omega⟩ ⟨by omega, by omega⟩ (fun c15 => ?_) (fun c15 => ?_)
      · try (exfalso; omega)
        all_goals (
          exfalso
          omega)
      · try (exfalso; omega)
        all_goals (
          exact k_throw C hE hl (text := "no such debt") rfl (by decide +kernel) (by decide +kernel) cl_X7_208 ini_IndexOutOfBoundsException at_IO ab_IO ht (by decide) (by decide) (by decide) (by decide) dX7_debt_18 dX7_debt_21 dX7_debt_22 dX7_debt_24 dX7_debt_27 rfl))

set_option maxRecDepth 20000 in
set_option maxHeartbeats 1000000 in
theorem tx_debt2 (l : Launch) (D : va_G) (tc : Nat → ClassId) (base : Nat) (hl : l.stackTraces = false) (rc : Nat) (zrr hhi htx : Int → Int) (st ln : Int) (hpp : AH) (hX : XA hpp rc zrr hhi htx st ln) (ww qq : Int) (hr2 : r32 qq) (hw : 0 ≤ ww ∧ ww < zrr 52) (hq : ¬ (0 ≤ qq ∧ qq ≤ 1)) : TX l D tc base yX7_debt cX7_debt 3 (some .int) 7 [aR rc, aI ww, aI qq] hpp eIA (fun h' => hpp = h') := by
  refine TX.of [some (aR rc), some (aI ww), some (aI qq)] (by decide +kernel) rfl (Nat.le_of_ble_eq_true rfl) ?_
  intro p e s m args below meth c C hE ht
  obtain ⟨zth, gr, x0, hS, hT, hH, hTx, x5, hok, h13, hst⟩ := id hX
  obtain ⟨ol, ff, hol, hj0, -⟩ := id hH
  obtain ⟨fsn, hsn0⟩ := hS.obj
  have hi := hok.1
  obtain ⟨⟨v0, v1, v2, v9, v10, v11, v12, v13, v21, v52, v61, v62, v63, v64, v65, v66⟩, hwi, hde⟩ := id hi
  obtain ⟨f1, f2, f3, w1, w2, w3, w4, w5, d1, d2, se, ⟨g0, g1, g2, g3, g4, g5, g6, g7, g8, g9, g10, g11, g12, g13, g14⟩, hsr⟩ := id hS
  obtain ⟨r1, r2, r3, r4⟩ := id hsr
  refine k_iload_n C dX7_debt_0 rfl ?_
  refine k_if_lt (tgt := 18) C dX7_debt_1 (by decide) ⟨by omega, by omega⟩ (fun c1 => ?_) (fun c1 => ?_)
  · try (exfalso; omega)
    all_goals (
      exfalso
      omega)
  · try (exfalso; omega)
    all_goals (
      refine k_iload_n C dX7_debt_4 rfl ?_
      refine k_aload_n C dX7_debt_5 rfl ?_
      refine k_get C (k := 0) inX7 (ci := 7) rfl (by decide) fl_X7_10 dX7_debt_6 (by repeat (first | exact hs_eq _ _ _ | refine hs_ne (by omega) ?_ | assumption)) rfl ?_
      refine k_get C (k := 2) inX3 (ci := 3) rfl (by decide) fl_X7_89 dX7_debt_9 (by repeat (first | exact hs_eq _ _ _ | refine hs_ne (by omega) ?_ | assumption)) rfl ?_
      refine k_get C (k := 0) inX0 (ci := 0) rfl (by decide) fl_X7_99 dX7_debt_12 (by repeat (first | exact hs_eq _ _ _ | refine hs_ne (by omega) ?_ | assumption)) rfl ?_
      refine k_icmp_lt (tgt := 28) C dX7_debt_15 (by decide) ⟨by omega, by omega⟩ ⟨by omega, by omega⟩ (fun c15 => ?_) (fun c15 => ?_)
      · try (exfalso; omega)
        all_goals (
          refine k_iload_n C dX7_debt_28 rfl ?_
          refine k_lsw (t0 := 56) (t1 := 69) (dt := 82) C dX7_debt_29 ⟨by omega, by omega⟩ (by decide) (by decide) (by decide) (fun c29 => ?_) (fun c29 => ?_) (fun c29 => ?_)
          · try (exfalso; omega)
            all_goals (
              exfalso
              omega)
          · try (exfalso; omega)
            all_goals (
              exfalso
              omega)
          · try (exfalso; omega)
            all_goals (
              exact k_throw C hE hl (text := "no such property") rfl (by decide +kernel) (by decide +kernel) cl_X7_155 ini_IllegalArgumentException at_IA ab_IA ht (by decide) (by decide) (by decide) (by decide) dX7_debt_82 dX7_debt_85 dX7_debt_86 dX7_debt_88 dX7_debt_91 rfl))
      · try (exfalso; omega)
        all_goals (
          exfalso
          omega))

set_option maxRecDepth 20000 in
set_option maxHeartbeats 1000000 in
theorem tx_count (l : Launch) (D : va_G) (tc : Nat → ClassId) (base : Nat) (hl : l.stackTraces = false) (rc : Nat) (qq : Int) (hpp : AH) (hr1 : r32 qq) (hq : ¬ (0 ≤ qq ∧ qq ≤ 17)) : TX l D tc base yX7_count cX7_count 2 (some .int) 7 [aR rc, aI qq] hpp eIA (fun h' => hpp = h') := by
  refine TX.of [some (aR rc), some (aI qq)] (by decide +kernel) rfl (Nat.le_of_ble_eq_true rfl) ?_
  intro p e s m args below meth c C hE ht
  refine k_iload_n C dX7_count_0 rfl ?_
  refine k_tsw (dt := 263) C [88, 96, 104, 112, 120, 128, 139, 150, 158, 166, 174, 182, 190, 198, 206, 217, 239, 255] dX7_count_1 ⟨by omega, by omega⟩ (by decide) (by decide) (by decide) (And.intro (fun c1 => ?_) (And.intro (fun c1 => ?_) (And.intro (fun c1 => ?_) (And.intro (fun c1 => ?_) (And.intro (fun c1 => ?_) (And.intro (fun c1 => ?_) (And.intro (fun c1 => ?_) (And.intro (fun c1 => ?_) (And.intro (fun c1 => ?_) (And.intro (fun c1 => ?_) (And.intro (fun c1 => ?_) (And.intro (fun c1 => ?_) (And.intro (fun c1 => ?_) (And.intro (fun c1 => ?_) (And.intro (fun c1 => ?_) (And.intro (fun c1 => ?_) (And.intro (fun c1 => ?_) (And.intro (fun c1 => ?_) trivial)))))))))))))))))) (fun c1 => ?_)
  · try (exfalso; omega)
    all_goals (
      exfalso
      omega)
  · try (exfalso; omega)
    all_goals (
      exfalso
      omega)
  · try (exfalso; omega)
    all_goals (
      exfalso
      omega)
  · try (exfalso; omega)
    all_goals (
      exfalso
      omega)
  · try (exfalso; omega)
    all_goals (
      exfalso
      omega)
  · try (exfalso; omega)
    all_goals (
      exfalso
      omega)
  · try (exfalso; omega)
    all_goals (
      exfalso
      omega)
  · try (exfalso; omega)
    all_goals (
      exfalso
      omega)
  · try (exfalso; omega)
    all_goals (
      exfalso
      omega)
  · try (exfalso; omega)
    all_goals (
      exfalso
      omega)
  · try (exfalso; omega)
    all_goals (
      exfalso
      omega)
  · try (exfalso; omega)
    all_goals (
      exfalso
      omega)
  · try (exfalso; omega)
    all_goals (
      exfalso
      omega)
  · try (exfalso; omega)
    all_goals (
      exfalso
      omega)
  · try (exfalso; omega)
    all_goals (
      exfalso
      omega)
  · try (exfalso; omega)
    all_goals (
      exfalso
      omega)
  · try (exfalso; omega)
    all_goals (
      exfalso
      omega)
  · try (exfalso; omega)
    all_goals (
      exfalso
      omega)
  · try (exfalso; omega)
    all_goals (
      exact k_throw C hE hl (text := "no such number") rfl (by decide +kernel) (by decide +kernel) cl_X7_155 ini_IllegalArgumentException at_IA ab_IA ht (by decide) (by decide) (by decide) (by decide) dX7_count_263 dX7_count_266 dX7_count_267 dX7_count_269 dX7_count_272 rfl)

set_option maxRecDepth 20000 in
set_option maxHeartbeats 1000000 in
theorem tx_setting (l : Launch) (D : va_G) (tc : Nat → ClassId) (base : Nat) (hl : l.stackTraces = false) (rc : Nat) (ww : Int) (hpp : AH) (hr1 : r32 ww) (hw : ¬ (0 ≤ ww ∧ ww ≤ 5)) : TX l D tc base yX7_setting cX7_setting 2 (some .int) 7 [aR rc, aI ww] hpp eIO (fun h' => hpp = h') := by
  refine TX.of [some (aR rc), some (aI ww)] (by decide +kernel) rfl (Nat.le_of_ble_eq_true rfl) ?_
  intro p e s m args below meth c C hE ht
  refine k_iload_n C dX7_setting_0 rfl ?_
  refine k_xcallS C hE (n := 1) (as := [_]) (tx_X7_requireSetting l D tc base hl _ _ hr1 hw) ml_X7_59 sm_X7_requireSetting ini_X7 co_X7_requireSetting ⟨by decide, by decide, by decide +kernel⟩ rfl ⟨by decide, by decide⟩ rfl (Nat.le_of_ble_eq_true rfl) ⟨by decide, by decide⟩ dX7_setting_1 ?_
  rintro _ rfl
  exact Xk.out C ht rfl

set_option maxRecDepth 20000 in
set_option maxHeartbeats 1000000 in
theorem tx_why (l : Launch) (D : va_G) (tc : Nat → ClassId) (base : Nat) (hl : l.stackTraces = false) (rc : Nat) (qq : Int) (hpp : AH) (hr1 : r32 qq) (hq : ¬ (0 ≤ qq ∧ qq ≤ 2)) : TX l D tc base yX7_why cX7_why 2 (some .int) 7 [aR rc, aI qq] hpp eIA (fun h' => hpp = h') := by
  refine TX.of [some (aR rc), some (aI qq)] (by decide +kernel) rfl (Nat.le_of_ble_eq_true rfl) ?_
  intro p e s m args below meth c C hE ht
  refine k_iload_n C dX7_why_0 rfl ?_
  refine k_iconst C dX7_why_1 ?_
  refine k_iconst C dX7_why_2 ?_
  refine k_xcallS C hE (n := 3) (as := [_, _, _]) (tx_X7_requireRange l D tc base hl _ _ _ _ hr1 hq ⟨by omega, by omega⟩ ⟨by omega, by omega⟩) ml_X7_41 sm_X7_requireRange ini_X7 co_X7_requireRange ⟨by decide, by decide, by decide +kernel⟩ rfl ⟨by decide, by decide⟩ rfl (Nat.le_of_ble_eq_true rfl) ⟨by decide, by decide⟩ dX7_why_3 ?_
  rintro _ rfl
  exact Xk.out C ht rfl

set_option maxRecDepth 20000 in
set_option maxHeartbeats 1000000 in
theorem tx_ifPassed1 (l : Launch) (D : va_G) (tc : Nat → ClassId) (base : Nat) (hl : l.stackTraces = false) (rc : Nat) (ww qq : Int) (hpp : AH) (hr1 : r32 ww) (hw : ¬ (1 ≤ ww ∧ ww ≤ 720)) : TX l D tc base yX7_ifPassed cX7_ifPassed 3 (some .int) 7 [aR rc, aI ww, aI qq] hpp eIA (fun h' => hpp = h') := by
  refine TX.of [some (aR rc), some (aI ww), some (aI qq)] (by decide +kernel) rfl (Nat.le_of_ble_eq_true rfl) ?_
  intro p e s m args below meth c C hE ht
  refine k_iload_n C dX7_ifPassed_0 rfl ?_
  refine k_iconst C dX7_ifPassed_1 ?_
  refine k_sipush C dX7_ifPassed_2 (by decide +kernel) ?_
  refine k_xcallS C hE (n := 3) (as := [_, _, _]) (tx_X7_requireRange l D tc base hl _ _ _ _ hr1 hw ⟨by omega, by omega⟩ ⟨by omega, by omega⟩) ml_X7_41 sm_X7_requireRange ini_X7 co_X7_requireRange ⟨by decide, by decide, by decide +kernel⟩ rfl ⟨by decide, by decide⟩ rfl (Nat.le_of_ble_eq_true rfl) ⟨by decide, by decide⟩ dX7_ifPassed_5 ?_
  rintro _ rfl
  exact Xk.out C ht rfl

set_option maxRecDepth 20000 in
set_option maxHeartbeats 1000000 in
theorem tx_ifPassed2 (l : Launch) (D : va_G) (tc : Nat → ClassId) (base : Nat) (hl : l.stackTraces = false) (rc : Nat) (ww qq : Int) (hpp : AH) (hr2 : r32 qq) (hw : 1 ≤ ww ∧ ww ≤ 720) (hq : ¬ (0 ≤ qq ∧ qq ≤ 9)) : TX l D tc base yX7_ifPassed cX7_ifPassed 3 (some .int) 7 [aR rc, aI ww, aI qq] hpp eIA (fun h' => hpp = h') := by
  refine TX.of [some (aR rc), some (aI ww), some (aI qq)] (by decide +kernel) rfl (Nat.le_of_ble_eq_true rfl) ?_
  intro p e s m args below meth c C hE ht
  refine k_iload_n C dX7_ifPassed_0 rfl ?_
  refine k_iconst C dX7_ifPassed_1 ?_
  refine k_sipush C dX7_ifPassed_2 (by decide +kernel) ?_
  refine k_callS C (n := 3) (as := [_, _, _]) (ct_X7_requireRange l D tc base _ _ _ _ ⟨by omega, by omega⟩ ⟨by omega, by omega⟩ ⟨by omega, by omega⟩) ml_X7_41 sm_X7_requireRange ini_X7 co_X7_requireRange ⟨by decide, by decide, by decide +kernel⟩ rfl ⟨by decide, by decide⟩ rfl (Nat.le_of_ble_eq_true rfl) ⟨Nat.zero_le _, Nat.zero_le _⟩ dX7_ifPassed_5 ?_
  rintro _ _ ⟨rfl, rfl⟩
  refine k_iload_n C dX7_ifPassed_8 rfl ?_
  refine k_iconst C dX7_ifPassed_9 ?_
  refine k_bipush C dX7_ifPassed_10 (by decide +kernel) ?_
  refine k_xcallS C hE (n := 3) (as := [_, _, _]) (tx_X7_requireRange l D tc base hl _ _ _ _ hr2 hq ⟨by omega, by omega⟩ ⟨by omega, by omega⟩) ml_X7_41 sm_X7_requireRange ini_X7 co_X7_requireRange ⟨by decide, by decide, by decide +kernel⟩ rfl ⟨by decide, by decide⟩ rfl (Nat.le_of_ble_eq_true rfl) ⟨by decide, by decide⟩ dX7_ifPassed_12 ?_
  rintro _ rfl
  exact Xk.out C ht rfl

set_option maxRecDepth 20000 in
set_option maxHeartbeats 1000000 in
theorem tx_leastTurns (l : Launch) (D : va_G) (tc : Nat → ClassId) (base : Nat) (hl : l.stackTraces = false) (rc : Nat) (ww : Int) (hpp : AH) (hr1 : r32 ww) (hw : ¬ (1 ≤ ww ∧ ww ≤ 720)) : TX l D tc base yX7_leastTurns cX7_leastTurns 6 (some .int) 7 [aR rc, aI ww] hpp eIA (fun h' => hpp = h') := by
  refine TX.of [some (aR rc), some (aI ww), none, none, none, none] (by decide +kernel) rfl (Nat.le_of_ble_eq_true rfl) ?_
  intro p e s m args below meth c C hE ht
  refine k_iload_n C dX7_leastTurns_0 rfl ?_
  refine k_iconst C dX7_leastTurns_1 ?_
  refine k_sipush C dX7_leastTurns_2 (by decide +kernel) ?_
  refine k_xcallS C hE (n := 3) (as := [_, _, _]) (tx_X7_requireRange l D tc base hl _ _ _ _ hr1 hw ⟨by omega, by omega⟩ ⟨by omega, by omega⟩) ml_X7_41 sm_X7_requireRange ini_X7 co_X7_requireRange ⟨by decide, by decide, by decide +kernel⟩ rfl ⟨by decide, by decide⟩ rfl (Nat.le_of_ble_eq_true rfl) ⟨by decide, by decide⟩ dX7_leastTurns_5 ?_
  rintro _ rfl
  exact Xk.out C ht rfl
