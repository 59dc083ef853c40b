set_option maxRecDepth 20000 in
set_option maxHeartbeats 1000000 in
theorem ct_X7_requireWeight (l : Launch) (D : va_G) (tc : Nat → ClassId) (base : Nat) (ww : Int) (hpp : AH) (hw : 0 ≤ ww ∧ ww ≤ 2) : CT l D tc base yX7_requireWeight cX7_requireWeight 1 none 0 [aI ww] hpp (fun r h' => r = none ∧ hpp = h') := by
  refine CT.of [some (aI ww)] (by decide +kernel) rfl (Nat.le_of_ble_eq_true rfl) ?_
  intro p e s m args below meth c C hr hnm
  refine k_iload_n C dX7_requireWeight_0 rfl ?_
  refine k_if_lt (tgt := 9) C dX7_requireWeight_1 (by decide) ⟨by omega, by omega⟩ (fun c1 => ?_) (fun c1 => ?_)
  · try (exfalso; omega)
    all_goals (
      exfalso
      omega)
  · try (exfalso; omega)
    all_goals (
      refine k_iload_n C dX7_requireWeight_4 rfl ?_
      refine k_iconst C dX7_requireWeight_5 ?_
      refine k_icmp_lt (tgt := 20) C dX7_requireWeight_6 (by decide) ⟨by omega, by omega⟩ ⟨by omega, by omega⟩ (fun c6 => ?_) (fun c6 => ?_)
      · try (exfalso; omega)
        all_goals (
          refine k_vret C hr dX7_requireWeight_20 ?_
          exact ⟨rfl, rfl⟩)
      · try (exfalso; omega)
        all_goals (
          exfalso
          omega))

set_option maxRecDepth 20000 in
set_option maxHeartbeats 1000000 in
theorem ct_X7_requireSetting (l : Launch) (D : va_G) (tc : Nat → ClassId) (base : Nat) (ww : Int) (hpp : AH) (hw : 0 ≤ ww ∧ ww ≤ 5) : CT l D tc base yX7_requireSetting cX7_requireSetting 1 none 0 [aI ww] hpp (fun r h' => r = none ∧ hpp = h') := by
  refine CT.of [some (aI ww)] (by decide +kernel) rfl (Nat.le_of_ble_eq_true rfl) ?_
  intro p e s m args below meth c C hr hnm
  refine k_iload_n C dX7_requireSetting_0 rfl ?_
  refine k_if_lt (tgt := 10) C dX7_requireSetting_1 (by decide) ⟨by omega, by omega⟩ (fun c1 => ?_) (fun c1 => ?_)
  · try (exfalso; omega)
    all_goals (
      exfalso
      omega)
  · try (exfalso; omega)
    all_goals (
      refine k_iload_n C dX7_requireSetting_4 rfl ?_
      refine k_bipush C dX7_requireSetting_5 (by decide +kernel) ?_
      refine k_icmp_lt (tgt := 21) C dX7_requireSetting_7 (by decide) ⟨by omega, by omega⟩ ⟨by omega, by omega⟩ (fun c7 => ?_) (fun c7 => ?_)
      · try (exfalso; omega)
        all_goals (
          refine k_vret C hr dX7_requireSetting_21 ?_
          exact ⟨rfl, rfl⟩)
      · try (exfalso; omega)
        all_goals (
          exfalso
          omega))

set_option maxRecDepth 20000 in
set_option maxHeartbeats 1000000 in
theorem ct_X7_requireRange (l : Launch) (D : va_G) (tc : Nat → ClassId) (base : Nat) (vv lo hu : Int) (hpp : AH) (hv : lo ≤ vv ∧ vv ≤ hu) (hlo : -100000 ≤ lo ∧ lo ≤ 100000) (hhu : -100000 ≤ hu ∧ hu ≤ 100000) : CT l D tc base yX7_requireRange cX7_requireRange 3 none 0 [aI vv, aI lo, aI hu] hpp (fun r h' => r = none ∧ hpp = h') := by
  refine CT.of [some (aI vv), some (aI lo), some (aI hu)] (by decide +kernel) rfl (Nat.le_of_ble_eq_true rfl) ?_
  intro p e s m args below meth c C hr hnm
  refine k_iload_n C dX7_requireRange_0 rfl ?_
  refine k_iload_n C dX7_requireRange_1 rfl ?_
  refine k_icmp_lt (tgt := 10) C dX7_requireRange_2 (by decide) ⟨by omega, by omega⟩ ⟨by omega, by omega⟩ (fun c2 => ?_) (fun c2 => ?_)
  · try (exfalso; omega)
    all_goals (
      exfalso
      omega)
  · try (exfalso; omega)
    all_goals (
      refine k_iload_n C dX7_requireRange_5 rfl ?_
      refine k_iload_n C dX7_requireRange_6 rfl ?_
      refine k_icmp_le (tgt := 21) C dX7_requireRange_7 (by decide) ⟨by omega, by omega⟩ ⟨by omega, by omega⟩ (fun c7 => ?_) (fun c7 => ?_)
      · try (exfalso; omega)
        all_goals (
          refine k_vret C hr dX7_requireRange_21 ?_
          exact ⟨rfl, rfl⟩)
      · try (exfalso; omega)
        all_goals (
          exfalso
          omega))

set_option maxRecDepth 20000 in
set_option maxHeartbeats 1000000 in
theorem ct_X7_requireWinder (l : Launch) (D : va_G) (tc : Nat → ClassId) (base : Nat) (rc : Nat) (zrr hhi htx : Int → Int) (st ln : Int) (hpp : AH) (hX : XA hpp rc zrr hhi htx st ln) (ww : Int) (hw : 0 ≤ ww ∧ ww < zrr 21) : CT l D tc base yX7_requireWinder cX7_requireWinder 2 none 0 [aR rc, aI ww] hpp (fun r h' => r = none ∧ hpp = h') := by
  refine CT.of [some (aR rc), some (aI ww)] (by decide +kernel) rfl (Nat.le_of_ble_eq_true rfl) ?_
  intro p e s m args below meth c C hr hnm
  obtain ⟨zth, gr, x0, hS, hT, hH, hTx, x5, hok, h13, hst⟩ := id hX
  obtain ⟨ol, ff, hol, hj0, -⟩ := id hH
  obtain ⟨fsn, hsn0⟩ := hS.obj
  have hi := hok.1
  obtain ⟨⟨v0, v1, v2, v9, v10, v11, v12, v13, v21, v52, v61, v62, v63, v64, v65, v66⟩, hwi, hde⟩ := id hi
  obtain ⟨f1, f2, f3, w1, w2, w3, w4, w5, d1, d2, se, ⟨g0, g1, g2, g3, g4, g5, g6, g7, g8, g9, g10, g11, g12, g13, g14⟩, hsr⟩ := id hS
  obtain ⟨r1, r2, r3, r4⟩ := id hsr
  refine k_iload_n C dX7_requireWinder_0 rfl ?_
  refine k_if_lt (tgt := 18) C dX7_requireWinder_1 (by decide) ⟨by omega, by omega⟩ (fun c1 => ?_) (fun c1 => ?_)
  · try (exfalso; omega)
    all_goals (
      exfalso
      omega)
  · try (exfalso; omega)
    all_goals (
      refine k_iload_n C dX7_requireWinder_4 rfl ?_
      refine k_aload_n C dX7_requireWinder_5 rfl ?_
      refine k_get C (k := 0) inX7 (ci := 7) rfl (by decide) fl_X7_10 dX7_requireWinder_6 (by repeat (first | exact hs_eq _ _ _ | refine hs_ne (by omega) ?_ | assumption)) rfl ?_
      refine k_get C (k := 1) inX3 (ci := 3) rfl (by decide) fl_X7_105 dX7_requireWinder_9 (by repeat (first | exact hs_eq _ _ _ | refine hs_ne (by omega) ?_ | assumption)) rfl ?_
      refine k_get C (k := 0) inX6 (ci := 6) rfl (by decide) fl_X7_109 dX7_requireWinder_12 (by repeat (first | exact hs_eq _ _ _ | refine hs_ne (by omega) ?_ | assumption)) rfl ?_
      refine k_icmp_lt (tgt := 29) C dX7_requireWinder_15 (by decide) ⟨by omega, by omega⟩ ⟨by omega, by omega⟩ (fun c15 => ?_) (fun c15 => ?_)
      · try (exfalso; omega)
        all_goals (
          refine k_vret C hr dX7_requireWinder_29 ?_
          exact ⟨rfl, rfl⟩)
      · try (exfalso; omega)
        all_goals (
          exfalso
          omega))

set_option maxRecDepth 20000 in
set_option maxHeartbeats 1000000 in
theorem ct_X7_wind (l : Launch) (D : va_G) (tc : Nat → ClassId) (base : Nat) (rc : Nat) (zrr hhi htx : Int → Int) (st ln : Int) (hpp : AH) (hX : XA hpp rc zrr hhi htx st ln) (ww tt : Int) (hw : 0 ≤ ww ∧ ww ≤ 2) (ht : 1 ≤ tt ∧ tt ≤ 200) : CT l D tc base yX7_wind cX7_wind 3 (some .int) 4 [aR rc, aI ww, aI tt] hpp (fun r h' => r = some (aI (zMore zrr ww tt)) ∧ XA h' rc (zWind zrr ww tt) (sHi zrr hhi st) (htx) (sSt st) (ln) ∧ Fr hpp h' rc 127) := by
  refine CT.of [some (aR rc), some (aI ww), some (aI tt)] (by decide +kernel) rfl (Nat.le_of_ble_eq_true rfl) ?_
  intro p e s m args below meth c C hr hnm
  obtain ⟨zth, gr, x0, hS, hT, hH, hTx, x5, hok, h13, hst⟩ := id hX
  obtain ⟨ol, ff, hol, hj0, -⟩ := id hH
  obtain ⟨fsn, hsn0⟩ := hS.obj
  have hi := hok.1
  obtain ⟨⟨v0, v1, v2, v9, v10, v11, v12, v13, v21, v52, v61, v62, v63, v64, v65, v66⟩, hwi, hde⟩ := id hi
  refine k_iload_n C dX7_wind_0 rfl ?_
  refine k_callS C (n := 1) (as := [_]) (ct_X7_requireWeight l D tc base _ _ ⟨by omega, by omega⟩) ml_X7_37 sm_X7_requireWeight ini_X7 co_X7_requireWeight ⟨by decide, by decide, by decide +kernel⟩ rfl ⟨by decide, by decide⟩ rfl (Nat.le_of_ble_eq_true rfl) ⟨Nat.zero_le _, Nat.zero_le _⟩ dX7_wind_1 ?_
  rintro _ _ ⟨rfl, rfl⟩
  refine k_iload_n C dX7_wind_4 rfl ?_
  refine k_iconst C dX7_wind_5 ?_
  refine k_sipush C dX7_wind_6 (by decide +kernel) ?_
  refine k_callS C (n := 3) (as := [_, _, _]) (ct_X7_requireRange l D tc base _ _ _ _ ⟨by omega, by omega⟩ ⟨by omega, by omega⟩ ⟨by omega, by omega⟩) ml_X7_41 sm_X7_requireRange ini_X7 co_X7_requireRange ⟨by decide, by decide, by decide +kernel⟩ rfl ⟨by decide, by decide⟩ rfl (Nat.le_of_ble_eq_true rfl) ⟨Nat.zero_le _, Nat.zero_le _⟩ dX7_wind_9 ?_
  rintro _ _ ⟨rfl, rfl⟩
  refine k_aload_n C dX7_wind_12 rfl ?_
  refine k_get C (k := 2) inX7 (ci := 7) rfl (by decide) fl_X7_22 dX7_wind_13 (by repeat (first | exact hs_eq _ _ _ | refine hs_ne (by omega) ?_ | assumption)) rfl ?_
  refine k_aload_n C dX7_wind_16 rfl ?_
  refine k_get C (k := 0) inX7 (ci := 7) rfl (by decide) fl_X7_10 dX7_wind_17 (by repeat (first | exact hs_eq _ _ _ | refine hs_ne (by omega) ?_ | assumption)) rfl ?_
  refine k_callV C (n := 1) (as := [_]) (ct_X1_keep l D tc base (rc + 31) (rc + 1) st hhi zrr _ hH hS hst (by omega) hok h13) ml_X7_45 im_X1_keep se_X1_keep ini_X1 co_X1_keep ⟨rfl, by decide, by decide, by decide +kernel⟩ rfl (ci := 1) rfl (by repeat (first | exact hs_eq _ _ _ | refine hs_ne (by omega) ?_ | assumption)) ⟨by decide, by decide⟩ rfl (Nat.le_of_ble_eq_true rfl) ⟨Nat.zero_le _, Nat.zero_le _⟩ dX7_wind_20 ?_
  rintro _ hkp ⟨rfl, hHk, hFk⟩
  have hXk := hX.keep hFk hHk (sSt_rng hst)
  obtain ⟨zt1, gr1, x01, hS1, hT1, hH1, hTx1, x51, -, -, hst1⟩ := id hXk
  obtain ⟨f1, f2, f3, w1, w2, w3, w4, w5, d1, d2, se, ⟨g0, g1, g2, g3, g4, g5, g6, g7, g8, g9, g10, g11, g12, g13, g14⟩, hsr⟩ := id hS1
  obtain ⟨r1, r2, r3, r4⟩ := id hsr
  refine k_aload_n C dX7_wind_23 rfl ?_
  refine k_get C (k := 0) inX7 (ci := 7) rfl (by decide) fl_X7_10 dX7_wind_24 (by repeat (first | exact hs_eq _ _ _ | refine hs_ne (by omega) ?_ | assumption)) rfl ?_
  refine k_get C (k := 0) inX3 (ci := 3) rfl (by decide) fl_X7_49 dX7_wind_27 (by repeat (first | exact hs_eq _ _ _ | refine hs_ne (by omega) ?_ | assumption)) rfl ?_
  refine k_iload_n C dX7_wind_30 rfl ?_
  refine k_iload_n C dX7_wind_31 rfl ?_
  have hfw := (r1 ww (by omega) (by omega)).1
  have hgw := zInv_hgt hi hw.1 hw.2
  refine k_callV C (n := 2) (as := [_, _]) (ct_X5_raise l D tc base (rc + 1 + 1) f1 f2 f3 _ (by repeat (first | exact hs_eq _ _ _ | refine hs_ne (by omega) ?_ | assumption)) (by repeat (first | exact hs_eq _ _ _ | refine hs_ne (by omega) ?_ | assumption)) (by repeat (first | exact hs_eq _ _ _ | refine hs_ne (by omega) ?_ | assumption)) (by repeat (first | exact hs_eq _ _ _ | refine hs_ne (by omega) ?_ | assumption)) _ _ (by omega) (by omega) (by omega) (by omega) (by rw [hfw]; exact hgw.1) (by rw [hfw]; exact hgw.2)) ml_X7_53 im_X5_raise se_X5_raise ini_X5 co_X5_raise ⟨rfl, by decide, by decide, by decide +kernel⟩ rfl (ci := 5) rfl (by repeat (first | exact hs_eq _ _ _ | refine hs_ne (by omega) ?_ | assumption)) ⟨by decide, by decide⟩ rfl (Nat.le_of_ble_eq_true rfl) ⟨Nat.zero_le _, Nat.zero_le _⟩ dX7_wind_32 ?_
  rintro _ _ ⟨rfl, rfl⟩
  refine k_iret C hr dX7_wind_35 ?_
  refine ⟨congrArg (fun qq => some (aI qq)) (by unfold zMore; rw [hfw]), hXk.now (fun aaa haa => by repeat (first | rfl | refine hs_ne (by omega) ?_)) ?_ ?_ ?_, Fr.tr (hFk.wide (by omega) (by omega)) (Fr.wide (o := rc + 1) (n := 15) (fun aaa haa => by repeat (first | rfl | refine hs_ne (by omega) ?_)) (by omega) (by omega))⟩
  · refine ⟨_, f2, _, w1, w2, w3, w4, w5, d1, d2, se, ⟨by (try simp (disch := omega) only [iu_ne, iu_eq, zWind_ne, zTake_ne, zChim_ne, zChim_16]); repeat (first | exact hs_eq _ _ _ | refine hs_ne (by omega) ?_ | assumption), (by repeat (first | exact hs_eq _ _ _ | refine hs_ne (by omega) ?_ | assumption)), (by repeat (first | exact hs_eq _ _ _ | refine hs_ne (by omega) ?_ | assumption)), (by repeat (first | exact hs_eq _ _ _ | refine hs_ne (by omega) ?_ | assumption)), (by repeat (first | exact hs_eq _ _ _ | refine hs_ne (by omega) ?_ | assumption)), by (try simp (disch := omega) only [iu_ne, iu_eq, zWind_ne, zTake_ne, zChim_ne, zChim_16]); repeat (first | exact hs_eq _ _ _ | refine hs_ne (by omega) ?_ | assumption), (by repeat (first | exact hs_eq _ _ _ | refine hs_ne (by omega) ?_ | assumption)), (by repeat (first | exact hs_eq _ _ _ | refine hs_ne (by omega) ?_ | assumption)), (by repeat (first | exact hs_eq _ _ _ | refine hs_ne (by omega) ?_ | assumption)), (by repeat (first | exact hs_eq _ _ _ | refine hs_ne (by omega) ?_ | assumption)), (by repeat (first | exact hs_eq _ _ _ | refine hs_ne (by omega) ?_ | assumption)), by (try simp (disch := omega) only [iu_ne, iu_eq, zWind_ne, zTake_ne, zChim_ne, zChim_16]); repeat (first | exact hs_eq _ _ _ | refine hs_ne (by omega) ?_ | assumption), (by repeat (first | exact hs_eq _ _ _ | refine hs_ne (by omega) ?_ | assumption)), (by repeat (first | exact hs_eq _ _ _ | refine hs_ne (by omega) ?_ | assumption)), (by repeat (first | exact hs_eq _ _ _ | refine hs_ne (by omega) ?_ | assumption))⟩, ?_⟩
    exact hsr.wind hw.1 hw.2
  · exact zOk_wind hok hw.1 hw.2 (by omega)
  · rw [zWind_ne (by omega) (by omega)]
    exact h13

set_option maxRecDepth 20000 in
set_option maxHeartbeats 1000000 in
theorem ct_X7_set (l : Launch) (D : va_G) (tc : Nat → ClassId) (base : Nat) (rc : Nat) (zrr hhi htx : Int → Int) (st ln : Int) (hpp : AH) (hX : XA hpp rc zrr hhi htx st ln) (ww vv : Int) (hw : 0 ≤ ww ∧ ww ≤ 5) (hv : zVal ww vv) : CT l D tc base yX7_set cX7_set 4 (some .int) 4 [aR rc, aI ww, aI vv] hpp (fun r h' => r = some (aI (zrr (61 + ww))) ∧ XA h' rc (iu (iu zrr (61 + ww) vv) 9 (mnI (zrr 9) (iu zrr (61 + ww) vv 61))) (sHi zrr hhi st) (htx) (sSt st) (ln) ∧ Fr hpp h' rc 127) := by
  refine CT.of [some (aR rc), some (aI ww), some (aI vv), none] (by decide +kernel) rfl (Nat.le_of_ble_eq_true rfl) ?_
  intro p e s m args below meth c C hr hnm
  obtain ⟨zth, gr, x0, hS, hT, hH, hTx, x5, hok, h13, hst⟩ := id hX
  obtain ⟨ol, ff, hol, hj0, -⟩ := id hH
  obtain ⟨fsn, hsn0⟩ := hS.obj
  have hi := hok.1
  obtain ⟨⟨v0, v1, v2, v9, v10, v11, v12, v13, v21, v52, v61, v62, v63, v64, v65, v66⟩, hwi, hde⟩ := id hi
  have hlm := lmV hw
  have hvl := (zVal_lm hw).mp hv
  refine k_iload_n C dX7_set_0 rfl ?_
  refine k_callS C (n := 1) (as := [_]) (ct_X7_requireSetting l D tc base _ _ ⟨by omega, by omega⟩) ml_X7_59 sm_X7_requireSetting ini_X7 co_X7_requireSetting ⟨by decide, by decide, by decide +kernel⟩ rfl ⟨by decide, by decide⟩ rfl (Nat.le_of_ble_eq_true rfl) ⟨Nat.zero_le _, Nat.zero_le _⟩ dX7_set_1 ?_
  rintro _ _ ⟨rfl, rfl⟩
  refine k_iload_n C dX7_set_4 rfl ?_
  refine k_getst C C.2.2.2.2.2.2.2.2.2.1 fl_X7_62 dX7_set_5 ?_
  intro ta hta
  refine k_iload_n C dX7_set_8 rfl ?_
  refine k_ialdst C hta (by omega) (by omega) dX7_set_9 ?_
  refine k_getst C C.2.2.2.2.2.2.2.2.2.2 fl_X7_65 dX7_set_10 ?_
  intro tb htb
  refine k_iload_n C dX7_set_13 rfl ?_
  refine k_ialdst C htb (by omega) (by omega) dX7_set_14 ?_
  refine k_callS C (n := 3) (as := [_, _, _]) (ct_X7_requireRange l D tc base _ _ _ _ ⟨by omega, by omega⟩ ⟨by omega, by omega⟩ ⟨by omega, by omega⟩) ml_X7_41 sm_X7_requireRange ini_X7 co_X7_requireRange ⟨by decide, by decide, by decide +kernel⟩ rfl ⟨by decide, by decide⟩ rfl (Nat.le_of_ble_eq_true rfl) ⟨Nat.zero_le _, Nat.zero_le _⟩ dX7_set_15 ?_
  rintro _ _ ⟨rfl, rfl⟩
  refine k_aload_n C dX7_set_18 rfl ?_
  refine k_get C (k := 2) inX7 (ci := 7) rfl (by decide) fl_X7_22 dX7_set_19 (by repeat (first | exact hs_eq _ _ _ | refine hs_ne (by omega) ?_ | assumption)) rfl ?_
  refine k_aload_n C dX7_set_22 rfl ?_
  refine k_get C (k := 0) inX7 (ci := 7) rfl (by decide) fl_X7_10 dX7_set_23 (by repeat (first | exact hs_eq _ _ _ | refine hs_ne (by omega) ?_ | assumption)) rfl ?_
  refine k_callV C (n := 1) (as := [_]) (ct_X1_keep l D tc base (rc + 31) (rc + 1) st hhi zrr _ hH hS hst (by omega) hok h13) ml_X7_45 im_X1_keep se_X1_keep ini_X1 co_X1_keep ⟨rfl, by decide, by decide, by decide +kernel⟩ rfl (ci := 1) rfl (by repeat (first | exact hs_eq _ _ _ | refine hs_ne (by omega) ?_ | assumption)) ⟨by decide, by decide⟩ rfl (Nat.le_of_ble_eq_true rfl) ⟨Nat.zero_le _, Nat.zero_le _⟩ dX7_set_26 ?_
  rintro _ hkp ⟨rfl, hHk, hFk⟩
  have hXk := hX.keep hFk hHk (sSt_rng hst)
  obtain ⟨zt1, gr1, x01, hS1, hT1, hH1, hTx1, x51, -, -, hst1⟩ := id hXk
  obtain ⟨f1, f2, f3, w1, w2, w3, w4, w5, d1, d2, se, ⟨g0, g1, g2, g3, g4, g5, g6, g7, g8, g9, g10, g11, g12, g13, g14⟩, hsr⟩ := id hS1
  obtain ⟨r1, r2, r3, r4⟩ := id hsr
  refine k_aload_n C dX7_set_29 rfl ?_
  refine k_get C (k := 0) inX7 (ci := 7) rfl (by decide) fl_X7_10 dX7_set_30 (by repeat (first | exact hs_eq _ _ _ | refine hs_ne (by omega) ?_ | assumption)) rfl ?_
  refine k_get C (k := 3) inX3 (ci := 3) rfl (by decide) fl_X7_68 dX7_set_33 (by repeat (first | exact hs_eq _ _ _ | refine hs_ne (by omega) ?_ | assumption)) rfl ?_
  refine k_iload_n C dX7_set_36 rfl ?_
  refine k_iaload C dX7_set_37 (by repeat (first | exact hs_eq _ _ _ | refine hs_ne (by omega) ?_ | assumption)) (by omega) (by omega) (by omega) ?_
  refine k_istore_n C dX7_set_38 (by decide) rfl ?_
  refine k_aload_n C dX7_set_39 rfl ?_
  refine k_get C (k := 0) inX7 (ci := 7) rfl (by decide) fl_X7_10 dX7_set_40 (by repeat (first | exact hs_eq _ _ _ | refine hs_ne (by omega) ?_ | assumption)) rfl ?_
  refine k_get C (k := 3) inX3 (ci := 3) rfl (by decide) fl_X7_68 dX7_set_43 (by repeat (first | exact hs_eq _ _ _ | refine hs_ne (by omega) ?_ | assumption)) rfl ?_
  refine k_iload_n C dX7_set_46 rfl ?_
  refine k_iload_n C dX7_set_47 rfl ?_
  refine k_iastore C dX7_set_48 (by repeat (first | exact hs_eq _ _ _ | refine hs_ne (by omega) ?_ | assumption)) (by omega) (by omega) (by omega) ?_
  refine k_aload_n C dX7_set_49 rfl ?_
  refine k_get C (k := 0) inX7 (ci := 7) rfl (by decide) fl_X7_10 dX7_set_50 (by repeat (first | exact hs_eq _ _ _ | refine hs_ne (by omega) ?_ | assumption)) rfl ?_
  refine k_aload_n C dX7_set_53 rfl ?_
  refine k_get C (k := 0) inX7 (ci := 7) rfl (by decide) fl_X7_10 dX7_set_54 (by repeat (first | exact hs_eq _ _ _ | refine hs_ne (by omega) ?_ | assumption)) rfl ?_
  refine k_get C (k := 6) inX3 (ci := 3) rfl (by decide) fl_X7_71 dX7_set_57 (by repeat (first | exact hs_eq _ _ _ | refine hs_ne (by omega) ?_ | assumption)) rfl ?_
  refine k_aload_n C dX7_set_60 rfl ?_
  refine k_get C (k := 0) inX7 (ci := 7) rfl (by decide) fl_X7_10 dX7_set_61 (by repeat (first | exact hs_eq _ _ _ | refine hs_ne (by omega) ?_ | assumption)) rfl ?_
  refine k_get C (k := 3) inX3 (ci := 3) rfl (by decide) fl_X7_68 dX7_set_64 (by repeat (first | exact hs_eq _ _ _ | refine hs_ne (by omega) ?_ | assumption)) rfl ?_
  refine k_iconst C dX7_set_67 ?_
  have hs1 := hsr.set (w := ww) (v := vv) hw (by omega) (by omega)
  have hiv := zInv_set hi hw hv
  have hs0 := hs1.2.2.2 0 (by omega) (by omega)
  have hv61 := hiv.1.2.2.2.2.2.2.2.2.2.2.1
  rw [show (61 : Int) + 0 = 61 from rfl] at hs0
  refine k_iaload C dX7_set_68 (by repeat (first | exact hs_eq _ _ _ | refine hs_ne (by omega) ?_ | assumption)) (by omega) (by omega) (by omega) ?_
  rw [hs0]
  have hmn := mnI_le (zrr 9) (iu zrr (61 + ww) vv 61)
  refine k_callS C (n := 2) (as := [_, _]) (ct_J9_min_7cf53 l D tc base _ _ _ ⟨by omega, by omega⟩ ⟨by omega, by omega⟩) ml_X7_75 sm_J9_min_7cf53 ini_J9 co_J9_min_7cf53 ⟨by decide, by decide, by decide +kernel⟩ rfl ⟨by decide, by decide⟩ rfl (Nat.le_of_ble_eq_true rfl) ⟨Nat.zero_le _, Nat.zero_le _⟩ dX7_set_69 ?_
  rintro _ _ ⟨rfl, rfl⟩
  refine k_put C (k := 6) inX3 tyX3_ok nmX3 (ci := 3) rfl (by decide) fl_X7_71 rfl (Nat.le_of_ble_eq_true rfl) dX7_set_72 (by repeat (first | exact hs_eq _ _ _ | refine hs_ne (by omega) ?_ | assumption)) ?_
  refine k_iload_n C dX7_set_75 rfl ?_
  refine k_iret C hr dX7_set_76 ?_
  refine ⟨congrArg (fun qq => some (aI qq)) (r4 ww (by omega) (by omega)), hXk.now (fun aaa haa => by repeat (first | rfl | refine hs_ne (by omega) ?_)) ?_ ?_ ?_, Fr.tr (hFk.wide (by omega) (by omega)) (Fr.wide (o := rc + 1) (n := 15) (fun aaa haa => by repeat (first | rfl | refine hs_ne (by omega) ?_)) (by omega) (by omega))⟩
  · refine ⟨f1, f2, f3, w1, w2, w3, w4, w5, d1, d2, _, ⟨by (try simp (disch := omega) only [iu_ne, iu_eq, zWind_ne, zTake_ne, zChim_ne, zChim_16]); repeat (first | exact hs_eq _ _ _ | refine hs_ne (by omega) ?_ | assumption), (by repeat (first | exact hs_eq _ _ _ | refine hs_ne (by omega) ?_ | assumption)), (by repeat (first | exact hs_eq _ _ _ | refine hs_ne (by omega) ?_ | assumption)), (by repeat (first | exact hs_eq _ _ _ | refine hs_ne (by omega) ?_ | assumption)), (by repeat (first | exact hs_eq _ _ _ | refine hs_ne (by omega) ?_ | assumption)), by (try simp (disch := omega) only [iu_ne, iu_eq, zWind_ne, zTake_ne, zChim_ne, zChim_16]); repeat (first | exact hs_eq _ _ _ | refine hs_ne (by omega) ?_ | assumption), (by repeat (first | exact hs_eq _ _ _ | refine hs_ne (by omega) ?_ | assumption)), (by repeat (first | exact hs_eq _ _ _ | refine hs_ne (by omega) ?_ | assumption)), (by repeat (first | exact hs_eq _ _ _ | refine hs_ne (by omega) ?_ | assumption)), (by repeat (first | exact hs_eq _ _ _ | refine hs_ne (by omega) ?_ | assumption)), (by repeat (first | exact hs_eq _ _ _ | refine hs_ne (by omega) ?_ | assumption)), by (try simp (disch := omega) only [iu_ne, iu_eq, zWind_ne, zTake_ne, zChim_ne, zChim_16]); repeat (first | exact hs_eq _ _ _ | refine hs_ne (by omega) ?_ | assumption), (by repeat (first | exact hs_eq _ _ _ | refine hs_ne (by omega) ?_ | assumption)), (by repeat (first | exact hs_eq _ _ _ | refine hs_ne (by omega) ?_ | assumption)), (by repeat (first | exact hs_eq _ _ _ | refine hs_ne (by omega) ?_ | assumption))⟩, ?_⟩
    exact hs1.free (by omega)
  · exact zOk_iu (zOk_of hok hiv (iu_ne (by omega)) (iu_ne (by omega)) (iu_ne (by omega))) (zInv_9 hiv (by omega)) (by omega)
  · rw [iu_ne (by omega), iu_ne (by omega)]
    exact h13

set_option maxRecDepth 20000 in
set_option maxHeartbeats 1000000 in
theorem ct_X7_setSnow (l : Launch) (D : va_G) (tc : Nat → ClassId) (base : Nat) (rc : Nat) (zrr hhi htx : Int → Int) (st ln : Int) (hpp : AH) (hX : XA hpp rc zrr hhi htx st ln) (ww : Int) (hw : 0 ≤ ww ∧ ww ≤ 20) : CT l D tc base yX7_setSnow cX7_setSnow 3 (some .int) 4 [aR rc, aI ww] hpp (fun r h' => r = some (aI (zrr 11)) ∧ XA h' rc (iu zrr 11 ww) (sHi zrr hhi st) (htx) (sSt st) (ln) ∧ Fr hpp h' rc 127) := by
  refine CT.of [some (aR rc), some (aI ww), none] (by decide +kernel) rfl (Nat.le_of_ble_eq_true rfl) ?_
  intro p e s m args below meth c C hr hnm
  obtain ⟨zth, gr, x0, hS, hT, hH, hTx, x5, hok, h13, hst⟩ := id hX
  obtain ⟨ol, ff, hol, hj0, -⟩ := id hH
  obtain ⟨fsn, hsn0⟩ := hS.obj
  have hi := hok.1
  obtain ⟨⟨v0, v1, v2, v9, v10, v11, v12, v13, v21, v52, v61, v62, v63, v64, v65, v66⟩, hwi, hde⟩ := id hi
  refine k_iload_n C dX7_setSnow_0 rfl ?_
  refine k_iconst C dX7_setSnow_1 ?_
  refine k_bipush C dX7_setSnow_2 (by decide +kernel) ?_
  refine k_callS C (n := 3) (as := [_, _, _]) (ct_X7_requireRange l D tc base _ _ _ _ ⟨by omega, by omega⟩ ⟨by omega, by omega⟩ ⟨by omega, by omega⟩) ml_X7_41 sm_X7_requireRange ini_X7 co_X7_requireRange ⟨by decide, by decide, by decide +kernel⟩ rfl ⟨by decide, by decide⟩ rfl (Nat.le_of_ble_eq_true rfl) ⟨Nat.zero_le _, Nat.zero_le _⟩ dX7_setSnow_4 ?_
  rintro _ _ ⟨rfl, rfl⟩
  refine k_aload_n C dX7_setSnow_7 rfl ?_
  refine k_get C (k := 2) inX7 (ci := 7) rfl (by decide) fl_X7_22 dX7_setSnow_8 (by repeat (first | exact hs_eq _ _ _ | refine hs_ne (by omega) ?_ | assumption)) rfl ?_
  refine k_aload_n C dX7_setSnow_11 rfl ?_
  refine k_get C (k := 0) inX7 (ci := 7) rfl (by decide) fl_X7_10 dX7_setSnow_12 (by repeat (first | exact hs_eq _ _ _ | refine hs_ne (by omega) ?_ | assumption)) rfl ?_
  refine k_callV C (n := 1) (as := [_]) (ct_X1_keep l D tc base (rc + 31) (rc + 1) st hhi zrr _ hH hS hst (by omega) hok h13) ml_X7_45 im_X1_keep se_X1_keep ini_X1 co_X1_keep ⟨rfl, by decide, by decide, by decide +kernel⟩ rfl (ci := 1) rfl (by repeat (first | exact hs_eq _ _ _ | refine hs_ne (by omega) ?_ | assumption)) ⟨by decide, by decide⟩ rfl (Nat.le_of_ble_eq_true rfl) ⟨Nat.zero_le _, Nat.zero_le _⟩ dX7_setSnow_15 ?_
  rintro _ hkp ⟨rfl, hHk, hFk⟩
  have hXk := hX.keep hFk hHk (sSt_rng hst)
  obtain ⟨zt1, gr1, x01, hS1, hT1, hH1, hTx1, x51, -, -, hst1⟩ := id hXk
  obtain ⟨f1, f2, f3, w1, w2, w3, w4, w5, d1, d2, se, ⟨g0, g1, g2, g3, g4, g5, g6, g7, g8, g9, g10, g11, g12, g13, g14⟩, hsr⟩ := id hS1
  obtain ⟨r1, r2, r3, r4⟩ := id hsr
  refine k_aload_n C dX7_setSnow_18 rfl ?_
  refine k_get C (k := 0) inX7 (ci := 7) rfl (by decide) fl_X7_10 dX7_setSnow_19 (by repeat (first | exact hs_eq _ _ _ | refine hs_ne (by omega) ?_ | assumption)) rfl ?_
  refine k_get C (k := 7) inX3 (ci := 3) rfl (by decide) fl_X7_80 dX7_setSnow_22 (by repeat (first | exact hs_eq _ _ _ | refine hs_ne (by omega) ?_ | assumption)) rfl ?_
  refine k_istore_n C dX7_setSnow_25 (by decide) rfl ?_
  refine k_aload_n C dX7_setSnow_26 rfl ?_
  refine k_get C (k := 0) inX7 (ci := 7) rfl (by decide) fl_X7_10 dX7_setSnow_27 (by repeat (first | exact hs_eq _ _ _ | refine hs_ne (by omega) ?_ | assumption)) rfl ?_
  refine k_iload_n C dX7_setSnow_30 rfl ?_
  refine k_put C (k := 7) inX3 tyX3_ok nmX3 (ci := 3) rfl (by decide) fl_X7_80 rfl (Nat.le_of_ble_eq_true rfl) dX7_setSnow_31 (by repeat (first | exact hs_eq _ _ _ | refine hs_ne (by omega) ?_ | assumption)) ?_
  refine k_iload_n C dX7_setSnow_34 rfl ?_
  refine k_iret C hr dX7_setSnow_35 ?_
  refine ⟨rfl, hXk.now (fun aaa haa => by repeat (first | rfl | refine hs_ne (by omega) ?_)) ?_ ?_ ?_, Fr.tr (hFk.wide (by omega) (by omega)) (Fr.wide (o := rc + 1) (n := 15) (fun aaa haa => by repeat (first | rfl | refine hs_ne (by omega) ?_)) (by omega) (by omega))⟩
  · refine ⟨f1, f2, f3, w1, w2, w3, w4, w5, d1, d2, se, ⟨by (try simp (disch := omega) only [iu_ne, iu_eq, zWind_ne, zTake_ne, zChim_ne, zChim_16]); repeat (first | exact hs_eq _ _ _ | refine hs_ne (by omega) ?_ | assumption), (by repeat (first | exact hs_eq _ _ _ | refine hs_ne (by omega) ?_ | assumption)), (by repeat (first | exact hs_eq _ _ _ | refine hs_ne (by omega) ?_ | assumption)), (by repeat (first | exact hs_eq _ _ _ | refine hs_ne (by omega) ?_ | assumption)), (by repeat (first | exact hs_eq _ _ _ | refine hs_ne (by omega) ?_ | assumption)), by (try simp (disch := omega) only [iu_ne, iu_eq, zWind_ne, zTake_ne, zChim_ne, zChim_16]); repeat (first | exact hs_eq _ _ _ | refine hs_ne (by omega) ?_ | assumption), (by repeat (first | exact hs_eq _ _ _ | refine hs_ne (by omega) ?_ | assumption)), (by repeat (first | exact hs_eq _ _ _ | refine hs_ne (by omega) ?_ | assumption)), (by repeat (first | exact hs_eq _ _ _ | refine hs_ne (by omega) ?_ | assumption)), (by repeat (first | exact hs_eq _ _ _ | refine hs_ne (by omega) ?_ | assumption)), (by repeat (first | exact hs_eq _ _ _ | refine hs_ne (by omega) ?_ | assumption)), by (try simp (disch := omega) only [iu_ne, iu_eq, zWind_ne, zTake_ne, zChim_ne, zChim_16]); repeat (first | exact hs_eq _ _ _ | refine hs_ne (by omega) ?_ | assumption), (by repeat (first | exact hs_eq _ _ _ | refine hs_ne (by omega) ?_ | assumption)), (by repeat (first | exact hs_eq _ _ _ | refine hs_ne (by omega) ?_ | assumption)), (by repeat (first | exact hs_eq _ _ _ | refine hs_ne (by omega) ?_ | assumption))⟩, ?_⟩
    exact hsr.free (by omega)
  · exact zOk_iu hok (zInv_11 hi (by omega) hw) (by omega)
  · rw [iu_ne (by omega)]
    exact h13

set_option maxRecDepth 20000 in
set_option maxHeartbeats 1000000 in
theorem ct_X7_setHands (l : Launch) (D : va_G) (tc : Nat → ClassId) (base : Nat) (rc : Nat) (zrr hhi htx : Int → Int) (st ln : Int) (hpp : AH) (hX : XA hpp rc zrr hhi htx st ln) (ww : Int) (hw : 0 ≤ ww ∧ ww ≤ 719) : CT l D tc base yX7_setHands cX7_setHands 3 (some .int) 4 [aR rc, aI ww] hpp (fun r h' => r = some (aI (zrr 10)) ∧ XA h' rc (iu zrr 10 ww) (sHi zrr hhi st) (htx) (sSt st) (ln) ∧ Fr hpp h' rc 127) := by
  refine CT.of [some (aR rc), some (aI ww), none] (by decide +kernel) rfl (Nat.le_of_ble_eq_true rfl) ?_
  intro p e s m args below meth c C hr hnm
  obtain ⟨zth, gr, x0, hS, hT, hH, hTx, x5, hok, h13, hst⟩ := id hX
  obtain ⟨ol, ff, hol, hj0, -⟩ := id hH
  obtain ⟨fsn, hsn0⟩ := hS.obj
  have hi := hok.1
  obtain ⟨⟨v0, v1, v2, v9, v10, v11, v12, v13, v21, v52, v61, v62, v63, v64, v65, v66⟩, hwi, hde⟩ := id hi
  refine k_iload_n C dX7_setHands_0 rfl ?_
  refine k_iconst C dX7_setHands_1 ?_
  refine k_sipush C dX7_setHands_2 (by decide +kernel) ?_
  refine k_callS C (n := 3) (as := [_, _, _]) (ct_X7_requireRange l D tc base _ _ _ _ ⟨by omega, by omega⟩ ⟨by omega, by omega⟩ ⟨by omega, by omega⟩) ml_X7_41 sm_X7_requireRange ini_X7 co_X7_requireRange ⟨by decide, by decide, by decide +kernel⟩ rfl ⟨by decide, by decide⟩ rfl (Nat.le_of_ble_eq_true rfl) ⟨Nat.zero_le _, Nat.zero_le _⟩ dX7_setHands_5 ?_
  rintro _ _ ⟨rfl, rfl⟩
  refine k_aload_n C dX7_setHands_8 rfl ?_
  refine k_get C (k := 2) inX7 (ci := 7) rfl (by decide) fl_X7_22 dX7_setHands_9 (by repeat (first | exact hs_eq _ _ _ | refine hs_ne (by omega) ?_ | assumption)) rfl ?_
  refine k_aload_n C dX7_setHands_12 rfl ?_
  refine k_get C (k := 0) inX7 (ci := 7) rfl (by decide) fl_X7_10 dX7_setHands_13 (by repeat (first | exact hs_eq _ _ _ | refine hs_ne (by omega) ?_ | assumption)) rfl ?_
  refine k_callV C (n := 1) (as := [_]) (ct_X1_keep l D tc base (rc + 31) (rc + 1) st hhi zrr _ hH hS hst (by omega) hok h13) ml_X7_45 im_X1_keep se_X1_keep ini_X1 co_X1_keep ⟨rfl, by decide, by decide, by decide +kernel⟩ rfl (ci := 1) rfl (by repeat (first | exact hs_eq _ _ _ | refine hs_ne (by omega) ?_ | assumption)) ⟨by decide, by decide⟩ rfl (Nat.le_of_ble_eq_true rfl) ⟨Nat.zero_le _, Nat.zero_le _⟩ dX7_setHands_16 ?_
  rintro _ hkp ⟨rfl, hHk, hFk⟩
  have hXk := hX.keep hFk hHk (sSt_rng hst)
  obtain ⟨zt1, gr1, x01, hS1, hT1, hH1, hTx1, x51, -, -, hst1⟩ := id hXk
  obtain ⟨f1, f2, f3, w1, w2, w3, w4, w5, d1, d2, se, ⟨g0, g1, g2, g3, g4, g5, g6, g7, g8, g9, g10, g11, g12, g13, g14⟩, hsr⟩ := id hS1
  obtain ⟨r1, r2, r3, r4⟩ := id hsr
  refine k_aload_n C dX7_setHands_19 rfl ?_
  refine k_get C (k := 0) inX7 (ci := 7) rfl (by decide) fl_X7_10 dX7_setHands_20 (by repeat (first | exact hs_eq _ _ _ | refine hs_ne (by omega) ?_ | assumption)) rfl ?_
  refine k_get C (k := 5) inX3 (ci := 3) rfl (by decide) fl_X7_83 dX7_setHands_23 (by repeat (first | exact hs_eq _ _ _ | refine hs_ne (by omega) ?_ | assumption)) rfl ?_
  refine k_istore_n C dX7_setHands_26 (by decide) rfl ?_
  refine k_aload_n C dX7_setHands_27 rfl ?_
  refine k_get C (k := 0) inX7 (ci := 7) rfl (by decide) fl_X7_10 dX7_setHands_28 (by repeat (first | exact hs_eq _ _ _ | refine hs_ne (by omega) ?_ | assumption)) rfl ?_
  refine k_iload_n C dX7_setHands_31 rfl ?_
  refine k_put C (k := 5) inX3 tyX3_ok nmX3 (ci := 3) rfl (by decide) fl_X7_83 rfl (Nat.le_of_ble_eq_true rfl) dX7_setHands_32 (by repeat (first | exact hs_eq _ _ _ | refine hs_ne (by omega) ?_ | assumption)) ?_
  refine k_iload_n C dX7_setHands_35 rfl ?_
  refine k_iret C hr dX7_setHands_36 ?_
  refine ⟨rfl, hXk.now (fun aaa haa => by repeat (first | rfl | refine hs_ne (by omega) ?_)) ?_ ?_ ?_, Fr.tr (hFk.wide (by omega) (by omega)) (Fr.wide (o := rc + 1) (n := 15) (fun aaa haa => by repeat (first | rfl | refine hs_ne (by omega) ?_)) (by omega) (by omega))⟩
  · refine ⟨f1, f2, f3, w1, w2, w3, w4, w5, d1, d2, se, ⟨by (try simp (disch := omega) only [iu_ne, iu_eq, zWind_ne, zTake_ne, zChim_ne, zChim_16]); repeat (first | exact hs_eq _ _ _ | refine hs_ne (by omega) ?_ | assumption), (by repeat (first | exact hs_eq _ _ _ | refine hs_ne (by omega) ?_ | assumption)), (by repeat (first | exact hs_eq _ _ _ | refine hs_ne (by omega) ?_ | assumption)), (by repeat (first | exact hs_eq _ _ _ | refine hs_ne (by omega) ?_ | assumption)), (by repeat (first | exact hs_eq _ _ _ | refine hs_ne (by omega) ?_ | assumption)), by (try simp (disch := omega) only [iu_ne, iu_eq, zWind_ne, zTake_ne, zChim_ne, zChim_16]); repeat (first | exact hs_eq _ _ _ | refine hs_ne (by omega) ?_ | assumption), (by repeat (first | exact hs_eq _ _ _ | refine hs_ne (by omega) ?_ | assumption)), (by repeat (first | exact hs_eq _ _ _ | refine hs_ne (by omega) ?_ | assumption)), (by repeat (first | exact hs_eq _ _ _ | refine hs_ne (by omega) ?_ | assumption)), (by repeat (first | exact hs_eq _ _ _ | refine hs_ne (by omega) ?_ | assumption)), (by repeat (first | exact hs_eq _ _ _ | refine hs_ne (by omega) ?_ | assumption)), by (try simp (disch := omega) only [iu_ne, iu_eq, zWind_ne, zTake_ne, zChim_ne, zChim_16]); repeat (first | exact hs_eq _ _ _ | refine hs_ne (by omega) ?_ | assumption), (by repeat (first | exact hs_eq _ _ _ | refine hs_ne (by omega) ?_ | assumption)), (by repeat (first | exact hs_eq _ _ _ | refine hs_ne (by omega) ?_ | assumption)), (by repeat (first | exact hs_eq _ _ _ | refine hs_ne (by omega) ?_ | assumption))⟩, ?_⟩
    exact hsr.free (by omega)
  · exact zOk_iu hok (zInv_10 hi ⟨by omega, by omega⟩) (by omega)
  · rw [iu_ne (by omega)]
    exact h13

set_option maxRecDepth 20000 in
set_option maxHeartbeats 1000000 in
theorem ct_X7_mend (l : Launch) (D : va_G) (tc : Nat → ClassId) (base : Nat) (rc : Nat) (zrr hhi htx : Int → Int) (st ln : Int) (hpp : AH) (hX : XA hpp rc zrr hhi htx st ln) : CT l D tc base yX7_mend cX7_mend 2 (some .int) 4 [aR rc] hpp (fun r h' => r = some (aI (zrr 12)) ∧ XA h' rc (iu zrr 12 0) (sHi zrr hhi st) (htx) (sSt st) (ln) ∧ Fr hpp h' rc 127) := by
  refine CT.of [some (aR rc), none] (by decide +kernel) rfl (Nat.le_of_ble_eq_true rfl) ?_
  intro p e s m args below meth c C hr hnm
  obtain ⟨zth, gr, x0, hS, hT, hH, hTx, x5, hok, h13, hst⟩ := id hX
  obtain ⟨ol, ff, hol, hj0, -⟩ := id hH
  obtain ⟨fsn, hsn0⟩ := hS.obj
  have hi := hok.1
  obtain ⟨⟨v0, v1, v2, v9, v10, v11, v12, v13, v21, v52, v61, v62, v63, v64, v65, v66⟩, hwi, hde⟩ := id hi
  refine k_aload_n C dX7_mend_0 rfl ?_
  refine k_get C (k := 2) inX7 (ci := 7) rfl (by decide) fl_X7_22 dX7_mend_1 (by repeat (first | exact hs_eq _ _ _ | refine hs_ne (by omega) ?_ | assumption)) rfl ?_
  refine k_aload_n C dX7_mend_4 rfl ?_
  refine k_get C (k := 0) inX7 (ci := 7) rfl (by decide) fl_X7_10 dX7_mend_5 (by repeat (first | exact hs_eq _ _ _ | refine hs_ne (by omega) ?_ | assumption)) rfl ?_
  refine k_callV C (n := 1) (as := [_]) (ct_X1_keep l D tc base (rc + 31) (rc + 1) st hhi zrr _ hH hS hst (by omega) hok h13) ml_X7_45 im_X1_keep se_X1_keep ini_X1 co_X1_keep ⟨rfl, by decide, by decide, by decide +kernel⟩ rfl (ci := 1) rfl (by repeat (first | exact hs_eq _ _ _ | refine hs_ne (by omega) ?_ | assumption)) ⟨by decide, by decide⟩ rfl (Nat.le_of_ble_eq_true rfl) ⟨Nat.zero_le _, Nat.zero_le _⟩ dX7_mend_8 ?_
  rintro _ hkp ⟨rfl, hHk, hFk⟩
  have hXk := hX.keep hFk hHk (sSt_rng hst)
  obtain ⟨zt1, gr1, x01, hS1, hT1, hH1, hTx1, x51, -, -, hst1⟩ := id hXk
  obtain ⟨f1, f2, f3, w1, w2, w3, w4, w5, d1, d2, se, ⟨g0, g1, g2, g3, g4, g5, g6, g7, g8, g9, g10, g11, g12, g13, g14⟩, hsr⟩ := id hS1
  obtain ⟨r1, r2, r3, r4⟩ := id hsr
  refine k_aload_n C dX7_mend_11 rfl ?_
  refine k_get C (k := 0) inX7 (ci := 7) rfl (by decide) fl_X7_10 dX7_mend_12 (by repeat (first | exact hs_eq _ _ _ | refine hs_ne (by omega) ?_ | assumption)) rfl ?_
  refine k_get C (k := 8) inX3 (ci := 3) rfl (by decide) fl_X7_86 dX7_mend_15 (by repeat (first | exact hs_eq _ _ _ | refine hs_ne (by omega) ?_ | assumption)) rfl ?_
  refine k_istore_n C dX7_mend_18 (by decide) rfl ?_
  refine k_aload_n C dX7_mend_19 rfl ?_
  refine k_get C (k := 0) inX7 (ci := 7) rfl (by decide) fl_X7_10 dX7_mend_20 (by repeat (first | exact hs_eq _ _ _ | refine hs_ne (by omega) ?_ | assumption)) rfl ?_
  refine k_iconst C dX7_mend_23 ?_
  refine k_put C (k := 8) inX3 tyX3_ok nmX3 (ci := 3) rfl (by decide) fl_X7_86 rfl (Nat.le_of_ble_eq_true rfl) dX7_mend_24 (by repeat (first | exact hs_eq _ _ _ | refine hs_ne (by omega) ?_ | assumption)) ?_
  refine k_iload_n C dX7_mend_27 rfl ?_
  refine k_iret C hr dX7_mend_28 ?_
  refine ⟨rfl, hXk.now (fun aaa haa => by repeat (first | rfl | refine hs_ne (by omega) ?_)) ?_ ?_ ?_, Fr.tr (hFk.wide (by omega) (by omega)) (Fr.wide (o := rc + 1) (n := 15) (fun aaa haa => by repeat (first | rfl | refine hs_ne (by omega) ?_)) (by omega) (by omega))⟩
  · refine ⟨f1, f2, f3, w1, w2, w3, w4, w5, d1, d2, se, ⟨by (try simp (disch := omega) only [iu_ne, iu_eq, zWind_ne, zTake_ne, zChim_ne, zChim_16]); repeat (first | exact hs_eq _ _ _ | refine hs_ne (by omega) ?_ | assumption), (by repeat (first | exact hs_eq _ _ _ | refine hs_ne (by omega) ?_ | assumption)), (by repeat (first | exact hs_eq _ _ _ | refine hs_ne (by omega) ?_ | assumption)), (by repeat (first | exact hs_eq _ _ _ | refine hs_ne (by omega) ?_ | assumption)), (by repeat (first | exact hs_eq _ _ _ | refine hs_ne (by omega) ?_ | assumption)), by (try simp (disch := omega) only [iu_ne, iu_eq, zWind_ne, zTake_ne, zChim_ne, zChim_16]); repeat (first | exact hs_eq _ _ _ | refine hs_ne (by omega) ?_ | assumption), (by repeat (first | exact hs_eq _ _ _ | refine hs_ne (by omega) ?_ | assumption)), (by repeat (first | exact hs_eq _ _ _ | refine hs_ne (by omega) ?_ | assumption)), (by repeat (first | exact hs_eq _ _ _ | refine hs_ne (by omega) ?_ | assumption)), (by repeat (first | exact hs_eq _ _ _ | refine hs_ne (by omega) ?_ | assumption)), (by repeat (first | exact hs_eq _ _ _ | refine hs_ne (by omega) ?_ | assumption)), by (try simp (disch := omega) only [iu_ne, iu_eq, zWind_ne, zTake_ne, zChim_ne, zChim_16]); repeat (first | exact hs_eq _ _ _ | refine hs_ne (by omega) ?_ | assumption), (by repeat (first | exact hs_eq _ _ _ | refine hs_ne (by omega) ?_ | assumption)), (by repeat (first | exact hs_eq _ _ _ | refine hs_ne (by omega) ?_ | assumption)), (by repeat (first | exact hs_eq _ _ _ | refine hs_ne (by omega) ?_ | assumption))⟩, ?_⟩
    exact hsr.free (by omega)
  · exact zOk_iu hok (zInv_11 hi (by omega) (by omega)) (by omega)
  · rw [iu_ne (by omega)]
    exact h13

set_option maxRecDepth 20000 in
set_option maxHeartbeats 1000000 in
theorem ct_X7_forgive (l : Launch) (D : va_G) (tc : Nat → ClassId) (base : Nat) (rc : Nat) (zrr hhi htx : Int → Int) (st ln : Int) (hpp : AH) (hX : XA hpp rc zrr hhi htx st ln) : CT l D tc base yX7_forgive cX7_forgive 2 (some .int) 4 [aR rc] hpp (fun r h' => r = some (aI (zOwed zrr)) ∧ XA h' rc (iu (iu zrr 15 (zrr 15 + zOwed zrr)) 52 0) (sHi zrr hhi st) (htx) (sSt st) (ln) ∧ Fr hpp h' rc 127) := by
  refine CT.of [some (aR rc), none] (by decide +kernel) rfl (Nat.le_of_ble_eq_true rfl) ?_
  intro p e s m args below meth c C hr hnm
  obtain ⟨zth, gr, x0, hS, hT, hH, hTx, x5, hok, h13, hst⟩ := id hX
  obtain ⟨ol, ff, hol, hj0, -⟩ := id hH
  obtain ⟨fsn, hsn0⟩ := hS.obj
  have hi := hok.1
  obtain ⟨⟨v0, v1, v2, v9, v10, v11, v12, v13, v21, v52, v61, v62, v63, v64, v65, v66⟩, hwi, hde⟩ := id hi
  refine k_aload_n C dX7_forgive_0 rfl ?_
  refine k_get C (k := 2) inX7 (ci := 7) rfl (by decide) fl_X7_22 dX7_forgive_1 (by repeat (first | exact hs_eq _ _ _ | refine hs_ne (by omega) ?_ | assumption)) rfl ?_
  refine k_aload_n C dX7_forgive_4 rfl ?_
  refine k_get C (k := 0) inX7 (ci := 7) rfl (by decide) fl_X7_10 dX7_forgive_5 (by repeat (first | exact hs_eq _ _ _ | refine hs_ne (by omega) ?_ | assumption)) rfl ?_
  refine k_callV C (n := 1) (as := [_]) (ct_X1_keep l D tc base (rc + 31) (rc + 1) st hhi zrr _ hH hS hst (by omega) hok h13) ml_X7_45 im_X1_keep se_X1_keep ini_X1 co_X1_keep ⟨rfl, by decide, by decide, by decide +kernel⟩ rfl (ci := 1) rfl (by repeat (first | exact hs_eq _ _ _ | refine hs_ne (by omega) ?_ | assumption)) ⟨by decide, by decide⟩ rfl (Nat.le_of_ble_eq_true rfl) ⟨Nat.zero_le _, Nat.zero_le _⟩ dX7_forgive_8 ?_
  rintro _ hkp ⟨rfl, hHk, hFk⟩
  have hXk := hX.keep hFk hHk (sSt_rng hst)
  obtain ⟨zt1, gr1, x01, hS1, hT1, hH1, hTx1, x51, -, -, hst1⟩ := id hXk
  obtain ⟨f1, f2, f3, w1, w2, w3, w4, w5, d1, d2, se, ⟨g0, g1, g2, g3, g4, g5, g6, g7, g8, g9, g10, g11, g12, g13, g14⟩, hsr⟩ := id hS1
  obtain ⟨r1, r2, r3, r4⟩ := id hsr
  refine k_aload_n C dX7_forgive_11 rfl ?_
  refine k_get C (k := 0) inX7 (ci := 7) rfl (by decide) fl_X7_10 dX7_forgive_12 (by repeat (first | exact hs_eq _ _ _ | refine hs_ne (by omega) ?_ | assumption)) rfl ?_
  refine k_get C (k := 2) inX3 (ci := 3) rfl (by decide) fl_X7_89 dX7_forgive_15 (by repeat (first | exact hs_eq _ _ _ | refine hs_ne (by omega) ?_ | assumption)) rfl ?_
  refine k_callV C (n := 0) (as := []) (ct_X0_owed l D tc base _ (rc + 1 + 11) d1 d2 (zrr 52) (by repeat (first | exact hs_eq _ _ _ | refine hs_ne (by omega) ?_ | assumption)) (by repeat (first | exact hs_eq _ _ _ | refine hs_ne (by omega) ?_ | assumption)) (by repeat (first | exact hs_eq _ _ _ | refine hs_ne (by omega) ?_ | assumption)) (zrr 52).toNat (by omega) (by omega)) ml_X7_93 im_X0_owed se_X0_owed ini_X0 co_X0_owed ⟨rfl, by decide, by decide, by decide +kernel⟩ rfl (ci := 0) rfl (by repeat (first | exact hs_eq _ _ _ | refine hs_ne (by omega) ?_ | assumption)) ⟨by decide, by decide⟩ rfl (Nat.le_of_ble_eq_true rfl) ⟨Nat.zero_le _, Nat.zero_le _⟩ dX7_forgive_18 ?_
  rintro _ _ ⟨rfl, rfl⟩
  have hsm : sN d2 (zrr 52).toNat = zOwed zrr := sN_owed (fun k h0 h1 => (r3 k h0 (by omega)).2)
  rw [hsm]
  refine k_istore_n C dX7_forgive_21 (by decide) rfl ?_
  refine k_aload_n C dX7_forgive_22 rfl ?_
  refine k_get C (k := 0) inX7 (ci := 7) rfl (by decide) fl_X7_10 dX7_forgive_23 (by repeat (first | exact hs_eq _ _ _ | refine hs_ne (by omega) ?_ | assumption)) rfl ?_
  refine k_get C (k := 2) inX3 (ci := 3) rfl (by decide) fl_X7_89 dX7_forgive_26 (by repeat (first | exact hs_eq _ _ _ | refine hs_ne (by omega) ?_ | assumption)) rfl ?_
  refine k_iconst C dX7_forgive_29 ?_
  refine k_put C (k := 0) inX0 tyX0_ok nmX0 (ci := 0) rfl (by decide) fl_X7_99 rfl (Nat.le_of_ble_eq_true rfl) dX7_forgive_30 (by repeat (first | exact hs_eq _ _ _ | refine hs_ne (by omega) ?_ | assumption)) ?_
  refine k_aload_n C dX7_forgive_33 rfl ?_
  refine k_get C (k := 0) inX7 (ci := 7) rfl (by decide) fl_X7_10 dX7_forgive_34 (by repeat (first | exact hs_eq _ _ _ | refine hs_ne (by omega) ?_ | assumption)) rfl ?_
  refine k_dup C dX7_forgive_37 rfl ?_
  refine k_get C (k := 10) inX3 (ci := 3) rfl (by decide) fl_X7_102 dX7_forgive_38 (by repeat (first | exact hs_eq _ _ _ | refine hs_ne (by omega) ?_ | assumption)) rfl ?_
  refine k_iload_n C dX7_forgive_41 rfl ?_
  refine k_iadd C dX7_forgive_42 ?_
  refine k_put C (k := 10) inX3 tyX3_ok nmX3 (ci := 3) rfl (by decide) fl_X7_102 rfl (Nat.le_of_ble_eq_true rfl) dX7_forgive_43 (by repeat (first | exact hs_eq _ _ _ | refine hs_ne (by omega) ?_ | assumption)) ?_
  refine k_iload_n C dX7_forgive_46 rfl ?_
  refine k_iret C hr dX7_forgive_47 ?_
  refine ⟨rfl, hXk.now (fun aaa haa => by repeat (first | rfl | refine hs_ne (by omega) ?_)) ?_ ?_ ?_, Fr.tr (hFk.wide (by omega) (by omega)) (Fr.wide (o := rc + 1) (n := 15) (fun aaa haa => by repeat (first | rfl | refine hs_ne (by omega) ?_)) (by omega) (by omega))⟩
  · refine ⟨f1, f2, f3, w1, w2, w3, w4, w5, d1, d2, se, ⟨by (try simp (disch := omega) only [iu_ne, iu_eq, zWind_ne, zTake_ne, zChim_ne, zChim_16]); repeat (first | exact hs_eq _ _ _ | refine hs_ne (by omega) ?_ | assumption), (by repeat (first | exact hs_eq _ _ _ | refine hs_ne (by omega) ?_ | assumption)), (by repeat (first | exact hs_eq _ _ _ | refine hs_ne (by omega) ?_ | assumption)), (by repeat (first | exact hs_eq _ _ _ | refine hs_ne (by omega) ?_ | assumption)), (by repeat (first | exact hs_eq _ _ _ | refine hs_ne (by omega) ?_ | assumption)), by (try simp (disch := omega) only [iu_ne, iu_eq, zWind_ne, zTake_ne, zChim_ne, zChim_16]); repeat (first | exact hs_eq _ _ _ | refine hs_ne (by omega) ?_ | assumption), (by repeat (first | exact hs_eq _ _ _ | refine hs_ne (by omega) ?_ | assumption)), (by repeat (first | exact hs_eq _ _ _ | refine hs_ne (by omega) ?_ | assumption)), (by repeat (first | exact hs_eq _ _ _ | refine hs_ne (by omega) ?_ | assumption)), (by repeat (first | exact hs_eq _ _ _ | refine hs_ne (by omega) ?_ | assumption)), (by repeat (first | exact hs_eq _ _ _ | refine hs_ne (by omega) ?_ | assumption)), by (try simp (disch := omega) only [iu_ne, iu_eq, zWind_ne, zTake_ne, zChim_ne, zChim_16]); repeat (first | exact hs_eq _ _ _ | refine hs_ne (by omega) ?_ | assumption), (by repeat (first | exact hs_eq _ _ _ | refine hs_ne (by omega) ?_ | assumption)), (by repeat (first | exact hs_eq _ _ _ | refine hs_ne (by omega) ?_ | assumption)), (by repeat (first | exact hs_eq _ _ _ | refine hs_ne (by omega) ?_ | assumption))⟩, ?_⟩
    exact (hsr.free (by omega)).none (by rw [iu_ne (by omega)]; omega)
  · exact zOk_iu (zOk_iu hok (zInv_free hi (by omega)) (by omega)) (zInv_forgive (zInv_free hi (by omega))) (by omega)
  · rw [iu_ne (by omega), iu_ne (by omega)]
    exact h13

set_option maxRecDepth 20000 in
set_option maxHeartbeats 1000000 in
theorem ct_X7_hire (l : Launch) (D : va_G) (tc : Nat → ClassId) (base : Nat) (rc : Nat) (zrr hhi htx : Int → Int) (st ln : Int) (hpp : AH) (hX : XA hpp rc zrr hhi htx st ln) (ww tt pd : Int) (hw : 0 ≤ ww ∧ ww ≤ 2) (ht : 1 ≤ tt ∧ tt ≤ 200) (hp : 1 ≤ pd ∧ pd ≤ 720) (h6 : zrr 21 < 6) : CT l D tc base yX7_hire cX7_hire 4 (some .int) 4 [aR rc, aI ww, aI tt, aI pd] hpp (fun r h' => r = some (aI (zrr 21)) ∧ XA h' rc (zComes zrr ww tt pd) (sHi zrr hhi st) (htx) (sSt st) (ln) ∧ Fr hpp h' rc 127) := by
  refine CT.of [some (aR rc), some (aI ww), some (aI tt), some (aI pd)] (by decide +kernel) rfl (Nat.le_of_ble_eq_true rfl) ?_
  intro p e s m args below meth c C hr hnm
  obtain ⟨zth, gr, x0, hS, hT, hH, hTx, x5, hok, h13, hst⟩ := id hX
  obtain ⟨ol, ff, hol, hj0, -⟩ := id hH
  obtain ⟨fsn, hsn0⟩ := hS.obj
  have hi := hok.1
  obtain ⟨⟨v0, v1, v2, v9, v10, v11, v12, v13, v21, v52, v61, v62, v63, v64, v65, v66⟩, hwi, hde⟩ := id hi
  obtain ⟨f1, f2, f3, w1, w2, w3, w4, w5, d1, d2, se, ⟨g0, g1, g2, g3, g4, g5, g6, g7, g8, g9, g10, g11, g12, g13, g14⟩, hsr⟩ := id hS
  obtain ⟨r1, r2, r3, r4⟩ := id hsr
  refine k_iload_n C dX7_hire_0 rfl ?_
  refine k_callS C (n := 1) (as := [_]) (ct_X7_requireWeight l D tc base _ _ ⟨by omega, by omega⟩) ml_X7_37 sm_X7_requireWeight ini_X7 co_X7_requireWeight ⟨by decide, by decide, by decide +kernel⟩ rfl ⟨by decide, by decide⟩ rfl (Nat.le_of_ble_eq_true rfl) ⟨Nat.zero_le _, Nat.zero_le _⟩ dX7_hire_1 ?_
  rintro _ _ ⟨rfl, rfl⟩
  refine k_iload_n C dX7_hire_4 rfl ?_
  refine k_iconst C dX7_hire_5 ?_
  refine k_sipush C dX7_hire_6 (by decide +kernel) ?_
  refine k_callS C (n := 3) (as := [_, _, _]) (ct_X7_requireRange l D tc base _ _ _ _ ⟨by omega, by omega⟩ ⟨by omega, by omega⟩ ⟨by omega, by omega⟩) ml_X7_41 sm_X7_requireRange ini_X7 co_X7_requireRange ⟨by decide, by decide, by decide +kernel⟩ rfl ⟨by decide, by decide⟩ rfl (Nat.le_of_ble_eq_true rfl) ⟨Nat.zero_le _, Nat.zero_le _⟩ dX7_hire_9 ?_
  rintro _ _ ⟨rfl, rfl⟩
  refine k_iload_n C dX7_hire_12 rfl ?_
  refine k_iconst C dX7_hire_13 ?_
  refine k_sipush C dX7_hire_14 (by decide +kernel) ?_
  refine k_callS C (n := 3) (as := [_, _, _]) (ct_X7_requireRange l D tc base _ _ _ _ ⟨by omega, by omega⟩ ⟨by omega, by omega⟩ ⟨by omega, by omega⟩) ml_X7_41 sm_X7_requireRange ini_X7 co_X7_requireRange ⟨by decide, by decide, by decide +kernel⟩ rfl ⟨by decide, by decide⟩ rfl (Nat.le_of_ble_eq_true rfl) ⟨Nat.zero_le _, Nat.zero_le _⟩ dX7_hire_17 ?_
  rintro _ _ ⟨rfl, rfl⟩
  refine k_aload_n C dX7_hire_20 rfl ?_
  refine k_get C (k := 0) inX7 (ci := 7) rfl (by decide) fl_X7_10 dX7_hire_21 (by repeat (first | exact hs_eq _ _ _ | refine hs_ne (by omega) ?_ | assumption)) rfl ?_
  refine k_get C (k := 1) inX3 (ci := 3) rfl (by decide) fl_X7_105 dX7_hire_24 (by repeat (first | exact hs_eq _ _ _ | refine hs_ne (by omega) ?_ | assumption)) rfl ?_
  refine k_get C (k := 0) inX6 (ci := 6) rfl (by decide) fl_X7_109 dX7_hire_27 (by repeat (first | exact hs_eq _ _ _ | refine hs_ne (by omega) ?_ | assumption)) rfl ?_
  refine k_bipush C dX7_hire_30 (by decide +kernel) ?_
  refine k_icmp_lt (tgt := 45) C dX7_hire_32 (by decide) ⟨by omega, by omega⟩ ⟨by omega, by omega⟩ (fun c32 => ?_) (fun c32 => ?_)
  · try (exfalso; omega)
    all_goals (
      refine k_aload_n C dX7_hire_45 rfl ?_
      refine k_get C (k := 2) inX7 (ci := 7) rfl (by decide) fl_X7_22 dX7_hire_46 (by repeat (first | exact hs_eq _ _ _ | refine hs_ne (by omega) ?_ | assumption)) rfl ?_
      refine k_aload_n C dX7_hire_49 rfl ?_
      refine k_get C (k := 0) inX7 (ci := 7) rfl (by decide) fl_X7_10 dX7_hire_50 (by repeat (first | exact hs_eq _ _ _ | refine hs_ne (by omega) ?_ | assumption)) rfl ?_
      refine k_callV C (n := 1) (as := [_]) (ct_X1_keep l D tc base (rc + 31) (rc + 1) st hhi zrr _ hH hS hst (by omega) hok h13) ml_X7_45 im_X1_keep se_X1_keep ini_X1 co_X1_keep ⟨rfl, by decide, by decide, by decide +kernel⟩ rfl (ci := 1) rfl (by repeat (first | exact hs_eq _ _ _ | refine hs_ne (by omega) ?_ | assumption)) ⟨by decide, by decide⟩ rfl (Nat.le_of_ble_eq_true rfl) ⟨Nat.zero_le _, Nat.zero_le _⟩ dX7_hire_53 ?_
      rintro _ hkp ⟨rfl, hHk, hFk⟩
      have hXk := hX.keep hFk hHk (sSt_rng hst)
      obtain ⟨zt1, gr1, x01, hS1, hT1, hH1, hTx1, x51, -, -, hst1⟩ := id hXk
      obtain ⟨f1, f2, f3, w1, w2, w3, w4, w5, d1, d2, se, ⟨g0, g1, g2, g3, g4, g5, g6, g7, g8, g9, g10, g11, g12, g13, g14⟩, hsr⟩ := id hS1
      obtain ⟨r1, r2, r3, r4⟩ := id hsr
      refine k_aload_n C dX7_hire_56 rfl ?_
      refine k_get C (k := 0) inX7 (ci := 7) rfl (by decide) fl_X7_10 dX7_hire_57 (by repeat (first | exact hs_eq _ _ _ | refine hs_ne (by omega) ?_ | assumption)) rfl ?_
      refine k_get C (k := 1) inX3 (ci := 3) rfl (by decide) fl_X7_105 dX7_hire_60 (by repeat (first | exact hs_eq _ _ _ | refine hs_ne (by omega) ?_ | assumption)) rfl ?_
      refine k_iload_n C dX7_hire_63 rfl ?_
      refine k_iload_n C dX7_hire_64 rfl ?_
      refine k_iload_n C dX7_hire_65 rfl ?_
      refine k_aload_n C dX7_hire_66 rfl ?_
      refine k_get C (k := 0) inX7 (ci := 7) rfl (by decide) fl_X7_10 dX7_hire_67 (by repeat (first | exact hs_eq _ _ _ | refine hs_ne (by omega) ?_ | assumption)) rfl ?_
      refine k_get C (k := 4) inX3 (ci := 3) rfl (by decide) fl_X7_119 dX7_hire_70 (by repeat (first | exact hs_eq _ _ _ | refine hs_ne (by omega) ?_ | assumption)) rfl ?_
      refine k_iload_n C dX7_hire_73 rfl ?_
      refine k_iadd C dX7_hire_74 ?_
      refine k_callV C (n := 4) (as := [_, _, _, _]) (ct_X6_add l D tc base _ (rc + 1 + 5) w1 w2 w3 w4 w5 (zrr 21) (by repeat (first | exact hs_eq _ _ _ | refine hs_ne (by omega) ?_ | assumption)) (by repeat (first | exact hs_eq _ _ _ | refine hs_ne (by omega) ?_ | assumption)) (by repeat (first | exact hs_eq _ _ _ | refine hs_ne (by omega) ?_ | assumption)) (by repeat (first | exact hs_eq _ _ _ | refine hs_ne (by omega) ?_ | assumption)) (by repeat (first | exact hs_eq _ _ _ | refine hs_ne (by omega) ?_ | assumption)) (by repeat (first | exact hs_eq _ _ _ | refine hs_ne (by omega) ?_ | assumption)) _ _ _ _ (by omega) (by omega)) ml_X7_122 im_X6_add se_X6_add ini_X6 co_X6_add ⟨rfl, by decide, by decide, by decide +kernel⟩ rfl (ci := 6) rfl (by repeat (first | exact hs_eq _ _ _ | refine hs_ne (by omega) ?_ | assumption)) ⟨by decide, by decide⟩ rfl (Nat.le_of_ble_eq_true rfl) ⟨Nat.zero_le _, Nat.zero_le _⟩ dX7_hire_75 ?_
      rintro _ _ ⟨rfl, rfl⟩
      refine k_aload_n C dX7_hire_78 rfl ?_
      refine k_get C (k := 0) inX7 (ci := 7) rfl (by decide) fl_X7_10 dX7_hire_79 (by repeat (first | exact hs_eq _ _ _ | refine hs_ne (by omega) ?_ | assumption)) rfl ?_
      refine k_get C (k := 1) inX3 (ci := 3) rfl (by decide) fl_X7_105 dX7_hire_82 (by repeat (first | exact hs_eq _ _ _ | refine hs_ne (by omega) ?_ | assumption)) rfl ?_
      refine k_get C (k := 0) inX6 (ci := 6) rfl (by decide) fl_X7_109 dX7_hire_85 (by repeat (first | exact hs_eq _ _ _ | refine hs_ne (by omega) ?_ | assumption)) rfl ?_
      refine k_iconst C dX7_hire_88 ?_
      refine k_isub C dX7_hire_89 ?_
      refine k_iret C hr dX7_hire_90 ?_
      refine ⟨congrArg (fun qq => some (aI qq)) (by omega), hXk.now (fun aaa haa => by repeat (first | rfl | refine hs_ne (by omega) ?_)) ?_ ?_ ?_, Fr.tr (hFk.wide (by omega) (by omega)) (Fr.wide (o := rc + 1) (n := 15) (fun aaa haa => by repeat (first | rfl | refine hs_ne (by omega) ?_)) (by omega) (by omega))⟩
      · refine ⟨f1, f2, f3, _, _, _, _, _, d1, d2, se, ⟨by (try simp (disch := omega) only [iu_ne, iu_eq, zWind_ne, zTake_ne, zChim_ne, zChim_16, zComes]); repeat (first | exact hs_eq _ _ _ | refine hs_ne (by omega) ?_ | assumption), (by repeat (first | exact hs_eq _ _ _ | refine hs_ne (by omega) ?_ | assumption)), (by repeat (first | exact hs_eq _ _ _ | refine hs_ne (by omega) ?_ | assumption)), (by repeat (first | exact hs_eq _ _ _ | refine hs_ne (by omega) ?_ | assumption)), (by repeat (first | exact hs_eq _ _ _ | refine hs_ne (by omega) ?_ | assumption)), by (try simp (disch := omega) only [iu_ne, iu_eq, zWind_ne, zTake_ne, zChim_ne, zChim_16, zComes]); repeat (first | exact hs_eq _ _ _ | refine hs_ne (by omega) ?_ | assumption), (by repeat (first | exact hs_eq _ _ _ | refine hs_ne (by omega) ?_ | assumption)), (by repeat (first | exact hs_eq _ _ _ | refine hs_ne (by omega) ?_ | assumption)), (by repeat (first | exact hs_eq _ _ _ | refine hs_ne (by omega) ?_ | assumption)), (by repeat (first | exact hs_eq _ _ _ | refine hs_ne (by omega) ?_ | assumption)), (by repeat (first | exact hs_eq _ _ _ | refine hs_ne (by omega) ?_ | assumption)), by (try simp (disch := omega) only [iu_ne, iu_eq, zWind_ne, zTake_ne, zChim_ne, zChim_16, zComes]); repeat (first | exact hs_eq _ _ _ | refine hs_ne (by omega) ?_ | assumption), (by repeat (first | exact hs_eq _ _ _ | refine hs_ne (by omega) ?_ | assumption)), (by repeat (first | exact hs_eq _ _ _ | refine hs_ne (by omega) ?_ | assumption)), (by repeat (first | exact hs_eq _ _ _ | refine hs_ne (by omega) ?_ | assumption))⟩, ?_⟩
        exact hsr.comes (by omega) (by omega)
      · exact zOk_of hok (zInv_comes hi h6 hw ht hp) (zComes_ne (by omega) (by omega)) (zComes_ne (by omega) (by omega)) (zComes_ne (by omega) (by omega))
      · rw [zComes_ne (by omega) (by omega)]
        exact h13)
  · try (exfalso; omega)
    all_goals (
      exfalso
      omega)

set_option maxRecDepth 20000 in
set_option maxHeartbeats 1000000 in
theorem ct_X7_dismiss (l : Launch) (D : va_G) (tc : Nat → ClassId) (base : Nat) (rc : Nat) (zrr hhi htx : Int → Int) (st ln : Int) (hpp : AH) (hX : XA hpp rc zrr hhi htx st ln) (ww : Int) (hw : 0 ≤ ww ∧ ww < zrr 21) : CT l D tc base yX7_dismiss cX7_dismiss 2 (some .int) 4 [aR rc, aI ww] hpp (fun r h' => r = some (aI (zrr 21 - 1)) ∧ XA h' rc (zDisK zrr (zrr 21 - 1) (22 + 5 * ww) (22 + 5 * (zrr 21 - 1))) (sHi zrr hhi st) (htx) (sSt st) (ln) ∧ Fr hpp h' rc 127) := by
  refine CT.of [some (aR rc), some (aI ww)] (by decide +kernel) rfl (Nat.le_of_ble_eq_true rfl) ?_
  intro p e s m args below meth c C hr hnm
  obtain ⟨zth, gr, x0, hS, hT, hH, hTx, x5, hok, h13, hst⟩ := id hX
  obtain ⟨ol, ff, hol, hj0, -⟩ := id hH
  obtain ⟨fsn, hsn0⟩ := hS.obj
  have hi := hok.1
  obtain ⟨⟨v0, v1, v2, v9, v10, v11, v12, v13, v21, v52, v61, v62, v63, v64, v65, v66⟩, hwi, hde⟩ := id hi
  refine k_aload_n C dX7_dismiss_0 rfl ?_
  refine k_iload_n C dX7_dismiss_1 rfl ?_
  refine k_callV C (n := 1) (as := [_]) (ct_X7_requireWinder l D tc base rc zrr hhi htx st ln _ hX _ hw) ml_X7_126 im_X7_requireWinder se_X7_requireWinder ini_X7 co_X7_requireWinder ⟨rfl, by decide, by decide, by decide +kernel⟩ rfl (ci := 7) rfl (by repeat (first | exact hs_eq _ _ _ | refine hs_ne (by omega) ?_ | assumption)) ⟨by decide, by decide⟩ rfl (Nat.le_of_ble_eq_true rfl) ⟨Nat.zero_le _, Nat.zero_le _⟩ dX7_dismiss_2 ?_
  rintro _ _ ⟨rfl, rfl⟩
  refine k_aload_n C dX7_dismiss_5 rfl ?_
  refine k_get C (k := 2) inX7 (ci := 7) rfl (by decide) fl_X7_22 dX7_dismiss_6 (by repeat (first | exact hs_eq _ _ _ | refine hs_ne (by omega) ?_ | assumption)) rfl ?_
  refine k_aload_n C dX7_dismiss_9 rfl ?_
  refine k_get C (k := 0) inX7 (ci := 7) rfl (by decide) fl_X7_10 dX7_dismiss_10 (by repeat (first | exact hs_eq _ _ _ | refine hs_ne (by omega) ?_ | assumption)) rfl ?_
  refine k_callV C (n := 1) (as := [_]) (ct_X1_keep l D tc base (rc + 31) (rc + 1) st hhi zrr _ hH hS hst (by omega) hok h13) ml_X7_45 im_X1_keep se_X1_keep ini_X1 co_X1_keep ⟨rfl, by decide, by decide, by decide +kernel⟩ rfl (ci := 1) rfl (by repeat (first | exact hs_eq _ _ _ | refine hs_ne (by omega) ?_ | assumption)) ⟨by decide, by decide⟩ rfl (Nat.le_of_ble_eq_true rfl) ⟨Nat.zero_le _, Nat.zero_le _⟩ dX7_dismiss_13 ?_
  rintro _ hkp ⟨rfl, hHk, hFk⟩
  have hXk := hX.keep hFk hHk (sSt_rng hst)
  obtain ⟨zt1, gr1, x01, hS1, hT1, hH1, hTx1, x51, -, -, hst1⟩ := id hXk
  obtain ⟨f1, f2, f3, w1, w2, w3, w4, w5, d1, d2, se, ⟨g0, g1, g2, g3, g4, g5, g6, g7, g8, g9, g10, g11, g12, g13, g14⟩, hsr⟩ := id hS1
  obtain ⟨r1, r2, r3, r4⟩ := id hsr
  refine k_aload_n C dX7_dismiss_16 rfl ?_
  refine k_get C (k := 0) inX7 (ci := 7) rfl (by decide) fl_X7_10 dX7_dismiss_17 (by repeat (first | exact hs_eq _ _ _ | refine hs_ne (by omega) ?_ | assumption)) rfl ?_
  refine k_get C (k := 1) inX3 (ci := 3) rfl (by decide) fl_X7_105 dX7_dismiss_20 (by repeat (first | exact hs_eq _ _ _ | refine hs_ne (by omega) ?_ | assumption)) rfl ?_
  refine k_iload_n C dX7_dismiss_23 rfl ?_
  refine k_callV C (n := 1) (as := [_]) (ct_X6_remove l D tc base _ (rc + 1 + 5) w1 w2 w3 w4 w5 (zrr 21) (by repeat (first | exact hs_eq _ _ _ | refine hs_ne (by omega) ?_ | assumption)) (by repeat (first | exact hs_eq _ _ _ | refine hs_ne (by omega) ?_ | assumption)) (by repeat (first | exact hs_eq _ _ _ | refine hs_ne (by omega) ?_ | assumption)) (by repeat (first | exact hs_eq _ _ _ | refine hs_ne (by omega) ?_ | assumption)) (by repeat (first | exact hs_eq _ _ _ | refine hs_ne (by omega) ?_ | assumption)) (by repeat (first | exact hs_eq _ _ _ | refine hs_ne (by omega) ?_ | assumption)) _ (by omega) (by omega) (by omega)) ml_X7_129 im_X6_remove se_X6_remove ini_X6 co_X6_remove ⟨rfl, by decide, by decide, by decide +kernel⟩ rfl (ci := 6) rfl (by repeat (first | exact hs_eq _ _ _ | refine hs_ne (by omega) ?_ | assumption)) ⟨by decide, by decide⟩ rfl (Nat.le_of_ble_eq_true rfl) ⟨Nat.zero_le _, Nat.zero_le _⟩ dX7_dismiss_24 ?_
  rintro _ _ ⟨rfl, F1, F2, F3, F4, F5, hF, rfl⟩
  refine k_aload_n C dX7_dismiss_27 rfl ?_
  refine k_get C (k := 0) inX7 (ci := 7) rfl (by decide) fl_X7_10 dX7_dismiss_28 (by repeat (first | exact hs_eq _ _ _ | refine hs_ne (by omega) ?_ | assumption)) rfl ?_
  refine k_get C (k := 1) inX3 (ci := 3) rfl (by decide) fl_X7_105 dX7_dismiss_31 (by repeat (first | exact hs_eq _ _ _ | refine hs_ne (by omega) ?_ | assumption)) rfl ?_
  refine k_get C (k := 0) inX6 (ci := 6) rfl (by decide) fl_X7_109 dX7_dismiss_34 (by repeat (first | exact hs_eq _ _ _ | refine hs_ne (by omega) ?_ | assumption)) rfl ?_
  refine k_iret C hr dX7_dismiss_37 ?_
  refine ⟨rfl, hXk.now (fun aaa haa => by repeat (first | rfl | refine hs_ne (by omega) ?_)) ?_ ?_ ?_, Fr.tr (hFk.wide (by omega) (by omega)) (Fr.wide (o := rc + 1) (n := 15) (fun aaa haa => by repeat (first | rfl | refine hs_ne (by omega) ?_)) (by omega) (by omega))⟩
  · refine ⟨f1, f2, f3, _, _, _, _, _, d1, d2, se, ⟨by (try simp (disch := omega) only [iu_ne, iu_eq, zWind_ne, zTake_ne, zChim_ne, zChim_16, zDisK_ne, zDisK_21]); repeat (first | exact hs_eq _ _ _ | refine hs_ne (by omega) ?_ | assumption), (by repeat (first | exact hs_eq _ _ _ | refine hs_ne (by omega) ?_ | assumption)), (by repeat (first | exact hs_eq _ _ _ | refine hs_ne (by omega) ?_ | assumption)), (by repeat (first | exact hs_eq _ _ _ | refine hs_ne (by omega) ?_ | assumption)), (by repeat (first | exact hs_eq _ _ _ | refine hs_ne (by omega) ?_ | assumption)), by (try simp (disch := omega) only [iu_ne, iu_eq, zWind_ne, zTake_ne, zChim_ne, zChim_16, zDisK_ne, zDisK_21]); repeat (first | exact hs_eq _ _ _ | refine hs_ne (by omega) ?_ | assumption), (by repeat (first | exact hs_eq _ _ _ | refine hs_ne (by omega) ?_ | assumption)), (by repeat (first | exact hs_eq _ _ _ | refine hs_ne (by omega) ?_ | assumption)), (by repeat (first | exact hs_eq _ _ _ | refine hs_ne (by omega) ?_ | assumption)), (by repeat (first | exact hs_eq _ _ _ | refine hs_ne (by omega) ?_ | assumption)), (by repeat (first | exact hs_eq _ _ _ | refine hs_ne (by omega) ?_ | assumption)), by (try simp (disch := omega) only [iu_ne, iu_eq, zWind_ne, zTake_ne, zChim_ne, zChim_16, zDisK_ne, zDisK_21]); repeat (first | exact hs_eq _ _ _ | refine hs_ne (by omega) ?_ | assumption), (by repeat (first | exact hs_eq _ _ _ | refine hs_ne (by omega) ?_ | assumption)), (by repeat (first | exact hs_eq _ _ _ | refine hs_ne (by omega) ?_ | assumption)), (by repeat (first | exact hs_eq _ _ _ | refine hs_ne (by omega) ?_ | assumption))⟩, ?_⟩
    exact hsr.dis hw (by omega) hF
  · exact zOk_of hok (zInv_dis hi hw) (zDisK_ne (by omega) (by omega)) (zDisK_ne (by omega) (by omega)) (zDisK_ne (by omega) (by omega))
  · rw [zDisK_ne (by omega) (by omega)]
    exact h13

set_option maxRecDepth 20000 in
set_option maxHeartbeats 1000000 in
theorem ct_X7_pass (l : Launch) (D : va_G) (tc : Nat → ClassId) (base : Nat) (rc : Nat) (zrr hhi htx : Int → Int) (st ln : Int) (hpp : AH) (hX : XA hpp rc zrr hhi htx st ln) (nn : Nat) (hn : 1 ≤ nn ∧ nn ≤ 720) (hm : zrr 13 + nn ≤ 20000) : CT l D tc base yX7_pass cX7_pass 3 (some .int) 6 [aR rc, aI nn] hpp (fun r h' => r = some (aI (zGo zrr nn 14 - zrr 14)) ∧ XA h' rc (zGo zrr nn) (sHi zrr hhi st) (htx) (sSt st) (ln) ∧ Fr hpp h' rc 127) := by
  refine CT.of [some (aR rc), some (aI nn), none] (by decide +kernel) rfl (Nat.le_of_ble_eq_true rfl) ?_
  intro p e s m args below meth c C hr hnm
  obtain ⟨zth, gr, x0, hS, hT, hH, hTx, x5, hok, h13, hst⟩ := id hX
  obtain ⟨ol, ff, hol, hj0, -⟩ := id hH
  obtain ⟨fsn, hsn0⟩ := hS.obj
  have hi := hok.1
  obtain ⟨⟨v0, v1, v2, v9, v10, v11, v12, v13, v21, v52, v61, v62, v63, v64, v65, v66⟩, hwi, hde⟩ := id hi
  obtain ⟨f1, f2, f3, w1, w2, w3, w4, w5, d1, d2, se, ⟨g0, g1, g2, g3, g4, g5, g6, g7, g8, g9, g10, g11, g12, g13, g14⟩, hsr⟩ := id hS
  obtain ⟨r1, r2, r3, r4⟩ := id hsr
  refine k_iload_n C dX7_pass_0 rfl ?_
  refine k_iconst C dX7_pass_1 ?_
  refine k_sipush C dX7_pass_2 (by decide +kernel) ?_
  refine k_callS C (n := 3) (as := [_, _, _]) (ct_X7_requireRange l D tc base _ _ _ _ ⟨by omega, by omega⟩ ⟨by omega, by omega⟩ ⟨by omega, by omega⟩) ml_X7_41 sm_X7_requireRange ini_X7 co_X7_requireRange ⟨by decide, by decide, by decide +kernel⟩ rfl ⟨by decide, by decide⟩ rfl (Nat.le_of_ble_eq_true rfl) ⟨Nat.zero_le _, Nat.zero_le _⟩ dX7_pass_5 ?_
  rintro _ _ ⟨rfl, rfl⟩
  refine k_aload_n C dX7_pass_8 rfl ?_
  refine k_get C (k := 0) inX7 (ci := 7) rfl (by decide) fl_X7_10 dX7_pass_9 (by repeat (first | exact hs_eq _ _ _ | refine hs_ne (by omega) ?_ | assumption)) rfl ?_
  refine k_get C (k := 4) inX3 (ci := 3) rfl (by decide) fl_X7_119 dX7_pass_12 (by repeat (first | exact hs_eq _ _ _ | refine hs_ne (by omega) ?_ | assumption)) rfl ?_
  refine k_iload_n C dX7_pass_15 rfl ?_
  refine k_iadd C dX7_pass_16 ?_
  refine k_sipush C dX7_pass_17 (by decide +kernel) ?_
  refine k_icmp_le (tgt := 33) C dX7_pass_20 (by decide) ⟨by omega, by omega⟩ ⟨by omega, by omega⟩ (fun c20 => ?_) (fun c20 => ?_)
  · try (exfalso; omega)
    all_goals (
      refine k_aload_n C dX7_pass_33 rfl ?_
      refine k_get C (k := 2) inX7 (ci := 7) rfl (by decide) fl_X7_22 dX7_pass_34 (by repeat (first | exact hs_eq _ _ _ | refine hs_ne (by omega) ?_ | assumption)) rfl ?_
      refine k_aload_n C dX7_pass_37 rfl ?_
      refine k_get C (k := 0) inX7 (ci := 7) rfl (by decide) fl_X7_10 dX7_pass_38 (by repeat (first | exact hs_eq _ _ _ | refine hs_ne (by omega) ?_ | assumption)) rfl ?_
      refine k_callV C (n := 1) (as := [_]) (ct_X1_keep l D tc base (rc + 31) (rc + 1) st hhi zrr _ hH hS hst (by omega) hok h13) ml_X7_45 im_X1_keep se_X1_keep ini_X1 co_X1_keep ⟨rfl, by decide, by decide, by decide +kernel⟩ rfl (ci := 1) rfl (by repeat (first | exact hs_eq _ _ _ | refine hs_ne (by omega) ?_ | assumption)) ⟨by decide, by decide⟩ rfl (Nat.le_of_ble_eq_true rfl) ⟨Nat.zero_le _, Nat.zero_le _⟩ dX7_pass_41 ?_
      rintro _ hkp ⟨rfl, hHk, hFk⟩
      have hXk := hX.keep hFk hHk (sSt_rng hst)
      obtain ⟨zt1, gr1, x01, hS1, hT1, hH1, hTx1, x51, -, -, hst1⟩ := id hXk
      obtain ⟨f1, f2, f3, w1, w2, w3, w4, w5, d1, d2, se, ⟨g0, g1, g2, g3, g4, g5, g6, g7, g8, g9, g10, g11, g12, g13, g14⟩, hsr⟩ := id hS1
      obtain ⟨r1, r2, r3, r4⟩ := id hsr
      refine k_aload_n C dX7_pass_44 rfl ?_
      refine k_get C (k := 0) inX7 (ci := 7) rfl (by decide) fl_X7_10 dX7_pass_45 (by repeat (first | exact hs_eq _ _ _ | refine hs_ne (by omega) ?_ | assumption)) rfl ?_
      refine k_get C (k := 9) inX3 (ci := 3) rfl (by decide) fl_X7_134 dX7_pass_48 (by repeat (first | exact hs_eq _ _ _ | refine hs_ne (by omega) ?_ | assumption)) rfl ?_
      refine k_istore_n C dX7_pass_51 (by decide) rfl ?_
      refine k_aload_n C dX7_pass_52 rfl ?_
      refine k_get C (k := 0) inX7 (ci := 7) rfl (by decide) fl_X7_10 dX7_pass_53 (by repeat (first | exact hs_eq _ _ _ | refine hs_ne (by omega) ?_ | assumption)) rfl ?_
      refine k_iload_n C dX7_pass_56 rfl ?_
      refine k_callV C (n := 1) (as := [_]) (ct_X3_passMinutes l D tc base (rc + 1) zrr _ hS1 hi hok.2 nn (by omega)) ml_X7_137 im_X3_passMinutes se_X3_passMinutes ini_X3 co_X3_passMinutes ⟨rfl, by decide, by decide, by decide +kernel⟩ rfl (ci := 3) rfl (by repeat (first | exact hs_eq _ _ _ | refine hs_ne (by omega) ?_ | assumption)) ⟨by decide, by decide⟩ rfl (Nat.le_of_ble_eq_true rfl) ⟨Nat.zero_le _, Nat.zero_le _⟩ dX7_pass_57 ?_
      rintro _ hpm ⟨rfl, hSp, hFp⟩
      have hzg := zOk_go hok nn
      have hXp := hXk.now hFp hSp hzg.1 (by omega)
      have x02 := (hFp rc (by omega)).trans x01
      obtain ⟨f1, f2, f3, w1, w2, w3, w4, w5, d1, d2, se, ⟨g0, g1, g2, g3, g4, g5, g6, g7, g8, g9, g10, g11, g12, g13, g14⟩, hsr⟩ := id hSp
      obtain ⟨r1, r2, r3, r4⟩ := id hsr
      refine k_aload_n C dX7_pass_60 rfl ?_
      refine k_get C (k := 0) inX7 (ci := 7) rfl (by decide) fl_X7_10 dX7_pass_61 (by repeat (first | exact hs_eq _ _ _ | refine hs_ne (by omega) ?_ | assumption)) rfl ?_
      refine k_get C (k := 9) inX3 (ci := 3) rfl (by decide) fl_X7_134 dX7_pass_64 (by repeat (first | exact hs_eq _ _ _ | refine hs_ne (by omega) ?_ | assumption)) rfl ?_
      refine k_iload_n C dX7_pass_67 rfl ?_
      refine k_isub C dX7_pass_68 ?_
      refine k_iret C hr dX7_pass_69 ?_
      exact ⟨rfl, hXp, Fr.tr (hFk.wide (by omega) (by omega)) (hFp.wide (by omega) (by omega))⟩)
  · try (exfalso; omega)
    all_goals (
      exfalso
      omega)

