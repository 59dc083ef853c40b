set_option maxRecDepth 20000 in
set_option maxHeartbeats 1000000 in
theorem ct_X3_copyFrom (l : Launch) (D : va_G) (tc : Nat → ClassId) (base : Nat) (oo pp : Nat) (zth zrr : RZ) (hpp : AH) (hS : SAt hpp oo zth) (hS2 : SAt hpp pp zrr) (hi : zInv zrr) (hdj : oo + 15 ≤ pp ∨ pp + 15 ≤ oo) : CT l D tc base yX3_copyFrom cX3_copyFrom 2 none 2 [aR oo, aR pp] hpp (fun r h' => r = none ∧ SAt h' oo zrr ∧ Fr hpp h' oo 15) := by
  refine CT.of [some (aR oo), some (aR pp)] (by decide +kernel) rfl (Nat.le_of_ble_eq_true rfl) ?_
  intro p e s m args below meth c C hr hnm
  obtain ⟨f1, f2, f3, w1, w2, w3, w4, w5, d1, d2, se, ⟨g0, g1, g2, g3, g4, g5, g6, g7, g8, g9, g10, g11, g12, g13, g14⟩, hsr⟩ := id hS
  obtain ⟨r1, r2, r3, r4⟩ := id hsr
  obtain ⟨e1, e2, e3, y1, y2, y3, y4, y5, q1, q2, sf, ⟨k0, k1, k2, k3, k4, k5, k6, k7, k8, k9, k10, k11, k12, k13, k14⟩, hsr2⟩ := id hS2
  obtain ⟨u1, u2, u3, u4⟩ := id hsr2
  obtain ⟨⟨v0, v1, v2, v9, v10, v11, v12, v13, v21, v52, v61, v62, v63, v64, v65, v66⟩, hwi, hde⟩ := id hi
  refine k_aload_n C dX3_copyFrom_0 rfl ?_
  refine k_get C (k := 0) inX3 (ci := 3) rfl (by decide) fl_X3_12 dX3_copyFrom_1 (by repeat (first | exact hs_eq _ _ _ | refine hs_ne (by omega) ?_ | assumption)) rfl ?_
  refine k_aload_n C dX3_copyFrom_4 rfl ?_
  refine k_get C (k := 0) inX3 (ci := 3) rfl (by decide) fl_X3_12 dX3_copyFrom_5 (by repeat (first | exact hs_eq _ _ _ | refine hs_ne (by omega) ?_ | assumption)) rfl ?_
  refine k_callV C (n := 1) (as := [_]) (ct_X5_copyFrom l D tc base (oo + 1) f1 f2 f3 _ (by repeat (first | exact hs_eq _ _ _ | refine hs_ne (by omega) ?_ | assumption)) (by repeat (first | exact hs_eq _ _ _ | refine hs_ne (by omega) ?_ | assumption)) (by repeat (first | exact hs_eq _ _ _ | refine hs_ne (by omega) ?_ | assumption)) (by repeat (first | exact hs_eq _ _ _ | refine hs_ne (by omega) ?_ | assumption)) (pp + 1) e1 e2 e3 (by repeat (first | exact hs_eq _ _ _ | refine hs_ne (by omega) ?_ | assumption)) (by repeat (first | exact hs_eq _ _ _ | refine hs_ne (by omega) ?_ | assumption)) (by repeat (first | exact hs_eq _ _ _ | refine hs_ne (by omega) ?_ | assumption)) (by repeat (first | exact hs_eq _ _ _ | refine hs_ne (by omega) ?_ | assumption)) (by omega)) ml_X3_49 im_X5_copyFrom se_X5_copyFrom ini_X5 co_X5_copyFrom ⟨rfl, by decide, by decide, by decide +kernel⟩ rfl (ci := 5) rfl (by repeat (first | exact hs_eq _ _ _ | refine hs_ne (by omega) ?_ | assumption)) ⟨by decide, by decide⟩ rfl (Nat.le_of_ble_eq_true rfl) ⟨Nat.zero_le _, Nat.zero_le _⟩ dX3_copyFrom_8 ?_
  rintro _ _ ⟨rfl, F1, F2, F3, hF, rfl⟩
  refine k_aload_n C dX3_copyFrom_11 rfl ?_
  refine k_get C (k := 1) inX3 (ci := 3) rfl (by decide) fl_X3_21 dX3_copyFrom_12 (by repeat (first | exact hs_eq _ _ _ | refine hs_ne (by omega) ?_ | assumption)) rfl ?_
  refine k_aload_n C dX3_copyFrom_15 rfl ?_
  refine k_get C (k := 1) inX3 (ci := 3) rfl (by decide) fl_X3_21 dX3_copyFrom_16 (by repeat (first | exact hs_eq _ _ _ | refine hs_ne (by omega) ?_ | assumption)) rfl ?_
  refine k_callV C (n := 1) (as := [_]) (ct_X6_copyFrom l D tc base _ (oo + 5) w1 w2 w3 w4 w5 _ (by repeat (first | exact hs_eq _ _ _ | refine hs_ne (by omega) ?_ | assumption)) (by repeat (first | exact hs_eq _ _ _ | refine hs_ne (by omega) ?_ | assumption)) (by repeat (first | exact hs_eq _ _ _ | refine hs_ne (by omega) ?_ | assumption)) (by repeat (first | exact hs_eq _ _ _ | refine hs_ne (by omega) ?_ | assumption)) (by repeat (first | exact hs_eq _ _ _ | refine hs_ne (by omega) ?_ | assumption)) (by repeat (first | exact hs_eq _ _ _ | refine hs_ne (by omega) ?_ | assumption)) (pp + 5) y1 y2 y3 y4 y5 (zrr 21) (by repeat (first | exact hs_eq _ _ _ | refine hs_ne (by omega) ?_ | assumption)) (by repeat (first | exact hs_eq _ _ _ | refine hs_ne (by omega) ?_ | assumption)) (by repeat (first | exact hs_eq _ _ _ | refine hs_ne (by omega) ?_ | assumption)) (by repeat (first | exact hs_eq _ _ _ | refine hs_ne (by omega) ?_ | assumption)) (by repeat (first | exact hs_eq _ _ _ | refine hs_ne (by omega) ?_ | assumption)) (by repeat (first | exact hs_eq _ _ _ | refine hs_ne (by omega) ?_ | assumption)) (by omega) (by omega) (by omega)) ml_X3_53 im_X6_copyFrom se_X6_copyFrom ini_X6 co_X6_copyFrom ⟨rfl, by decide, by decide, by decide +kernel⟩ rfl (ci := 6) rfl (by repeat (first | exact hs_eq _ _ _ | refine hs_ne (by omega) ?_ | assumption)) ⟨by decide, by decide⟩ rfl (Nat.le_of_ble_eq_true rfl) ⟨Nat.zero_le _, Nat.zero_le _⟩ dX3_copyFrom_19 ?_
  rintro _ _ ⟨rfl, G1, G2, G3, G4, G5, hG, rfl⟩
  refine k_aload_n C dX3_copyFrom_22 rfl ?_
  refine k_get C (k := 2) inX3 (ci := 3) rfl (by decide) fl_X3_28 dX3_copyFrom_23 (by repeat (first | exact hs_eq _ _ _ | refine hs_ne (by omega) ?_ | assumption)) rfl ?_
  refine k_aload_n C dX3_copyFrom_26 rfl ?_
  refine k_get C (k := 2) inX3 (ci := 3) rfl (by decide) fl_X3_28 dX3_copyFrom_27 (by repeat (first | exact hs_eq _ _ _ | refine hs_ne (by omega) ?_ | assumption)) rfl ?_
  refine k_callV C (n := 1) (as := [_]) (ct_X0_copyFrom l D tc base _ (oo + 11) d1 d2 _ (by repeat (first | exact hs_eq _ _ _ | refine hs_ne (by omega) ?_ | assumption)) (by repeat (first | exact hs_eq _ _ _ | refine hs_ne (by omega) ?_ | assumption)) (by repeat (first | exact hs_eq _ _ _ | refine hs_ne (by omega) ?_ | assumption)) (pp + 11) q1 q2 (zrr 52) (by repeat (first | exact hs_eq _ _ _ | refine hs_ne (by omega) ?_ | assumption)) (by repeat (first | exact hs_eq _ _ _ | refine hs_ne (by omega) ?_ | assumption)) (by repeat (first | exact hs_eq _ _ _ | refine hs_ne (by omega) ?_ | assumption)) (by omega) (by omega) (by omega)) ml_X3_56 im_X0_copyFrom se_X0_copyFrom ini_X0 co_X0_copyFrom ⟨rfl, by decide, by decide, by decide +kernel⟩ rfl (ci := 0) rfl (by repeat (first | exact hs_eq _ _ _ | refine hs_ne (by omega) ?_ | assumption)) ⟨by decide, by decide⟩ rfl (Nat.le_of_ble_eq_true rfl) ⟨Nat.zero_le _, Nat.zero_le _⟩ dX3_copyFrom_30 ?_
  rintro _ _ ⟨rfl, E1, E2, hE, rfl⟩
  refine k_aload_n C dX3_copyFrom_33 rfl ?_
  refine k_get C (k := 3) inX3 (ci := 3) rfl (by decide) fl_X3_32 dX3_copyFrom_34 (by repeat (first | exact hs_eq _ _ _ | refine hs_ne (by omega) ?_ | assumption)) rfl ?_
  refine k_iconst C dX3_copyFrom_37 ?_
  refine k_aload_n C dX3_copyFrom_38 rfl ?_
  refine k_get C (k := 3) inX3 (ci := 3) rfl (by decide) fl_X3_32 dX3_copyFrom_39 (by repeat (first | exact hs_eq _ _ _ | refine hs_ne (by omega) ?_ | assumption)) rfl ?_
  refine k_iconst C dX3_copyFrom_42 ?_
  refine k_bipush C dX3_copyFrom_43 (by decide +kernel) ?_
  refine k_acopy C (a0 := pp + 14) (a := oo + 14) ml_X3_39 (by repeat (first | exact hs_eq _ _ _ | refine hs_ne (by omega) ?_ | assumption)) (by repeat (first | exact hs_eq _ _ _ | refine hs_ne (by omega) ?_ | assumption)) (by omega) (by omega) (by omega) (by omega) (by omega) ini_J10 (by decide) (by decide +kernel) dX3_copyFrom_45 ?_
  refine k_aload_n C dX3_copyFrom_48 rfl ?_
  refine k_aload_n C dX3_copyFrom_49 rfl ?_
  refine k_get C (k := 4) inX3 (ci := 3) rfl (by decide) fl_X3_59 dX3_copyFrom_50 (by repeat (first | exact hs_eq _ _ _ | refine hs_ne (by omega) ?_ | assumption)) rfl ?_
  refine k_put C (k := 4) inX3 tyX3_ok nmX3 (ci := 3) rfl (by decide) fl_X3_59 rfl (Nat.le_of_ble_eq_true rfl) dX3_copyFrom_53 (by repeat (first | exact hs_eq _ _ _ | refine hs_ne (by omega) ?_ | assumption)) ?_
  refine k_aload_n C dX3_copyFrom_56 rfl ?_
  refine k_aload_n C dX3_copyFrom_57 rfl ?_
  refine k_get C (k := 5) inX3 (ci := 3) rfl (by decide) fl_X3_62 dX3_copyFrom_58 (by repeat (first | exact hs_eq _ _ _ | refine hs_ne (by omega) ?_ | assumption)) rfl ?_
  refine k_put C (k := 5) inX3 tyX3_ok nmX3 (ci := 3) rfl (by decide) fl_X3_62 rfl (Nat.le_of_ble_eq_true rfl) dX3_copyFrom_61 (by repeat (first | exact hs_eq _ _ _ | refine hs_ne (by omega) ?_ | assumption)) ?_
  refine k_aload_n C dX3_copyFrom_64 rfl ?_
  refine k_aload_n C dX3_copyFrom_65 rfl ?_
  refine k_get C (k := 6) inX3 (ci := 3) rfl (by decide) fl_X3_45 dX3_copyFrom_66 (by repeat (first | exact hs_eq _ _ _ | refine hs_ne (by omega) ?_ | assumption)) rfl ?_
  refine k_put C (k := 6) inX3 tyX3_ok nmX3 (ci := 3) rfl (by decide) fl_X3_45 rfl (Nat.le_of_ble_eq_true rfl) dX3_copyFrom_69 (by repeat (first | exact hs_eq _ _ _ | refine hs_ne (by omega) ?_ | assumption)) ?_
  refine k_aload_n C dX3_copyFrom_72 rfl ?_
  refine k_aload_n C dX3_copyFrom_73 rfl ?_
  refine k_get C (k := 7) inX3 (ci := 3) rfl (by decide) fl_X3_65 dX3_copyFrom_74 (by repeat (first | exact hs_eq _ _ _ | refine hs_ne (by omega) ?_ | assumption)) rfl ?_
  refine k_put C (k := 7) inX3 tyX3_ok nmX3 (ci := 3) rfl (by decide) fl_X3_65 rfl (Nat.le_of_ble_eq_true rfl) dX3_copyFrom_77 (by repeat (first | exact hs_eq _ _ _ | refine hs_ne (by omega) ?_ | assumption)) ?_
  refine k_aload_n C dX3_copyFrom_80 rfl ?_
  refine k_aload_n C dX3_copyFrom_81 rfl ?_
  refine k_get C (k := 8) inX3 (ci := 3) rfl (by decide) fl_X3_68 dX3_copyFrom_82 (by repeat (first | exact hs_eq _ _ _ | refine hs_ne (by omega) ?_ | assumption)) rfl ?_
  refine k_put C (k := 8) inX3 tyX3_ok nmX3 (ci := 3) rfl (by decide) fl_X3_68 rfl (Nat.le_of_ble_eq_true rfl) dX3_copyFrom_85 (by repeat (first | exact hs_eq _ _ _ | refine hs_ne (by omega) ?_ | assumption)) ?_
  refine k_aload_n C dX3_copyFrom_88 rfl ?_
  refine k_aload_n C dX3_copyFrom_89 rfl ?_
  refine k_get C (k := 9) inX3 (ci := 3) rfl (by decide) fl_X3_71 dX3_copyFrom_90 (by repeat (first | exact hs_eq _ _ _ | refine hs_ne (by omega) ?_ | assumption)) rfl ?_
  refine k_put C (k := 9) inX3 tyX3_ok nmX3 (ci := 3) rfl (by decide) fl_X3_71 rfl (Nat.le_of_ble_eq_true rfl) dX3_copyFrom_93 (by repeat (first | exact hs_eq _ _ _ | refine hs_ne (by omega) ?_ | assumption)) ?_
  refine k_aload_n C dX3_copyFrom_96 rfl ?_
  refine k_aload_n C dX3_copyFrom_97 rfl ?_
  refine k_get C (k := 10) inX3 (ci := 3) rfl (by decide) fl_X3_74 dX3_copyFrom_98 (by repeat (first | exact hs_eq _ _ _ | refine hs_ne (by omega) ?_ | assumption)) rfl ?_
  refine k_put C (k := 10) inX3 tyX3_ok nmX3 (ci := 3) rfl (by decide) fl_X3_74 rfl (Nat.le_of_ble_eq_true rfl) dX3_copyFrom_101 (by repeat (first | exact hs_eq _ _ _ | refine hs_ne (by omega) ?_ | assumption)) ?_
  refine k_aload_n C dX3_copyFrom_104 rfl ?_
  refine k_aload_n C dX3_copyFrom_105 rfl ?_
  refine k_get C (k := 11) inX3 (ci := 3) rfl (by decide) fl_X3_77 dX3_copyFrom_106 (by repeat (first | exact hs_eq _ _ _ | refine hs_ne (by omega) ?_ | assumption)) rfl ?_
  refine k_put C (k := 11) inX3 tyX3_ok nmX3 (ci := 3) rfl (by decide) fl_X3_77 rfl (Nat.le_of_ble_eq_true rfl) dX3_copyFrom_109 (by repeat (first | exact hs_eq _ _ _ | refine hs_ne (by omega) ?_ | assumption)) ?_
  refine k_aload_n C dX3_copyFrom_112 rfl ?_
  refine k_aload_n C dX3_copyFrom_113 rfl ?_
  refine k_get C (k := 12) inX3 (ci := 3) rfl (by decide) fl_X3_80 dX3_copyFrom_114 (by repeat (first | exact hs_eq _ _ _ | refine hs_ne (by omega) ?_ | assumption)) rfl ?_
  refine k_put C (k := 12) inX3 tyX3_ok nmX3 (ci := 3) rfl (by decide) fl_X3_80 rfl (Nat.le_of_ble_eq_true rfl) dX3_copyFrom_117 (by repeat (first | exact hs_eq _ _ _ | refine hs_ne (by omega) ?_ | assumption)) ?_
  refine k_aload_n C dX3_copyFrom_120 rfl ?_
  refine k_aload_n C dX3_copyFrom_121 rfl ?_
  refine k_get C (k := 13) inX3 (ci := 3) rfl (by decide) fl_X3_83 dX3_copyFrom_122 (by repeat (first | exact hs_eq _ _ _ | refine hs_ne (by omega) ?_ | assumption)) rfl ?_
  refine k_put C (k := 13) inX3 tyX3_ok nmX3 (ci := 3) rfl (by decide) fl_X3_83 rfl (Nat.le_of_ble_eq_true rfl) dX3_copyFrom_125 (by repeat (first | exact hs_eq _ _ _ | refine hs_ne (by omega) ?_ | assumption)) ?_
  refine k_aload_n C dX3_copyFrom_128 rfl ?_
  refine k_aload_n C dX3_copyFrom_129 rfl ?_
  refine k_get C (k := 14) inX3 (ci := 3) rfl (by decide) fl_X3_86 dX3_copyFrom_130 (by repeat (first | exact hs_eq _ _ _ | refine hs_ne (by omega) ?_ | assumption)) rfl ?_
  refine k_put C (k := 14) inX3 tyX3_ok nmX3 (ci := 3) rfl (by decide) fl_X3_86 rfl (Nat.le_of_ble_eq_true rfl) dX3_copyFrom_133 (by repeat (first | exact hs_eq _ _ _ | refine hs_ne (by omega) ?_ | assumption)) ?_
  refine k_aload_n C dX3_copyFrom_136 rfl ?_
  refine k_aload_n C dX3_copyFrom_137 rfl ?_
  refine k_get C (k := 15) inX3 (ci := 3) rfl (by decide) fl_X3_89 dX3_copyFrom_138 (by repeat (first | exact hs_eq _ _ _ | refine hs_ne (by omega) ?_ | assumption)) rfl ?_
  refine k_put C (k := 15) inX3 tyX3_ok nmX3 (ci := 3) rfl (by decide) fl_X3_89 rfl (Nat.le_of_ble_eq_true rfl) dX3_copyFrom_141 (by repeat (first | exact hs_eq _ _ _ | refine hs_ne (by omega) ?_ | assumption)) ?_
  refine k_vret C hr dX3_copyFrom_144 ?_
  refine ⟨rfl, ?_, fun aaa haa => by repeat (first | rfl | refine hs_ne (by omega) ?_)⟩
  refine ⟨F1, F2, F3, G1, G2, G3, G4, G5, E1, E2, _, ⟨(by repeat (first | exact hs_eq _ _ _ | refine hs_ne (by omega) ?_ | assumption)), (by repeat (first | exact hs_eq _ _ _ | refine hs_ne (by omega) ?_ | assumption)), (by repeat (first | exact hs_eq _ _ _ | refine hs_ne (by omega) ?_ | assumption)), (by repeat (first | exact hs_eq _ _ _ | refine hs_ne (by omega) ?_ | assumption)), (by repeat (first | exact hs_eq _ _ _ | refine hs_ne (by omega) ?_ | assumption)), (by repeat (first | exact hs_eq _ _ _ | refine hs_ne (by omega) ?_ | assumption)), (by repeat (first | exact hs_eq _ _ _ | refine hs_ne (by omega) ?_ | assumption)), (by repeat (first | exact hs_eq _ _ _ | refine hs_ne (by omega) ?_ | assumption)), (by repeat (first | exact hs_eq _ _ _ | refine hs_ne (by omega) ?_ | assumption)), (by repeat (first | exact hs_eq _ _ _ | refine hs_ne (by omega) ?_ | assumption)), (by repeat (first | exact hs_eq _ _ _ | refine hs_ne (by omega) ?_ | assumption)), (by repeat (first | exact hs_eq _ _ _ | refine hs_ne (by omega) ?_ | assumption)), (by repeat (first | exact hs_eq _ _ _ | refine hs_ne (by omega) ?_ | assumption)), (by repeat (first | exact hs_eq _ _ _ | refine hs_ne (by omega) ?_ | assumption)), (by repeat (first | exact hs_eq _ _ _ | refine hs_ne (by omega) ?_ | assumption))⟩, ?_⟩
  refine ⟨fun k h0 h1 => ?_, fun k h0 h1 => ?_, fun k h0 h1 => ?_, fun k h0 h1 => ?_⟩
  · rw [hF.1 k h0 h1, hF.2.1 k h0 h1, hF.2.2 k h0 h1]
    exact u1 k h0 h1
  · rw [hG.1 k h0 h1, hG.2.1 k h0 h1, hG.2.2.1 k h0 h1, hG.2.2.2.1 k h0 h1, hG.2.2.2.2 k h0 h1]
    exact u2 k h0 h1
  · rw [hE.1 k h0 h1, hE.2 k h0 h1]
    exact u3 k h0 h1
  · show (if k < 6 then sf k else se k) = _
    rw [if_pos h1]
    exact u4 k h0 h1

