set_option maxRecDepth 20000 in
set_option maxHeartbeats 1000000 in
theorem ct_Jxe99ae_isNaN_b9ae7 (l : Launch) (D : va_G) (tc : Nat → ClassId) (base : Nat) (xx : UInt64) (hpp : AH) (hx : FP.Core.val64 xx ≠ .nan) : CT l D tc base yJxe99ae_isNaN_b9ae7 cJxe99ae_isNaN_b9ae7 2 (some .boolean) 0 [aD xx] hpp (fun r h' => r = some (aI 0) ∧ hpp = h') := by
  refine CT.of [some (aD xx), none] (by decide +kernel) rfl (Nat.le_of_ble_eq_true rfl) ?_
  intro p e s m args below meth c C hr hnm
  refine k_dload_n C dJxe99ae_isNaN_b9ae7_0 rfl ?_
  refine k_dload_n C dJxe99ae_isNaN_b9ae7_1 rfl ?_
  refine k_dcmp C (v := 0) (by rw [show FP.dcmp xx xx = some .eq from FP.Core.dcmp_eq.mpr ⟨hx, hx, rfl⟩]; decide +kernel) dJxe99ae_isNaN_b9ae7_2 ?_
  refine k_if_eq (tgt := 10) C dJxe99ae_isNaN_b9ae7_3 (by decide) ⟨by omega, by omega⟩ (fun c3 => ?_) (fun c3 => ?_)
  · try (exfalso; omega)
    all_goals (
      refine k_iconst C dJxe99ae_isNaN_b9ae7_10 ?_
      refine k_zret C hr dJxe99ae_isNaN_b9ae7_11 (by omega) ?_
      exact ⟨rfl, rfl⟩)
  · try (exfalso; omega)
    all_goals (
      exfalso
      omega)

set_option maxRecDepth 20000 in
set_option maxHeartbeats 1000000 in
theorem ct_Jxe99ae_doubleToLongBits_ccdee (l : Launch) (D : va_G) (tc : Nat → ClassId) (base : Nat) (xx : UInt64) (hpp : AH) (hx : FP.Core.val64 xx ≠ .nan) (hx2 : xx.toNat < 9223372036854775808) : CT l D tc base yJxe99ae_doubleToLongBits_ccdee cJxe99ae_doubleToLongBits_ccdee 2 (some .long) 1 [aD xx] hpp (fun r h' => r = some (aL (xx.toNat : Int)) ∧ hpp = h') := by
  refine CT.of [some (aD xx), none] (by decide +kernel) rfl (Nat.le_of_ble_eq_true rfl) ?_
  intro p e s m args below meth c C hr hnm
  refine k_dload_n C dJxe99ae_doubleToLongBits_ccdee_0 rfl ?_
  refine k_callS C (n := 1) (as := [_]) (ct_Jxe99ae_isNaN_b9ae7 l D tc base _ _ hx) ml_Jxe99ae_122 sm_Jxe99ae_isNaN_b9ae7 ini_Jxe99ae co_Jxe99ae_isNaN_b9ae7 ⟨by decide, by decide, by decide +kernel⟩ rfl ⟨by decide, by decide⟩ rfl (Nat.le_of_ble_eq_true rfl) ⟨Nat.zero_le _, Nat.zero_le _⟩ dJxe99ae_doubleToLongBits_ccdee_1 ?_
  rintro _ _ ⟨rfl, rfl⟩
  refine k_if_ne (tgt := 12) C dJxe99ae_doubleToLongBits_ccdee_4 (by decide) ⟨by omega, by omega⟩ (fun c4 => ?_) (fun c4 => ?_)
  · try (exfalso; omega)
    all_goals (
      exfalso
      omega)
  · try (exfalso; omega)
    all_goals (
      refine k_dload_n C dJxe99ae_doubleToLongBits_ccdee_7 rfl ?_
      refine k_raw C hx2 ml_Jxe99ae_134 ini_Jxe99ae (by decide) (by decide +kernel) dJxe99ae_doubleToLongBits_ccdee_8 ?_
      refine k_lret C hr dJxe99ae_doubleToLongBits_ccdee_11 ?_
      exact ⟨rfl, rfl⟩)

set_option maxRecDepth 20000 in
set_option maxHeartbeats 1000000 in
theorem ct_X7_hashWith (l : Launch) (D : va_G) (tc : Nat → ClassId) (base : Nat) (hh vv : Int) (hpp : AH) : CT l D tc base yX7_hashWith cX7_hashWith 4 (some .long) 0 [aL hh, aL vv] hpp (fun r h' => r = some (aL (31 * hh + vv)) ∧ hpp = h') := by
  refine CT.of [some (aL hh), none, some (aL vv), none] (by decide +kernel) rfl (Nat.le_of_ble_eq_true rfl) ?_
  intro p e s m args below meth c C hr hnm
  refine k_ldc2l C (z := 31) kn_X7_321 (by decide +kernel) dX7_hashWith_0 ?_
  refine k_lload_n C dX7_hashWith_3 rfl ?_
  refine k_lmul C dX7_hashWith_4 ?_
  refine k_lload_n C dX7_hashWith_5 rfl ?_
  refine k_ladd C dX7_hashWith_6 ?_
  refine k_lret C hr dX7_hashWith_7 ?_
  exact ⟨rfl, rfl⟩

set_option maxRecDepth 20000 in
set_option maxHeartbeats 1000000 in
theorem ct_X7_bitsOfShare0 (l : Launch) (D : va_G) (tc : Nat → ClassId) (base : Nat) (xx : UInt64) (hpp : AH) (hx : xx = 0) : CT l D tc base yX7_bitsOfShare cX7_bitsOfShare 8 (some .long) 0 [aD xx] hpp (fun r h' => r = some (aL (xx.toNat : Int)) ∧ hpp = h') := by
  refine CT.of [some (aD xx), none, none, none, none, none, none, none] (by decide +kernel) rfl (Nat.le_of_ble_eq_true rfl) ?_
  intro p e s m args below meth c C hr hnm
  subst hx
  refine k_dload_n C dX7_bitsOfShare_0 rfl ?_
  refine k_dconst0 C dX7_bitsOfShare_1 ?_
  refine k_dcmp C (v := 0) (by decide +kernel) dX7_bitsOfShare_2 ?_
  refine k_if_gt (tgt := 8) C dX7_bitsOfShare_3 (by decide) ⟨by omega, by omega⟩ (fun c3 => ?_) (fun c3 => ?_)
  · try (exfalso; omega)
    all_goals (
      exfalso
      omega)
  · try (exfalso; omega)
    all_goals (
      refine k_lconst C dX7_bitsOfShare_6 (by decide +kernel) ?_
      refine k_lret C hr dX7_bitsOfShare_7 ?_
      exact ⟨rfl, rfl⟩)

set_option maxRecDepth 20000 in
set_option maxHeartbeats 1000000 in
theorem ct_X7_bitsOfShare1 (l : Launch) (D : va_G) (tc : Nat → ClassId) (base : Nat) (E T : Nat) (hpp : AH) (hE0 : 1008 ≤ E) (hE1 : E ≤ 1023) (hT : T < 4503599627370496) : CT l D tc base yX7_bitsOfShare cX7_bitsOfShare 8 (some .long) 0 [aD (zD E T)] hpp (fun r h' => r = some (aL ((zD E T).toNat : Int)) ∧ hpp = h') := by
  refine CT.of [some (aD (zD E T)), none, none, none, none, none, none, none] (by decide +kernel) rfl (Nat.le_of_ble_eq_true rfl) ?_
  intro p e s m args below meth c C hr hnm
  refine k_dload_n C dX7_bitsOfShare_0 rfl ?_
  refine k_dconst0 C dX7_bitsOfShare_1 ?_
  refine k_dcmp C (v := 1) (by rw [zD_cmp0 (by omega) (by omega) hT]; decide +kernel) dX7_bitsOfShare_2 ?_
  refine k_if_gt (tgt := 8) C dX7_bitsOfShare_3 (by decide) ⟨by omega, by omega⟩ (fun c3 => ?_) (fun c3 => ?_)
  · try (exfalso; omega)
    all_goals (
      refine k_dload_n C dX7_bitsOfShare_8 rfl ?_
      refine k_dstore_n C dX7_bitsOfShare_9 (by decide) rfl ?_
      refine k_ldc2l C (z := 1023) kn_X7_342 (by decide +kernel) dX7_bitsOfShare_10 ?_
      refine k_lstore C dX7_bitsOfShare_13 (by decide) rfl ?_
      have loop15 : ∀ (n : Nat) (kk : Nat), E + kk ≤ 1023 → (1023 : Int) - E - kk < (n : Int) → Wk D tc base 8 p l e (lvR 0) s m args below meth c 0 0 (MQ below (Qx D tc base (fun r h' => r = some (aL ((zD E T).toNat : Int)) ∧ hpp = h')) args s 0 0 (fun q => base ≤ q)) 15 [some (aD (zD E T)), none, some (aD (zD (E + kk) T)), none, some (aL (1023 - kk)), none, none, none] [] hpp := by
        intro n
        induction n with
        | zero =>
          intro kk hk hmu
          exfalso
          omega
        | succ n ih =>
          intro kk hk hmu
          refine k_dload_n C dX7_bitsOfShare_15 rfl ?_
          refine k_dconst1 C dX7_bitsOfShare_16 ?_
          obtain ⟨vv, hvv, hvr⟩ := zD_cmpv (E := E + kk) (T := T) (by omega) (by omega) hT
          refine k_dcmp C (v := vv) hvv dX7_bitsOfShare_17 ?_
          refine k_if_ge (tgt := 43) C dX7_bitsOfShare_18 (by decide) ⟨by omega, by omega⟩ (fun c18 => ?_) (fun c18 => ?_)
          · try (exfalso; omega)
            all_goals (
              have e1 : E + kk = 1023 := by omega
              rw [e1]
              refine k_dload_n C dX7_bitsOfShare_43 rfl ?_
              refine k_dconst1 C dX7_bitsOfShare_44 ?_
              refine k_dsub C (vf_of (zD_frac hT).1) dX7_bitsOfShare_45 ?_
              refine k_ldc2d C kn_X7_346 dX7_bitsOfShare_46 ?_
              refine k_dmul C (vf_of (zD_frac hT).2.1) dX7_bitsOfShare_49 ?_
              refine k_d2l C (z := T) (zD_frac hT).2.2 dX7_bitsOfShare_50 ?_
              refine k_lstore C dX7_bitsOfShare_51 (by decide) rfl ?_
              refine k_lload C dX7_bitsOfShare_53 rfl ?_
              refine k_ldc2l C (z := 4503599627370496) kn_X7_348 (by decide +kernel) dX7_bitsOfShare_55 ?_
              refine k_lmul C dX7_bitsOfShare_58 ?_
              refine k_lload C dX7_bitsOfShare_59 rfl ?_
              refine k_ladd C dX7_bitsOfShare_61 ?_
              refine k_lret C hr dX7_bitsOfShare_62 ?_
              refine ⟨congrArg (fun qq => some (aL qq)) ?_, rfl⟩
              rw [zD_nat (by omega) hT]
              omega)
          · try (exfalso; omega)
            all_goals (
              refine k_lload C dX7_bitsOfShare_21 rfl ?_
              refine k_lconst C dX7_bitsOfShare_23 (by decide +kernel) ?_
              refine k_lcmpGt C ⟨by omega, by omega⟩ ⟨by decide, by decide⟩ (by show (1 : Int) < _; omega) dX7_bitsOfShare_24 ?_
              refine k_if_le (tgt := 43) C dX7_bitsOfShare_25 (by decide) ⟨by omega, by omega⟩ (fun c25 => ?_) (fun c25 => ?_)
              · try (exfalso; omega)
                all_goals (
                  have e1 : E + kk = 1023 := by omega
                  rw [e1]
                  refine k_dload_n C dX7_bitsOfShare_43 rfl ?_
                  refine k_dconst1 C dX7_bitsOfShare_44 ?_
                  refine k_dsub C (vf_of (zD_frac hT).1) dX7_bitsOfShare_45 ?_
                  refine k_ldc2d C kn_X7_346 dX7_bitsOfShare_46 ?_
                  refine k_dmul C (vf_of (zD_frac hT).2.1) dX7_bitsOfShare_49 ?_
                  refine k_d2l C (z := T) (zD_frac hT).2.2 dX7_bitsOfShare_50 ?_
                  refine k_lstore C dX7_bitsOfShare_51 (by decide) rfl ?_
                  refine k_lload C dX7_bitsOfShare_53 rfl ?_
                  refine k_ldc2l C (z := 4503599627370496) kn_X7_348 (by decide +kernel) dX7_bitsOfShare_55 ?_
                  refine k_lmul C dX7_bitsOfShare_58 ?_
                  refine k_lload C dX7_bitsOfShare_59 rfl ?_
                  refine k_ladd C dX7_bitsOfShare_61 ?_
                  refine k_lret C hr dX7_bitsOfShare_62 ?_
                  refine ⟨congrArg (fun qq => some (aL qq)) ?_, rfl⟩
                  rw [zD_nat (by omega) hT]
                  omega)
              · try (exfalso; omega)
                all_goals (
                  refine k_dload_n C dX7_bitsOfShare_28 rfl ?_
                  refine k_ldc2d C kn_X7_344 dX7_bitsOfShare_29 ?_
                  have hdb := zD_dbl (E := E + kk) (T := T) (by omega) (by omega) hT
                  refine k_dmul C (vf_of (by rw [hdb]; exact zD_nn (by omega) (by omega) hT)) dX7_bitsOfShare_32 ?_
                  rw [hdb]
                  refine k_dstore_n C dX7_bitsOfShare_33 (by decide) rfl ?_
                  refine k_lload C dX7_bitsOfShare_34 rfl ?_
                  refine k_lconst C dX7_bitsOfShare_36 (by decide +kernel) ?_
                  refine k_lsub C dX7_bitsOfShare_37 ?_
                  refine k_lstore C dX7_bitsOfShare_38 (by decide) rfl ?_
                  refine k_goto (tgt := 15) C dX7_bitsOfShare_40 (by decide) ?_
                  have q1 := ih (kk + 1) (by omega) (by omega)
                  have e3 : (1023 : Int) - ((kk + 1 : Nat) : Int) = 1023 - kk - 1 := by omega
                  rw [e3] at q1
                  exact q1))
      exact loop15 1024 0 (by omega) (by omega))
  · try (exfalso; omega)
    all_goals (
      exfalso
      omega)

theorem ct_X7_bitsOfShare (l : Launch) (D : va_G) (tc : Nat → ClassId) (base : Nat) (xx : UInt64) (hpp : AH) (hx : shOk xx) : CT l D tc base yX7_bitsOfShare cX7_bitsOfShare 8 (some .long) 0 [aD xx] hpp (fun r h' => r = some (aL (xx.toNat : Int)) ∧ hpp = h') := by
  rcases hx with h0 | ⟨E, T, rfl, h1, h2, h3, -⟩
  · exact ct_X7_bitsOfShare0 l D tc base xx hpp h0
  · exact ct_X7_bitsOfShare1 l D tc base E T hpp h1 h2 h3

set_option maxRecDepth 20000 in
set_option maxHeartbeats 1000000 in
theorem ct_X7_lostShare (l : Launch) (D : va_G) (tc : Nat → ClassId) (base : Nat) (rc : Nat) (zrr hhi htx : Int → Int) (st ln : Int) (hpp : AH) (hX : XA hpp rc zrr hhi htx st ln) : CT l D tc base yX7_lostShare cX7_lostShare 1 (some .double) 0 [aR rc] hpp (fun r h' => r = some (aD (zSh zrr)) ∧ hpp = h') := by
  refine CT.of [some (aR rc)] (by decide +kernel) rfl (Nat.le_of_ble_eq_true rfl) ?_
  intro p e s m args below meth c C hr hnm
  obtain ⟨zth, gr, x0, hS, hT, hH, hTx, x5, hok, h13, hst⟩ := id hX
  obtain ⟨ol, ff, hol, hj0, -⟩ := id hH
  obtain ⟨fsn, hsn0⟩ := hS.obj
  have hi := hok.1
  obtain ⟨⟨v0, v1, v2, v9, v10, v11, v12, v13, v21, v52, v61, v62, v63, v64, v65, v66⟩, hwi, hde⟩ := id hi
  obtain ⟨f1, f2, f3, w1, w2, w3, w4, w5, d1, d2, se, ⟨g0, g1, g2, g3, g4, g5, g6, g7, g8, g9, g10, g11, g12, g13, g14⟩, hsr⟩ := id hS
  obtain ⟨r1, r2, r3, r4⟩ := id hsr
  have hsh := shOk_z hok h13
  refine k_aload_n C dX7_lostShare_0 rfl ?_
  refine k_get C (k := 0) inX7 (ci := 7) rfl (by decide) fl_X7_10 dX7_lostShare_1 (by repeat (first | exact hs_eq _ _ _ | refine hs_ne (by omega) ?_ | assumption)) rfl ?_
  refine k_get C (k := 4) inX3 (ci := 3) rfl (by decide) fl_X7_119 dX7_lostShare_4 (by repeat (first | exact hs_eq _ _ _ | refine hs_ne (by omega) ?_ | assumption)) rfl ?_
  refine k_if_gt (tgt := 12) C dX7_lostShare_7 (by decide) ⟨by omega, by omega⟩ (fun c7 => ?_) (fun c7 => ?_)
  · try (exfalso; omega)
    all_goals (
      refine k_aload_n C dX7_lostShare_12 rfl ?_
      refine k_get C (k := 0) inX7 (ci := 7) rfl (by decide) fl_X7_10 dX7_lostShare_13 (by repeat (first | exact hs_eq _ _ _ | refine hs_ne (by omega) ?_ | assumption)) rfl ?_
      refine k_get C (k := 13) inX3 (ci := 3) rfl (by decide) fl_X7_225 dX7_lostShare_16 (by repeat (first | exact hs_eq _ _ _ | refine hs_ne (by omega) ?_ | assumption)) rfl ?_
      refine k_aload_n C dX7_lostShare_19 rfl ?_
      refine k_get C (k := 0) inX7 (ci := 7) rfl (by decide) fl_X7_10 dX7_lostShare_20 (by repeat (first | exact hs_eq _ _ _ | refine hs_ne (by omega) ?_ | assumption)) rfl ?_
      refine k_get C (k := 14) inX3 (ci := 3) rfl (by decide) fl_X7_228 dX7_lostShare_23 (by repeat (first | exact hs_eq _ _ _ | refine hs_ne (by omega) ?_ | assumption)) rfl ?_
      refine k_iadd C dX7_lostShare_26 ?_
      refine k_i2d C dX7_lostShare_27 ?_
      refine k_aload_n C dX7_lostShare_28 rfl ?_
      refine k_get C (k := 0) inX7 (ci := 7) rfl (by decide) fl_X7_10 dX7_lostShare_29 (by repeat (first | exact hs_eq _ _ _ | refine hs_ne (by omega) ?_ | assumption)) rfl ?_
      refine k_get C (k := 4) inX3 (ci := 3) rfl (by decide) fl_X7_119 dX7_lostShare_32 (by repeat (first | exact hs_eq _ _ _ | refine hs_ne (by omega) ?_ | assumption)) rfl ?_
      refine k_i2d C dX7_lostShare_35 ?_
      have hne : zSh zrr = FP.ddiv (FP.i2d (zi (zrr 18 + zrr 19))) (FP.i2d (zi (zrr 13))) := if_neg (by omega)
      refine k_ddiv C (vf_of (by rw [← hne]; exact (shOk_nn hsh).1)) dX7_lostShare_36 ?_
      refine k_dret C hr dX7_lostShare_37 ?_
      first
        | (rw [← hne]; exact ⟨rfl, rfl⟩)
        | (have hz0 : zSh zrr = 0 := if_pos (by omega)
           rw [hz0]
           exact ⟨rfl, rfl⟩))
  · try (exfalso; omega)
    all_goals (
      refine k_dconst0 C dX7_lostShare_10 ?_
      refine k_dret C hr dX7_lostShare_11 ?_
      first
        | (rw [← hne]; exact ⟨rfl, rfl⟩)
        | (have hz0 : zSh zrr = 0 := if_pos (by omega)
           rw [hz0]
           exact ⟨rfl, rfl⟩))

set_option maxRecDepth 20000 in
set_option maxHeartbeats 1000000 in
theorem ct_X8_lost (l : Launch) (D : va_G) (tc : Nat → ClassId) (base : Nat) (oo : Nat) (zrr hhi htx has hro : Int → Int) (st ln th re du hsh : Int) (hpp : AH) (hM : MA hpp oo zrr hhi htx has hro st ln th re du hsh) (hok : zOk zrr) (h13 : zrr 13 ≤ 20000) : CT l D tc base yX8_lost cX8_lost 1 (some .double) 0 [aR oo] hpp (fun r h' => r = some (aD (zSh zrr)) ∧ hpp = h') := by
  refine CT.of [some (aR oo)] (by decide +kernel) rfl (Nat.le_of_ble_eq_true rfl) ?_
  intro p e s m args below meth c C hr hnm
  obtain ⟨g0, g1, g2, g3, g4, g5⟩ := id hM
  have hsh := shOk_z hok h13
  have hb13 := hok.1.1.2.2.2.2.2.2.2.1
  refine k_aload_n C dX8_lost_0 rfl ?_
  refine k_get C (k := 0) inX8 (ci := 8) rfl (by decide) fl_X8_7 dX8_lost_1 (by repeat (first | exact hs_eq _ _ _ | refine hs_ne (by omega) ?_ | assumption)) rfl ?_
  refine k_bipush C dX8_lost_4 (by decide +kernel) ?_
  refine k_iaload C dX8_lost_6 (by repeat (first | exact hs_eq _ _ _ | refine hs_ne (by omega) ?_ | assumption)) (by omega) (by omega) (by omega) ?_
  refine k_if_ne (tgt := 14) C dX8_lost_7 (by decide) ⟨by omega, by omega⟩ (fun c7 => ?_) (fun c7 => ?_)
  · try (exfalso; omega)
    all_goals (
      refine k_aload_n C dX8_lost_14 rfl ?_
      refine k_get C (k := 0) inX8 (ci := 8) rfl (by decide) fl_X8_7 dX8_lost_15 (by repeat (first | exact hs_eq _ _ _ | refine hs_ne (by omega) ?_ | assumption)) rfl ?_
      refine k_bipush C dX8_lost_18 (by decide +kernel) ?_
      refine k_iaload C dX8_lost_20 (by repeat (first | exact hs_eq _ _ _ | refine hs_ne (by omega) ?_ | assumption)) (by omega) (by omega) (by omega) ?_
      refine k_aload_n C dX8_lost_21 rfl ?_
      refine k_get C (k := 0) inX8 (ci := 8) rfl (by decide) fl_X8_7 dX8_lost_22 (by repeat (first | exact hs_eq _ _ _ | refine hs_ne (by omega) ?_ | assumption)) rfl ?_
      refine k_bipush C dX8_lost_25 (by decide +kernel) ?_
      refine k_iaload C dX8_lost_27 (by repeat (first | exact hs_eq _ _ _ | refine hs_ne (by omega) ?_ | assumption)) (by omega) (by omega) (by omega) ?_
      refine k_iadd C dX8_lost_28 ?_
      refine k_i2d C dX8_lost_29 ?_
      refine k_aload_n C dX8_lost_30 rfl ?_
      refine k_get C (k := 0) inX8 (ci := 8) rfl (by decide) fl_X8_7 dX8_lost_31 (by repeat (first | exact hs_eq _ _ _ | refine hs_ne (by omega) ?_ | assumption)) rfl ?_
      refine k_bipush C dX8_lost_34 (by decide +kernel) ?_
      refine k_iaload C dX8_lost_36 (by repeat (first | exact hs_eq _ _ _ | refine hs_ne (by omega) ?_ | assumption)) (by omega) (by omega) (by omega) ?_
      refine k_i2d C dX8_lost_37 ?_
      have hne : zSh zrr = FP.ddiv (FP.i2d (zi (zrr 18 + zrr 19))) (FP.i2d (zi (zrr 13))) := if_neg (by omega)
      refine k_ddiv C (vf_of (by rw [← hne]; exact (shOk_nn hsh).1)) dX8_lost_38 ?_
      refine k_dret C hr dX8_lost_39 ?_
      first
        | (rw [← hne]; exact ⟨rfl, rfl⟩)
        | (have hz0 : zSh zrr = 0 := if_pos (by omega)
           rw [hz0]
           exact ⟨rfl, rfl⟩))
  · try (exfalso; omega)
    all_goals (
      refine k_dconst0 C dX8_lost_10 ?_
      refine k_goto (tgt := 39) C dX8_lost_11 (by decide) ?_
      refine k_dret C hr dX8_lost_39 ?_
      first
        | (rw [← hne]; exact ⟨rfl, rfl⟩)
        | (have hz0 : zSh zrr = 0 := if_pos (by omega)
           rw [hz0]
           exact ⟨rfl, rfl⟩))

set_option maxRecDepth 20000 in
set_option maxHeartbeats 1000000 in
theorem ct_X8_lostShare (l : Launch) (D : va_G) (tc : Nat → ClassId) (base : Nat) (oo : Nat) (zrr hhi htx has hro : Int → Int) (st ln th re du hsh : Int) (hpp : AH) (hM : MA hpp oo zrr hhi htx has hro st ln th re du hsh) (hok : zOk zrr) (h13 : zrr 13 ≤ 20000) : CT l D tc base yX8_lostShare cX8_lostShare 1 (some .double) 1 [aR oo] hpp (fun r h' => r = some (aD (zSh zrr)) ∧ MA h' oo (zrr) (hhi) (htx) (has) (hro) (st) (ln) (0) (re) (du) (hsh) ∧ Fr hpp h' oo 6) := by
  refine CT.of [some (aR oo)] (by decide +kernel) rfl (Nat.le_of_ble_eq_true rfl) ?_
  intro p e s m args below meth c C hr hnm
  obtain ⟨g0, g1, g2, g3, g4, g5⟩ := id hM
  refine k_aload_n C dX8_lostShare_0 rfl ?_
  refine k_iconst C dX8_lostShare_1 ?_
  refine k_put C (k := 5) inX8 tyX8_ok nmX8 (ci := 8) rfl (by decide) fl_X8_25 rfl (Nat.le_of_ble_eq_true rfl) dX8_lostShare_2 (by repeat (first | exact hs_eq _ _ _ | refine hs_ne (by omega) ?_ | assumption)) ?_
  refine k_aload_n C dX8_lostShare_5 rfl ?_
  refine k_callV C (n := 0) (as := []) (ct_X8_lost l D tc base oo zrr hhi htx has hro st ln 0 re du hsh _ ⟨(by repeat (first | exact hs_eq _ _ _ | refine hs_ne (by omega) ?_ | assumption)), (by repeat (first | exact hs_eq _ _ _ | refine hs_ne (by omega) ?_ | assumption)), (by repeat (first | exact hs_eq _ _ _ | refine hs_ne (by omega) ?_ | assumption)), (by repeat (first | exact hs_eq _ _ _ | refine hs_ne (by omega) ?_ | assumption)), (by repeat (first | exact hs_eq _ _ _ | refine hs_ne (by omega) ?_ | assumption)), (by repeat (first | exact hs_eq _ _ _ | refine hs_ne (by omega) ?_ | assumption))⟩ hok h13) ml_X8_194 im_X8_lost se_X8_lost ini_X8 co_X8_lost ⟨rfl, by decide, by decide, by decide +kernel⟩ rfl (ci := 8) rfl (by repeat (first | exact hs_eq _ _ _ | refine hs_ne (by omega) ?_ | assumption)) ⟨by decide, by decide⟩ rfl (Nat.le_of_ble_eq_true rfl) ⟨Nat.zero_le _, Nat.zero_le _⟩ dX8_lostShare_6 ?_
  rintro _ _ ⟨rfl, rfl⟩
  refine k_dret C hr dX8_lostShare_9 ?_
  exact ⟨rfl, ⟨(by repeat (first | exact hs_eq _ _ _ | refine hs_ne (by omega) ?_ | assumption)), (by repeat (first | exact hs_eq _ _ _ | refine hs_ne (by omega) ?_ | assumption)), (by repeat (first | exact hs_eq _ _ _ | refine hs_ne (by omega) ?_ | assumption)), (by repeat (first | exact hs_eq _ _ _ | refine hs_ne (by omega) ?_ | assumption)), (by repeat (first | exact hs_eq _ _ _ | refine hs_ne (by omega) ?_ | assumption)), (by repeat (first | exact hs_eq _ _ _ | refine hs_ne (by omega) ?_ | assumption))⟩, fun aaa haa => by repeat (first | rfl | refine hs_ne (by omega) ?_)⟩

set_option maxRecDepth 20000 in
set_option maxHeartbeats 1000000 in
theorem ct_X8_mix (l : Launch) (D : va_G) (tc : Nat → ClassId) (base : Nat) (oo : Nat) (zrr hhi htx has hro : Int → Int) (st ln th re du hsh : Int) (hpp : AH) (hM : MA hpp oo zrr hhi htx has hro st ln th re du hsh) (vv : Int) : CT l D tc base yX8_mix cX8_mix 3 none 0 [aR oo, aL vv] hpp (fun r h' => r = none ∧ MA h' oo (zrr) (hhi) (htx) (has) (hro) (st) (ln) (th) (re) (du) (31 * hsh + vv) ∧ Fr hpp h' oo 6) := by
  refine CT.of [some (aR oo), some (aL vv), none] (by decide +kernel) rfl (Nat.le_of_ble_eq_true rfl) ?_
  intro p e s m args below meth c C hr hnm
  obtain ⟨g0, g1, g2, g3, g4, g5⟩ := id hM
  refine k_aload_n C dX8_mix_0 rfl ?_
  refine k_ldc2l C (z := 31) kn_X8_198 (by decide +kernel) dX8_mix_1 ?_
  refine k_aload_n C dX8_mix_4 rfl ?_
  refine k_get C (k := 10) inX8 (ci := 8) rfl (by decide) fl_X8_200 dX8_mix_5 (by repeat (first | exact hs_eq _ _ _ | refine hs_ne (by omega) ?_ | assumption)) rfl ?_
  refine k_lmul C dX8_mix_8 ?_
  refine k_lload_n C dX8_mix_9 rfl ?_
  refine k_ladd C dX8_mix_10 ?_
  refine k_putG C (k := 10) inX8 tyX8_ok nmX8 (ci := 8) rfl (by decide) fl_X8_200 rfl (ty := .long) (by decide +kernel) rfl rfl (Nat.le_of_ble_eq_true rfl) dX8_mix_11 (by repeat (first | exact hs_eq _ _ _ | refine hs_ne (by omega) ?_ | assumption)) ?_
  refine k_vret C hr dX8_mix_14 ?_
  exact ⟨rfl, ⟨(by repeat (first | exact hs_eq _ _ _ | refine hs_ne (by omega) ?_ | assumption)), (by repeat (first | exact hs_eq _ _ _ | refine hs_ne (by omega) ?_ | assumption)), (by repeat (first | exact hs_eq _ _ _ | refine hs_ne (by omega) ?_ | assumption)), (by repeat (first | exact hs_eq _ _ _ | refine hs_ne (by omega) ?_ | assumption)), (by repeat (first | exact hs_eq _ _ _ | refine hs_ne (by omega) ?_ | assumption)), (by repeat (first | exact hs_eq _ _ _ | refine hs_ne (by omega) ?_ | assumption))⟩, fun aaa haa => by repeat (first | rfl | refine hs_ne (by omega) ?_)⟩
