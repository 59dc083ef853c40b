set_option maxRecDepth 20000 in
set_option maxHeartbeats 1000000 in
theorem ct_X8_dismiss (l : Launch) (D : va_G) (tc : Nat → ClassId) (base : Nat) (oo : Nat) (zrr hhi htx has hro : Int → Int) (st ln th re du hsh : Int) (hpp : AH) (hM : MA hpp oo zrr hhi htx has hro st ln th re du hsh) (ww : Int) (hw : r32 ww) (hi : zInv zrr) (hst : 0 ≤ st ∧ st ≤ 6) : CT l D tc base yX8_dismiss cX8_dismiss 3 (some .int) 2 [aR oo, aI ww] hpp (fun r h' => ((0 ≤ ww ∧ ww < zrr 21) ∧ r = some (aI (zrr 21 - 1)) ∧ MA h' oo (zDisK zrr (zrr 21 - 1) (22 + 5 * ww) (22 + 5 * (zrr 21 - 1))) (sHi zrr hhi st) (htx) (has) (hro) (sSt st) (ln) (0) (re) (du) (hsh) ∧ Fr hpp h' oo 6) ∨ (¬ (0 ≤ ww ∧ ww < zrr 21) ∧ r = some (aI (0)) ∧ MA h' oo (zrr) (hhi) (htx) (has) (hro) (st) (ln) (1) (re) (du) (hsh) ∧ Fr hpp h' oo 6)) := by
  refine CT.of [some (aR oo), some (aI ww), none] (by decide +kernel) rfl (Nat.le_of_ble_eq_true rfl) ?_
  intro p e s m args below meth c C hr hnm
  obtain ⟨g0, g1, g2, g3, g4, g5⟩ := id hM
  obtain ⟨⟨v0, v1, v2, v9, v10, v11, v12, v13, v21, v52, v61, v62, v63, v64, v65, v66⟩, hwi, hde⟩ := id hi
  refine k_aload_n C dX8_dismiss_0 rfl ?_
  refine k_aload_n C dX8_dismiss_1 rfl ?_
  refine k_iload_n C dX8_dismiss_2 rfl ?_
  refine k_callV C (n := 1) (as := [_]) (ct_X8_isWinder l D tc base oo zrr hhi htx has hro st ln _ re du hsh _ ⟨(by repeat (first | exact hs_eq _ _ _ | refine hs_ne (by omega) ?_ | assumption)), (by repeat (first | exact hs_eq _ _ _ | refine hs_ne (by omega) ?_ | assumption)), (by repeat (first | exact hs_eq _ _ _ | refine hs_ne (by omega) ?_ | assumption)), (by repeat (first | exact hs_eq _ _ _ | refine hs_ne (by omega) ?_ | assumption)), (by repeat (first | exact hs_eq _ _ _ | refine hs_ne (by omega) ?_ | assumption)), (by repeat (first | exact hs_eq _ _ _ | refine hs_ne (by omega) ?_ | assumption))⟩ _ hw hi) ml_X8_119 im_X8_isWinder se_X8_isWinder ini_X8 co_X8_isWinder ⟨rfl, by decide, by decide, by decide +kernel⟩ rfl (ci := 8) rfl (by repeat (first | exact hs_eq _ _ _ | refine hs_ne (by omega) ?_ | assumption)) ⟨by decide, by decide⟩ rfl (Nat.le_of_ble_eq_true rfl) ⟨Nat.zero_le _, Nat.zero_le _⟩ dX8_dismiss_3 ?_
  rintro _ _ (⟨rfl, rfl, hq1, hq2⟩ | ⟨rfl, rfl, hq1⟩)
  · skip
    refine k_if_eq (tgt := 13) C dX8_dismiss_6 (by decide) ⟨by omega, by omega⟩ (fun c6 => ?_) (fun c6 => ?_)
    · try (exfalso; omega)
      all_goals (
        refine k_iconst C dX8_dismiss_13 ?_
        refine k_put C (k := 5) inX8 tyX8_ok nmX8 (ci := 8) rfl (by decide) fl_X8_25 rfl (Nat.le_of_ble_eq_true rfl) dX8_dismiss_14 (by repeat (first | exact hs_eq _ _ _ | refine hs_ne (by omega) ?_ | assumption)) ?_
        refine k_aload_n C dX8_dismiss_17 rfl ?_
        refine k_get C (k := 5) inX8 (ci := 8) rfl (by decide) fl_X8_25 dX8_dismiss_18 (by repeat (first | exact hs_eq _ _ _ | refine hs_ne (by omega) ?_ | assumption)) rfl ?_
        refine k_if_le (tgt := 26) C dX8_dismiss_21 (by decide) ⟨by omega, by omega⟩ (fun c21 => ?_) (fun c21 => ?_)
        · try (exfalso; omega)
          all_goals (
            refine k_aload_n C dX8_dismiss_26 rfl ?_
            refine k_callV C (n := 0) (as := []) (ct_X8_save l D tc base oo zrr hhi htx has hro st ln (0) re du hsh _ ⟨(by repeat (first | exact hs_eq _ _ _ | refine hs_ne (by omega) ?_ | assumption)), (by repeat (first | exact hs_eq _ _ _ | refine hs_ne (by omega) ?_ | assumption)), (by repeat (first | exact hs_eq _ _ _ | refine hs_ne (by omega) ?_ | assumption)), (by repeat (first | exact hs_eq _ _ _ | refine hs_ne (by omega) ?_ | assumption)), (by repeat (first | exact hs_eq _ _ _ | refine hs_ne (by omega) ?_ | assumption)), (by repeat (first | exact hs_eq _ _ _ | refine hs_ne (by omega) ?_ | assumption))⟩ hst) ml_X8_102 im_X8_save se_X8_save ini_X8 co_X8_save ⟨rfl, by decide, by decide, by decide +kernel⟩ rfl (ci := 8) rfl (by repeat (first | exact hs_eq _ _ _ | refine hs_ne (by omega) ?_ | assumption)) ⟨by decide, by decide⟩ rfl (Nat.le_of_ble_eq_true rfl) ⟨Nat.zero_le _, Nat.zero_le _⟩ dX8_dismiss_27 ?_
            rintro _ hsv ⟨rfl, hM1, hF1⟩
            obtain ⟨k0, k1, k2, k3, k4, k5⟩ := id hM1
            refine k_aload_n C dX8_dismiss_30 rfl ?_
            refine k_get C (k := 0) inX8 (ci := 8) rfl (by decide) fl_X8_7 dX8_dismiss_31 (by repeat (first | exact hs_eq _ _ _ | refine hs_ne (by omega) ?_ | assumption)) rfl ?_
            refine k_bipush C dX8_dismiss_34 (by decide +kernel) ?_
            refine k_dup2 C dX8_dismiss_36 rfl rfl ?_
            refine k_iaload C dX8_dismiss_37 (by repeat (first | exact hs_eq _ _ _ | refine hs_ne (by omega) ?_ | assumption)) (by omega) (by omega) (by omega) ?_
            try simp (disch := omega) only [hs_hs, zDisK_21, zDisK_hi]
            refine k_iconst C dX8_dismiss_38 ?_
            refine k_isub C dX8_dismiss_39 ?_
            refine k_iastore C dX8_dismiss_40 (by repeat (first | exact hs_eq _ _ _ | refine hs_ne (by omega) ?_ | assumption)) (by omega) (by omega) (by omega) ?_
            refine k_iload_n C dX8_dismiss_41 rfl ?_
            refine k_callS C (n := 1) (as := [_]) (ct_X8_at l D tc base _ _) ml_X8_36 sm_X8_at ini_X8 co_X8_at ⟨by decide, by decide, by decide +kernel⟩ rfl ⟨by decide, by decide⟩ rfl (Nat.le_of_ble_eq_true rfl) ⟨Nat.zero_le _, Nat.zero_le _⟩ dX8_dismiss_42 ?_
            rintro _ _ ⟨rfl, rfl⟩
            refine k_istore_n C dX8_dismiss_45 (by decide) rfl ?_
            have loop46 : ∀ (n : Nat) (kk : Int), 22 + 5 * ww ≤ kk → kk ≤ 22 + 5 * (zrr 21 - 1) → (60 : Int) - kk < (n : Int) → Wk D tc base 3 p l e (lvR 2) s m args below meth c 0 0 (MQ below (Qx D tc base (fun r h' => ((0 ≤ ww ∧ ww < zrr 21) ∧ r = some (aI (zrr 21 - 1)) ∧ MA h' oo (zDisK zrr (zrr 21 - 1) (22 + 5 * ww) (22 + 5 * (zrr 21 - 1))) (sHi zrr hhi st) (htx) (has) (hro) (sSt st) (ln) (0) (re) (du) (hsh) ∧ Fr hpp h' oo 6) ∨ (¬ (0 ≤ ww ∧ ww < zrr 21) ∧ r = some (aI (0)) ∧ MA h' oo (zrr) (hhi) (htx) (has) (hro) (st) (ln) (1) (re) (du) (hsh) ∧ Fr hpp h' oo 6))) args s 0 0 (fun q => base ≤ q)) 46 [some (aR oo), some (aI ww), some (aI kk)] [] (hs hsv (oo + 1) (eA 0 67 (zDisK zrr (zrr 21 - 1) (22 + 5 * ww) kk))) := by
              intro n
              induction n with
              | zero =>
                intro kk hk0 hk1 hmu
                exfalso
                omega
              | succ n ih =>
                intro kk hk0 hk1 hmu
                refine k_iload_n C dX8_dismiss_46 rfl ?_
                refine k_aload_n C dX8_dismiss_47 rfl ?_
                refine k_get C (k := 0) inX8 (ci := 8) rfl (by decide) fl_X8_7 dX8_dismiss_48 (by repeat (first | exact hs_eq _ _ _ | refine hs_ne (by omega) ?_ | assumption)) rfl ?_
                refine k_bipush C dX8_dismiss_51 (by decide +kernel) ?_
                refine k_iaload C dX8_dismiss_53 (by repeat (first | exact hs_eq _ _ _ | refine hs_ne (by omega) ?_ | assumption)) (by omega) (by omega) (by omega) ?_
                try simp (disch := omega) only [hs_hs, zDisK_21, zDisK_hi]
                refine k_callS C (n := 1) (as := [_]) (ct_X8_at l D tc base _ _) ml_X8_36 sm_X8_at ini_X8 co_X8_at ⟨by decide, by decide, by decide +kernel⟩ rfl ⟨by decide, by decide⟩ rfl (Nat.le_of_ble_eq_true rfl) ⟨Nat.zero_le _, Nat.zero_le _⟩ dX8_dismiss_54 ?_
                rintro _ _ ⟨rfl, rfl⟩
                refine k_icmp_ge (tgt := 80) C dX8_dismiss_57 (by decide) ⟨by omega, by omega⟩ ⟨by omega, by omega⟩ (fun c57 => ?_) (fun c57 => ?_)
                · try (exfalso; omega)
                  all_goals (
                    refine k_aload_n C dX8_dismiss_80 rfl ?_
                    refine k_get C (k := 0) inX8 (ci := 8) rfl (by decide) fl_X8_7 dX8_dismiss_81 (by repeat (first | exact hs_eq _ _ _ | refine hs_ne (by omega) ?_ | assumption)) rfl ?_
                    refine k_bipush C dX8_dismiss_84 (by decide +kernel) ?_
                    refine k_iaload C dX8_dismiss_86 (by repeat (first | exact hs_eq _ _ _ | refine hs_ne (by omega) ?_ | assumption)) (by omega) (by omega) (by omega) ?_
                    try simp (disch := omega) only [hs_hs, zDisK_21, zDisK_hi]
                    refine k_iret C hr dX8_dismiss_87 ?_
                    first
                      | (have ek : kk = 22 + 5 * (zrr 21 - 1) := by omega
                         rw [ek]
                         exact Or.inl ⟨by omega, rfl, ⟨(by repeat (first | exact hs_eq _ _ _ | refine hs_ne (by omega) ?_ | assumption)), (by repeat (first | exact hs_eq _ _ _ | refine hs_ne (by omega) ?_ | assumption)), (by repeat (first | exact hs_eq _ _ _ | refine hs_ne (by omega) ?_ | assumption)), (by repeat (first | exact hs_eq _ _ _ | refine hs_ne (by omega) ?_ | assumption)), (by repeat (first | exact hs_eq _ _ _ | refine hs_ne (by omega) ?_ | assumption)), (by repeat (first | exact hs_eq _ _ _ | refine hs_ne (by omega) ?_ | assumption))⟩, Fr.tr (Fr.tr (fun aaa haa => by repeat (first | rfl | refine hs_ne (by omega) ?_)) hF1) (fun aaa haa => by repeat (first | rfl | refine hs_ne (by omega) ?_))⟩)
                      | exact Or.inr ⟨by omega, rfl, ⟨(by repeat (first | exact hs_eq _ _ _ | refine hs_ne (by omega) ?_ | assumption)), (by repeat (first | exact hs_eq _ _ _ | refine hs_ne (by omega) ?_ | assumption)), (by repeat (first | exact hs_eq _ _ _ | refine hs_ne (by omega) ?_ | assumption)), (by repeat (first | exact hs_eq _ _ _ | refine hs_ne (by omega) ?_ | assumption)), (by repeat (first | exact hs_eq _ _ _ | refine hs_ne (by omega) ?_ | assumption)), (by repeat (first | exact hs_eq _ _ _ | refine hs_ne (by omega) ?_ | assumption))⟩, fun aaa haa => by repeat (first | rfl | refine hs_ne (by omega) ?_)⟩)
                · try (exfalso; omega)
                  all_goals (
                    refine k_aload_n C dX8_dismiss_60 rfl ?_
                    refine k_get C (k := 0) inX8 (ci := 8) rfl (by decide) fl_X8_7 dX8_dismiss_61 (by repeat (first | exact hs_eq _ _ _ | refine hs_ne (by omega) ?_ | assumption)) rfl ?_
                    refine k_iload_n C dX8_dismiss_64 rfl ?_
                    refine k_aload_n C dX8_dismiss_65 rfl ?_
                    refine k_get C (k := 0) inX8 (ci := 8) rfl (by decide) fl_X8_7 dX8_dismiss_66 (by repeat (first | exact hs_eq _ _ _ | refine hs_ne (by omega) ?_ | assumption)) rfl ?_
                    refine k_iload_n C dX8_dismiss_69 rfl ?_
                    refine k_iconst C dX8_dismiss_70 ?_
                    refine k_iadd C dX8_dismiss_71 ?_
                    refine k_iaload C dX8_dismiss_72 (by repeat (first | exact hs_eq _ _ _ | refine hs_ne (by omega) ?_ | assumption)) (by omega) (by omega) (by omega) ?_
                    try simp (disch := omega) only [hs_hs, zDisK_21, zDisK_hi]
                    refine k_iastore C dX8_dismiss_73 (by repeat (first | exact hs_eq _ _ _ | refine hs_ne (by omega) ?_ | assumption)) (by omega) (by omega) (by omega) ?_
                    refine k_iinc C dX8_dismiss_74 rfl (by decide) rfl ?_
                    refine k_goto (tgt := 46) C dX8_dismiss_77 (by decide) ?_
                    try simp only [hs_hs]
                    rw [zDisK_s zrr (zrr 21 - 1) (by omega) hk0]
                    exact ih (kk + 1) (by omega) (by omega) (by omega))
            rw [zDisK_0 zrr (22 + 5 * ww)]
            exact loop46 60 (22 + 5 * ww) (by omega) (by omega) (by omega))
        · try (exfalso; omega)
          all_goals (
            refine k_iconst C dX8_dismiss_24 ?_
            refine k_iret C hr dX8_dismiss_25 ?_
            first
              | (have ek : kk = 22 + 5 * (zrr 21 - 1) := by omega
                 rw [ek]
                 exact Or.inl ⟨by omega, rfl, ⟨(by repeat (first | exact hs_eq _ _ _ | refine hs_ne (by omega) ?_ | assumption)), (by repeat (first | exact hs_eq _ _ _ | refine hs_ne (by omega) ?_ | assumption)), (by repeat (first | exact hs_eq _ _ _ | refine hs_ne (by omega) ?_ | assumption)), (by repeat (first | exact hs_eq _ _ _ | refine hs_ne (by omega) ?_ | assumption)), (by repeat (first | exact hs_eq _ _ _ | refine hs_ne (by omega) ?_ | assumption)), (by repeat (first | exact hs_eq _ _ _ | refine hs_ne (by omega) ?_ | assumption))⟩, Fr.tr (Fr.tr (fun aaa haa => by repeat (first | rfl | refine hs_ne (by omega) ?_)) hF1) (fun aaa haa => by repeat (first | rfl | refine hs_ne (by omega) ?_))⟩)
              | exact Or.inr ⟨by omega, rfl, ⟨(by repeat (first | exact hs_eq _ _ _ | refine hs_ne (by omega) ?_ | assumption)), (by repeat (first | exact hs_eq _ _ _ | refine hs_ne (by omega) ?_ | assumption)), (by repeat (first | exact hs_eq _ _ _ | refine hs_ne (by omega) ?_ | assumption)), (by repeat (first | exact hs_eq _ _ _ | refine hs_ne (by omega) ?_ | assumption)), (by repeat (first | exact hs_eq _ _ _ | refine hs_ne (by omega) ?_ | assumption)), (by repeat (first | exact hs_eq _ _ _ | refine hs_ne (by omega) ?_ | assumption))⟩, fun aaa haa => by repeat (first | rfl | refine hs_ne (by omega) ?_)⟩))
    · try (exfalso; omega)
      all_goals (
        refine k_iconst C dX8_dismiss_9 ?_
        refine k_goto (tgt := 14) C dX8_dismiss_10 (by decide) ?_
        refine k_put C (k := 5) inX8 tyX8_ok nmX8 (ci := 8) rfl (by decide) fl_X8_25 rfl (Nat.le_of_ble_eq_true rfl) dX8_dismiss_14 (by repeat (first | exact hs_eq _ _ _ | refine hs_ne (by omega) ?_ | assumption)) ?_
        refine k_aload_n C dX8_dismiss_17 rfl ?_
        refine k_get C (k := 5) inX8 (ci := 8) rfl (by decide) fl_X8_25 dX8_dismiss_18 (by repeat (first | exact hs_eq _ _ _ | refine hs_ne (by omega) ?_ | assumption)) rfl ?_
        refine k_if_le (tgt := 26) C dX8_dismiss_21 (by decide) ⟨by omega, by omega⟩ (fun c21 => ?_) (fun c21 => ?_)
        · try (exfalso; omega)
          all_goals (
            refine k_aload_n C dX8_dismiss_26 rfl ?_
            refine k_callV C (n := 0) (as := []) (ct_X8_save l D tc base oo zrr hhi htx has hro st ln (0) re du hsh _ ⟨(by repeat (first | exact hs_eq _ _ _ | refine hs_ne (by omega) ?_ | assumption)), (by repeat (first | exact hs_eq _ _ _ | refine hs_ne (by omega) ?_ | assumption)), (by repeat (first | exact hs_eq _ _ _ | refine hs_ne (by omega) ?_ | assumption)), (by repeat (first | exact hs_eq _ _ _ | refine hs_ne (by omega) ?_ | assumption)), (by repeat (first | exact hs_eq _ _ _ | refine hs_ne (by omega) ?_ | assumption)), (by repeat (first | exact hs_eq _ _ _ | refine hs_ne (by omega) ?_ | assumption))⟩ hst) ml_X8_102 im_X8_save se_X8_save ini_X8 co_X8_save ⟨rfl, by decide, by decide, by decide +kernel⟩ rfl (ci := 8) rfl (by repeat (first | exact hs_eq _ _ _ | refine hs_ne (by omega) ?_ | assumption)) ⟨by decide, by decide⟩ rfl (Nat.le_of_ble_eq_true rfl) ⟨Nat.zero_le _, Nat.zero_le _⟩ dX8_dismiss_27 ?_
            rintro _ hsv ⟨rfl, hM1, hF1⟩
            obtain ⟨k0, k1, k2, k3, k4, k5⟩ := id hM1
            refine k_aload_n C dX8_dismiss_30 rfl ?_
            refine k_get C (k := 0) inX8 (ci := 8) rfl (by decide) fl_X8_7 dX8_dismiss_31 (by repeat (first | exact hs_eq _ _ _ | refine hs_ne (by omega) ?_ | assumption)) rfl ?_
            refine k_bipush C dX8_dismiss_34 (by decide +kernel) ?_
            refine k_dup2 C dX8_dismiss_36 rfl rfl ?_
            refine k_iaload C dX8_dismiss_37 (by repeat (first | exact hs_eq _ _ _ | refine hs_ne (by omega) ?_ | assumption)) (by omega) (by omega) (by omega) ?_
            try simp (disch := omega) only [hs_hs, zDisK_21, zDisK_hi]
            refine k_iconst C dX8_dismiss_38 ?_
            refine k_isub C dX8_dismiss_39 ?_
            refine k_iastore C dX8_dismiss_40 (by repeat (first | exact hs_eq _ _ _ | refine hs_ne (by omega) ?_ | assumption)) (by omega) (by omega) (by omega) ?_
            refine k_iload_n C dX8_dismiss_41 rfl ?_
            refine k_callS C (n := 1) (as := [_]) (ct_X8_at l D tc base _ _) ml_X8_36 sm_X8_at ini_X8 co_X8_at ⟨by decide, by decide, by decide +kernel⟩ rfl ⟨by decide, by decide⟩ rfl (Nat.le_of_ble_eq_true rfl) ⟨Nat.zero_le _, Nat.zero_le _⟩ dX8_dismiss_42 ?_
            rintro _ _ ⟨rfl, rfl⟩
            refine k_istore_n C dX8_dismiss_45 (by decide) rfl ?_
            have loop46 : ∀ (n : Nat) (kk : Int), 22 + 5 * ww ≤ kk → kk ≤ 22 + 5 * (zrr 21 - 1) → (60 : Int) - kk < (n : Int) → Wk D tc base 3 p l e (lvR 2) s m args below meth c 0 0 (MQ below (Qx D tc base (fun r h' => ((0 ≤ ww ∧ ww < zrr 21) ∧ r = some (aI (zrr 21 - 1)) ∧ MA h' oo (zDisK zrr (zrr 21 - 1) (22 + 5 * ww) (22 + 5 * (zrr 21 - 1))) (sHi zrr hhi st) (htx) (has) (hro) (sSt st) (ln) (0) (re) (du) (hsh) ∧ Fr hpp h' oo 6) ∨ (¬ (0 ≤ ww ∧ ww < zrr 21) ∧ r = some (aI (0)) ∧ MA h' oo (zrr) (hhi) (htx) (has) (hro) (st) (ln) (1) (re) (du) (hsh) ∧ Fr hpp h' oo 6))) args s 0 0 (fun q => base ≤ q)) 46 [some (aR oo), some (aI ww), some (aI kk)] [] (hs hsv (oo + 1) (eA 0 67 (zDisK zrr (zrr 21 - 1) (22 + 5 * ww) kk))) := by
              intro n
              induction n with
              | zero =>
                intro kk hk0 hk1 hmu
                exfalso
                omega
              | succ n ih =>
                intro kk hk0 hk1 hmu
                refine k_iload_n C dX8_dismiss_46 rfl ?_
                refine k_aload_n C dX8_dismiss_47 rfl ?_
                refine k_get C (k := 0) inX8 (ci := 8) rfl (by decide) fl_X8_7 dX8_dismiss_48 (by repeat (first | exact hs_eq _ _ _ | refine hs_ne (by omega) ?_ | assumption)) rfl ?_
                refine k_bipush C dX8_dismiss_51 (by decide +kernel) ?_
                refine k_iaload C dX8_dismiss_53 (by repeat (first | exact hs_eq _ _ _ | refine hs_ne (by omega) ?_ | assumption)) (by omega) (by omega) (by omega) ?_
                try simp (disch := omega) only [hs_hs, zDisK_21, zDisK_hi]
                refine k_callS C (n := 1) (as := [_]) (ct_X8_at l D tc base _ _) ml_X8_36 sm_X8_at ini_X8 co_X8_at ⟨by decide, by decide, by decide +kernel⟩ rfl ⟨by decide, by decide⟩ rfl (Nat.le_of_ble_eq_true rfl) ⟨Nat.zero_le _, Nat.zero_le _⟩ dX8_dismiss_54 ?_
                rintro _ _ ⟨rfl, rfl⟩
                refine k_icmp_ge (tgt := 80) C dX8_dismiss_57 (by decide) ⟨by omega, by omega⟩ ⟨by omega, by omega⟩ (fun c57 => ?_) (fun c57 => ?_)
                · try (exfalso; omega)
                  all_goals (
                    refine k_aload_n C dX8_dismiss_80 rfl ?_
                    refine k_get C (k := 0) inX8 (ci := 8) rfl (by decide) fl_X8_7 dX8_dismiss_81 (by repeat (first | exact hs_eq _ _ _ | refine hs_ne (by omega) ?_ | assumption)) rfl ?_
                    refine k_bipush C dX8_dismiss_84 (by decide +kernel) ?_
                    refine k_iaload C dX8_dismiss_86 (by repeat (first | exact hs_eq _ _ _ | refine hs_ne (by omega) ?_ | assumption)) (by omega) (by omega) (by omega) ?_
                    try simp (disch := omega) only [hs_hs, zDisK_21, zDisK_hi]
                    refine k_iret C hr dX8_dismiss_87 ?_
                    first
                      | (have ek : kk = 22 + 5 * (zrr 21 - 1) := by omega
                         rw [ek]
                         exact Or.inl ⟨by omega, rfl, ⟨(by repeat (first | exact hs_eq _ _ _ | refine hs_ne (by omega) ?_ | assumption)), (by repeat (first | exact hs_eq _ _ _ | refine hs_ne (by omega) ?_ | assumption)), (by repeat (first | exact hs_eq _ _ _ | refine hs_ne (by omega) ?_ | assumption)), (by repeat (first | exact hs_eq _ _ _ | refine hs_ne (by omega) ?_ | assumption)), (by repeat (first | exact hs_eq _ _ _ | refine hs_ne (by omega) ?_ | assumption)), (by repeat (first | exact hs_eq _ _ _ | refine hs_ne (by omega) ?_ | assumption))⟩, Fr.tr (Fr.tr (fun aaa haa => by repeat (first | rfl | refine hs_ne (by omega) ?_)) hF1) (fun aaa haa => by repeat (first | rfl | refine hs_ne (by omega) ?_))⟩)
                      | exact Or.inr ⟨by omega, rfl, ⟨(by repeat (first | exact hs_eq _ _ _ | refine hs_ne (by omega) ?_ | assumption)), (by repeat (first | exact hs_eq _ _ _ | refine hs_ne (by omega) ?_ | assumption)), (by repeat (first | exact hs_eq _ _ _ | refine hs_ne (by omega) ?_ | assumption)), (by repeat (first | exact hs_eq _ _ _ | refine hs_ne (by omega) ?_ | assumption)), (by repeat (first | exact hs_eq _ _ _ | refine hs_ne (by omega) ?_ | assumption)), (by repeat (first | exact hs_eq _ _ _ | refine hs_ne (by omega) ?_ | assumption))⟩, fun aaa haa => by repeat (first | rfl | refine hs_ne (by omega) ?_)⟩)
                · try (exfalso; omega)
                  all_goals (
                    refine k_aload_n C dX8_dismiss_60 rfl ?_
                    refine k_get C (k := 0) inX8 (ci := 8) rfl (by decide) fl_X8_7 dX8_dismiss_61 (by repeat (first | exact hs_eq _ _ _ | refine hs_ne (by omega) ?_ | assumption)) rfl ?_
                    refine k_iload_n C dX8_dismiss_64 rfl ?_
                    refine k_aload_n C dX8_dismiss_65 rfl ?_
                    refine k_get C (k := 0) inX8 (ci := 8) rfl (by decide) fl_X8_7 dX8_dismiss_66 (by repeat (first | exact hs_eq _ _ _ | refine hs_ne (by omega) ?_ | assumption)) rfl ?_
                    refine k_iload_n C dX8_dismiss_69 rfl ?_
                    refine k_iconst C dX8_dismiss_70 ?_
                    refine k_iadd C dX8_dismiss_71 ?_
                    refine k_iaload C dX8_dismiss_72 (by repeat (first | exact hs_eq _ _ _ | refine hs_ne (by omega) ?_ | assumption)) (by omega) (by omega) (by omega) ?_
                    try simp (disch := omega) only [hs_hs, zDisK_21, zDisK_hi]
                    refine k_iastore C dX8_dismiss_73 (by repeat (first | exact hs_eq _ _ _ | refine hs_ne (by omega) ?_ | assumption)) (by omega) (by omega) (by omega) ?_
                    refine k_iinc C dX8_dismiss_74 rfl (by decide) rfl ?_
                    refine k_goto (tgt := 46) C dX8_dismiss_77 (by decide) ?_
                    try simp only [hs_hs]
                    rw [zDisK_s zrr (zrr 21 - 1) (by omega) hk0]
                    exact ih (kk + 1) (by omega) (by omega) (by omega))
            rw [zDisK_0 zrr (22 + 5 * ww)]
            exact loop46 60 (22 + 5 * ww) (by omega) (by omega) (by omega))
        · try (exfalso; omega)
          all_goals (
            refine k_iconst C dX8_dismiss_24 ?_
            refine k_iret C hr dX8_dismiss_25 ?_
            first
              | (have ek : kk = 22 + 5 * (zrr 21 - 1) := by omega
                 rw [ek]
                 exact Or.inl ⟨by omega, rfl, ⟨(by repeat (first | exact hs_eq _ _ _ | refine hs_ne (by omega) ?_ | assumption)), (by repeat (first | exact hs_eq _ _ _ | refine hs_ne (by omega) ?_ | assumption)), (by repeat (first | exact hs_eq _ _ _ | refine hs_ne (by omega) ?_ | assumption)), (by repeat (first | exact hs_eq _ _ _ | refine hs_ne (by omega) ?_ | assumption)), (by repeat (first | exact hs_eq _ _ _ | refine hs_ne (by omega) ?_ | assumption)), (by repeat (first | exact hs_eq _ _ _ | refine hs_ne (by omega) ?_ | assumption))⟩, Fr.tr (Fr.tr (fun aaa haa => by repeat (first | rfl | refine hs_ne (by omega) ?_)) hF1) (fun aaa haa => by repeat (first | rfl | refine hs_ne (by omega) ?_))⟩)
              | exact Or.inr ⟨by omega, rfl, ⟨(by repeat (first | exact hs_eq _ _ _ | refine hs_ne (by omega) ?_ | assumption)), (by repeat (first | exact hs_eq _ _ _ | refine hs_ne (by omega) ?_ | assumption)), (by repeat (first | exact hs_eq _ _ _ | refine hs_ne (by omega) ?_ | assumption)), (by repeat (first | exact hs_eq _ _ _ | refine hs_ne (by omega) ?_ | assumption)), (by repeat (first | exact hs_eq _ _ _ | refine hs_ne (by omega) ?_ | assumption)), (by repeat (first | exact hs_eq _ _ _ | refine hs_ne (by omega) ?_ | assumption))⟩, fun aaa haa => by repeat (first | rfl | refine hs_ne (by omega) ?_)⟩))
  · skip
    refine k_if_eq (tgt := 13) C dX8_dismiss_6 (by decide) ⟨by omega, by omega⟩ (fun c6 => ?_) (fun c6 => ?_)
    · try (exfalso; omega)
      all_goals (
        refine k_iconst C dX8_dismiss_13 ?_
        refine k_put C (k := 5) inX8 tyX8_ok nmX8 (ci := 8) rfl (by decide) fl_X8_25 rfl (Nat.le_of_ble_eq_true rfl) dX8_dismiss_14 (by repeat (first | exact hs_eq _ _ _ | refine hs_ne (by omega) ?_ | assumption)) ?_
        refine k_aload_n C dX8_dismiss_17 rfl ?_
        refine k_get C (k := 5) inX8 (ci := 8) rfl (by decide) fl_X8_25 dX8_dismiss_18 (by repeat (first | exact hs_eq _ _ _ | refine hs_ne (by omega) ?_ | assumption)) rfl ?_
        refine k_if_le (tgt := 26) C dX8_dismiss_21 (by decide) ⟨by omega, by omega⟩ (fun c21 => ?_) (fun c21 => ?_)
        · try (exfalso; omega)
          all_goals (
            refine k_aload_n C dX8_dismiss_26 rfl ?_
            refine k_callV C (n := 0) (as := []) (ct_X8_save l D tc base oo zrr hhi htx has hro st ln (0) re du hsh _ ⟨(by repeat (first | exact hs_eq _ _ _ | refine hs_ne (by omega) ?_ | assumption)), (by repeat (first | exact hs_eq _ _ _ | refine hs_ne (by omega) ?_ | assumption)), (by repeat (first | exact hs_eq _ _ _ | refine hs_ne (by omega) ?_ | assumption)), (by repeat (first | exact hs_eq _ _ _ | refine hs_ne (by omega) ?_ | assumption)), (by repeat (first | exact hs_eq _ _ _ | refine hs_ne (by omega) ?_ | assumption)), (by repeat (first | exact hs_eq _ _ _ | refine hs_ne (by omega) ?_ | assumption))⟩ hst) ml_X8_102 im_X8_save se_X8_save ini_X8 co_X8_save ⟨rfl, by decide, by decide, by decide +kernel⟩ rfl (ci := 8) rfl (by repeat (first | exact hs_eq _ _ _ | refine hs_ne (by omega) ?_ | assumption)) ⟨by decide, by decide⟩ rfl (Nat.le_of_ble_eq_true rfl) ⟨Nat.zero_le _, Nat.zero_le _⟩ dX8_dismiss_27 ?_
            rintro _ hsv ⟨rfl, hM1, hF1⟩
            obtain ⟨k0, k1, k2, k3, k4, k5⟩ := id hM1
            refine k_aload_n C dX8_dismiss_30 rfl ?_
            refine k_get C (k := 0) inX8 (ci := 8) rfl (by decide) fl_X8_7 dX8_dismiss_31 (by repeat (first | exact hs_eq _ _ _ | refine hs_ne (by omega) ?_ | assumption)) rfl ?_
            refine k_bipush C dX8_dismiss_34 (by decide +kernel) ?_
            refine k_dup2 C dX8_dismiss_36 rfl rfl ?_
            refine k_iaload C dX8_dismiss_37 (by repeat (first | exact hs_eq _ _ _ | refine hs_ne (by omega) ?_ | assumption)) (by omega) (by omega) (by omega) ?_
            try simp (disch := omega) only [hs_hs, zDisK_21, zDisK_hi]
            refine k_iconst C dX8_dismiss_38 ?_
            refine k_isub C dX8_dismiss_39 ?_
            refine k_iastore C dX8_dismiss_40 (by repeat (first | exact hs_eq _ _ _ | refine hs_ne (by omega) ?_ | assumption)) (by omega) (by omega) (by omega) ?_
            refine k_iload_n C dX8_dismiss_41 rfl ?_
            refine k_callS C (n := 1) (as := [_]) (ct_X8_at l D tc base _ _) ml_X8_36 sm_X8_at ini_X8 co_X8_at ⟨by decide, by decide, by decide +kernel⟩ rfl ⟨by decide, by decide⟩ rfl (Nat.le_of_ble_eq_true rfl) ⟨Nat.zero_le _, Nat.zero_le _⟩ dX8_dismiss_42 ?_
            rintro _ _ ⟨rfl, rfl⟩
            refine k_istore_n C dX8_dismiss_45 (by decide) rfl ?_
            have loop46 : ∀ (n : Nat) (kk : Int), 22 + 5 * ww ≤ kk → kk ≤ 22 + 5 * (zrr 21 - 1) → (60 : Int) - kk < (n : Int) → Wk D tc base 3 p l e (lvR 2) s m args below meth c 0 0 (MQ below (Qx D tc base (fun r h' => ((0 ≤ ww ∧ ww < zrr 21) ∧ r = some (aI (zrr 21 - 1)) ∧ MA h' oo (zDisK zrr (zrr 21 - 1) (22 + 5 * ww) (22 + 5 * (zrr 21 - 1))) (sHi zrr hhi st) (htx) (has) (hro) (sSt st) (ln) (0) (re) (du) (hsh) ∧ Fr hpp h' oo 6) ∨ (¬ (0 ≤ ww ∧ ww < zrr 21) ∧ r = some (aI (0)) ∧ MA h' oo (zrr) (hhi) (htx) (has) (hro) (st) (ln) (1) (re) (du) (hsh) ∧ Fr hpp h' oo 6))) args s 0 0 (fun q => base ≤ q)) 46 [some (aR oo), some (aI ww), some (aI kk)] [] (hs hsv (oo + 1) (eA 0 67 (zDisK zrr (zrr 21 - 1) (22 + 5 * ww) kk))) := by
              intro n
              induction n with
              | zero =>
                intro kk hk0 hk1 hmu
                exfalso
                omega
              | succ n ih =>
                intro kk hk0 hk1 hmu
                refine k_iload_n C dX8_dismiss_46 rfl ?_
                refine k_aload_n C dX8_dismiss_47 rfl ?_
                refine k_get C (k := 0) inX8 (ci := 8) rfl (by decide) fl_X8_7 dX8_dismiss_48 (by repeat (first | exact hs_eq _ _ _ | refine hs_ne (by omega) ?_ | assumption)) rfl ?_
                refine k_bipush C dX8_dismiss_51 (by decide +kernel) ?_
                refine k_iaload C dX8_dismiss_53 (by repeat (first | exact hs_eq _ _ _ | refine hs_ne (by omega) ?_ | assumption)) (by omega) (by omega) (by omega) ?_
                try simp (disch := omega) only [hs_hs, zDisK_21, zDisK_hi]
                refine k_callS C (n := 1) (as := [_]) (ct_X8_at l D tc base _ _) ml_X8_36 sm_X8_at ini_X8 co_X8_at ⟨by decide, by decide, by decide +kernel⟩ rfl ⟨by decide, by decide⟩ rfl (Nat.le_of_ble_eq_true rfl) ⟨Nat.zero_le _, Nat.zero_le _⟩ dX8_dismiss_54 ?_
                rintro _ _ ⟨rfl, rfl⟩
                refine k_icmp_ge (tgt := 80) C dX8_dismiss_57 (by decide) ⟨by omega, by omega⟩ ⟨by omega, by omega⟩ (fun c57 => ?_) (fun c57 => ?_)
                · try (exfalso; omega)
                  all_goals (
                    refine k_aload_n C dX8_dismiss_80 rfl ?_
                    refine k_get C (k := 0) inX8 (ci := 8) rfl (by decide) fl_X8_7 dX8_dismiss_81 (by repeat (first | exact hs_eq _ _ _ | refine hs_ne (by omega) ?_ | assumption)) rfl ?_
                    refine k_bipush C dX8_dismiss_84 (by decide +kernel) ?_
                    refine k_iaload C dX8_dismiss_86 (by repeat (first | exact hs_eq _ _ _ | refine hs_ne (by omega) ?_ | assumption)) (by omega) (by omega) (by omega) ?_
                    try simp (disch := omega) only [hs_hs, zDisK_21, zDisK_hi]
                    refine k_iret C hr dX8_dismiss_87 ?_
                    first
                      | (have ek : kk = 22 + 5 * (zrr 21 - 1) := by omega
                         rw [ek]
                         exact Or.inl ⟨by omega, rfl, ⟨(by repeat (first | exact hs_eq _ _ _ | refine hs_ne (by omega) ?_ | assumption)), (by repeat (first | exact hs_eq _ _ _ | refine hs_ne (by omega) ?_ | assumption)), (by repeat (first | exact hs_eq _ _ _ | refine hs_ne (by omega) ?_ | assumption)), (by repeat (first | exact hs_eq _ _ _ | refine hs_ne (by omega) ?_ | assumption)), (by repeat (first | exact hs_eq _ _ _ | refine hs_ne (by omega) ?_ | assumption)), (by repeat (first | exact hs_eq _ _ _ | refine hs_ne (by omega) ?_ | assumption))⟩, Fr.tr (Fr.tr (fun aaa haa => by repeat (first | rfl | refine hs_ne (by omega) ?_)) hF1) (fun aaa haa => by repeat (first | rfl | refine hs_ne (by omega) ?_))⟩)
                      | exact Or.inr ⟨by omega, rfl, ⟨(by repeat (first | exact hs_eq _ _ _ | refine hs_ne (by omega) ?_ | assumption)), (by repeat (first | exact hs_eq _ _ _ | refine hs_ne (by omega) ?_ | assumption)), (by repeat (first | exact hs_eq _ _ _ | refine hs_ne (by omega) ?_ | assumption)), (by repeat (first | exact hs_eq _ _ _ | refine hs_ne (by omega) ?_ | assumption)), (by repeat (first | exact hs_eq _ _ _ | refine hs_ne (by omega) ?_ | assumption)), (by repeat (first | exact hs_eq _ _ _ | refine hs_ne (by omega) ?_ | assumption))⟩, fun aaa haa => by repeat (first | rfl | refine hs_ne (by omega) ?_)⟩)
                · try (exfalso; omega)
                  all_goals (
                    refine k_aload_n C dX8_dismiss_60 rfl ?_
                    refine k_get C (k := 0) inX8 (ci := 8) rfl (by decide) fl_X8_7 dX8_dismiss_61 (by repeat (first | exact hs_eq _ _ _ | refine hs_ne (by omega) ?_ | assumption)) rfl ?_
                    refine k_iload_n C dX8_dismiss_64 rfl ?_
                    refine k_aload_n C dX8_dismiss_65 rfl ?_
                    refine k_get C (k := 0) inX8 (ci := 8) rfl (by decide) fl_X8_7 dX8_dismiss_66 (by repeat (first | exact hs_eq _ _ _ | refine hs_ne (by omega) ?_ | assumption)) rfl ?_
                    refine k_iload_n C dX8_dismiss_69 rfl ?_
                    refine k_iconst C dX8_dismiss_70 ?_
                    refine k_iadd C dX8_dismiss_71 ?_
                    refine k_iaload C dX8_dismiss_72 (by repeat (first | exact hs_eq _ _ _ | refine hs_ne (by omega) ?_ | assumption)) (by omega) (by omega) (by omega) ?_
                    try simp (disch := omega) only [hs_hs, zDisK_21, zDisK_hi]
                    refine k_iastore C dX8_dismiss_73 (by repeat (first | exact hs_eq _ _ _ | refine hs_ne (by omega) ?_ | assumption)) (by omega) (by omega) (by omega) ?_
                    refine k_iinc C dX8_dismiss_74 rfl (by decide) rfl ?_
                    refine k_goto (tgt := 46) C dX8_dismiss_77 (by decide) ?_
                    try simp only [hs_hs]
                    rw [zDisK_s zrr (zrr 21 - 1) (by omega) hk0]
                    exact ih (kk + 1) (by omega) (by omega) (by omega))
            rw [zDisK_0 zrr (22 + 5 * ww)]
            exact loop46 60 (22 + 5 * ww) (by omega) (by omega) (by omega))
        · try (exfalso; omega)
          all_goals (
            refine k_iconst C dX8_dismiss_24 ?_
            refine k_iret C hr dX8_dismiss_25 ?_
            first
              | (have ek : kk = 22 + 5 * (zrr 21 - 1) := by omega
                 rw [ek]
                 exact Or.inl ⟨by omega, rfl, ⟨(by repeat (first | exact hs_eq _ _ _ | refine hs_ne (by omega) ?_ | assumption)), (by repeat (first | exact hs_eq _ _ _ | refine hs_ne (by omega) ?_ | assumption)), (by repeat (first | exact hs_eq _ _ _ | refine hs_ne (by omega) ?_ | assumption)), (by repeat (first | exact hs_eq _ _ _ | refine hs_ne (by omega) ?_ | assumption)), (by repeat (first | exact hs_eq _ _ _ | refine hs_ne (by omega) ?_ | assumption)), (by repeat (first | exact hs_eq _ _ _ | refine hs_ne (by omega) ?_ | assumption))⟩, Fr.tr (Fr.tr (fun aaa haa => by repeat (first | rfl | refine hs_ne (by omega) ?_)) hF1) (fun aaa haa => by repeat (first | rfl | refine hs_ne (by omega) ?_))⟩)
              | exact Or.inr ⟨by omega, rfl, ⟨(by repeat (first | exact hs_eq _ _ _ | refine hs_ne (by omega) ?_ | assumption)), (by repeat (first | exact hs_eq _ _ _ | refine hs_ne (by omega) ?_ | assumption)), (by repeat (first | exact hs_eq _ _ _ | refine hs_ne (by omega) ?_ | assumption)), (by repeat (first | exact hs_eq _ _ _ | refine hs_ne (by omega) ?_ | assumption)), (by repeat (first | exact hs_eq _ _ _ | refine hs_ne (by omega) ?_ | assumption)), (by repeat (first | exact hs_eq _ _ _ | refine hs_ne (by omega) ?_ | assumption))⟩, fun aaa haa => by repeat (first | rfl | refine hs_ne (by omega) ?_)⟩))
    · try (exfalso; omega)
      all_goals (
        refine k_iconst C dX8_dismiss_9 ?_
        refine k_goto (tgt := 14) C dX8_dismiss_10 (by decide) ?_
        refine k_put C (k := 5) inX8 tyX8_ok nmX8 (ci := 8) rfl (by decide) fl_X8_25 rfl (Nat.le_of_ble_eq_true rfl) dX8_dismiss_14 (by repeat (first | exact hs_eq _ _ _ | refine hs_ne (by omega) ?_ | assumption)) ?_
        refine k_aload_n C dX8_dismiss_17 rfl ?_
        refine k_get C (k := 5) inX8 (ci := 8) rfl (by decide) fl_X8_25 dX8_dismiss_18 (by repeat (first | exact hs_eq _ _ _ | refine hs_ne (by omega) ?_ | assumption)) rfl ?_
        refine k_if_le (tgt := 26) C dX8_dismiss_21 (by decide) ⟨by omega, by omega⟩ (fun c21 => ?_) (fun c21 => ?_)
        · try (exfalso; omega)
          all_goals (
            refine k_aload_n C dX8_dismiss_26 rfl ?_
            refine k_callV C (n := 0) (as := []) (ct_X8_save l D tc base oo zrr hhi htx has hro st ln (0) re du hsh _ ⟨(by repeat (first | exact hs_eq _ _ _ | refine hs_ne (by omega) ?_ | assumption)), (by repeat (first | exact hs_eq _ _ _ | refine hs_ne (by omega) ?_ | assumption)), (by repeat (first | exact hs_eq _ _ _ | refine hs_ne (by omega) ?_ | assumption)), (by repeat (first | exact hs_eq _ _ _ | refine hs_ne (by omega) ?_ | assumption)), (by repeat (first | exact hs_eq _ _ _ | refine hs_ne (by omega) ?_ | assumption)), (by repeat (first | exact hs_eq _ _ _ | refine hs_ne (by omega) ?_ | assumption))⟩ hst) ml_X8_102 im_X8_save se_X8_save ini_X8 co_X8_save ⟨rfl, by decide, by decide, by decide +kernel⟩ rfl (ci := 8) rfl (by repeat (first | exact hs_eq _ _ _ | refine hs_ne (by omega) ?_ | assumption)) ⟨by decide, by decide⟩ rfl (Nat.le_of_ble_eq_true rfl) ⟨Nat.zero_le _, Nat.zero_le _⟩ dX8_dismiss_27 ?_
            rintro _ hsv ⟨rfl, hM1, hF1⟩
            obtain ⟨k0, k1, k2, k3, k4, k5⟩ := id hM1
            refine k_aload_n C dX8_dismiss_30 rfl ?_
            refine k_get C (k := 0) inX8 (ci := 8) rfl (by decide) fl_X8_7 dX8_dismiss_31 (by repeat (first | exact hs_eq _ _ _ | refine hs_ne (by omega) ?_ | assumption)) rfl ?_
            refine k_bipush C dX8_dismiss_34 (by decide +kernel) ?_
            refine k_dup2 C dX8_dismiss_36 rfl rfl ?_
            refine k_iaload C dX8_dismiss_37 (by repeat (first | exact hs_eq _ _ _ | refine hs_ne (by omega) ?_ | assumption)) (by omega) (by omega) (by omega) ?_
            try simp (disch := omega) only [hs_hs, zDisK_21, zDisK_hi]
            refine k_iconst C dX8_dismiss_38 ?_
            refine k_isub C dX8_dismiss_39 ?_
            refine k_iastore C dX8_dismiss_40 (by repeat (first | exact hs_eq _ _ _ | refine hs_ne (by omega) ?_ | assumption)) (by omega) (by omega) (by omega) ?_
            refine k_iload_n C dX8_dismiss_41 rfl ?_
            refine k_callS C (n := 1) (as := [_]) (ct_X8_at l D tc base _ _) ml_X8_36 sm_X8_at ini_X8 co_X8_at ⟨by decide, by decide, by decide +kernel⟩ rfl ⟨by decide, by decide⟩ rfl (Nat.le_of_ble_eq_true rfl) ⟨Nat.zero_le _, Nat.zero_le _⟩ dX8_dismiss_42 ?_
            rintro _ _ ⟨rfl, rfl⟩
            refine k_istore_n C dX8_dismiss_45 (by decide) rfl ?_
            have loop46 : ∀ (n : Nat) (kk : Int), 22 + 5 * ww ≤ kk → kk ≤ 22 + 5 * (zrr 21 - 1) → (60 : Int) - kk < (n : Int) → Wk D tc base 3 p l e (lvR 2) s m args below meth c 0 0 (MQ below (Qx D tc base (fun r h' => ((0 ≤ ww ∧ ww < zrr 21) ∧ r = some (aI (zrr 21 - 1)) ∧ MA h' oo (zDisK zrr (zrr 21 - 1) (22 + 5 * ww) (22 + 5 * (zrr 21 - 1))) (sHi zrr hhi st) (htx) (has) (hro) (sSt st) (ln) (0) (re) (du) (hsh) ∧ Fr hpp h' oo 6) ∨ (¬ (0 ≤ ww ∧ ww < zrr 21) ∧ r = some (aI (0)) ∧ MA h' oo (zrr) (hhi) (htx) (has) (hro) (st) (ln) (1) (re) (du) (hsh) ∧ Fr hpp h' oo 6))) args s 0 0 (fun q => base ≤ q)) 46 [some (aR oo), some (aI ww), some (aI kk)] [] (hs hsv (oo + 1) (eA 0 67 (zDisK zrr (zrr 21 - 1) (22 + 5 * ww) kk))) := by
              intro n
              induction n with
              | zero =>
                intro kk hk0 hk1 hmu
                exfalso
                omega
              | succ n ih =>
                intro kk hk0 hk1 hmu
                refine k_iload_n C dX8_dismiss_46 rfl ?_
                refine k_aload_n C dX8_dismiss_47 rfl ?_
                refine k_get C (k := 0) inX8 (ci := 8) rfl (by decide) fl_X8_7 dX8_dismiss_48 (by repeat (first | exact hs_eq _ _ _ | refine hs_ne (by omega) ?_ | assumption)) rfl ?_
                refine k_bipush C dX8_dismiss_51 (by decide +kernel) ?_
                refine k_iaload C dX8_dismiss_53 (by repeat (first | exact hs_eq _ _ _ | refine hs_ne (by omega) ?_ | assumption)) (by omega) (by omega) (by omega) ?_
                try simp (disch := omega) only [hs_hs, zDisK_21, zDisK_hi]
                refine k_callS C (n := 1) (as := [_]) (ct_X8_at l D tc base _ _) ml_X8_36 sm_X8_at ini_X8 co_X8_at ⟨by decide, by decide, by decide +kernel⟩ rfl ⟨by decide, by decide⟩ rfl (Nat.le_of_ble_eq_true rfl) ⟨Nat.zero_le _, Nat.zero_le _⟩ dX8_dismiss_54 ?_
                rintro _ _ ⟨rfl, rfl⟩
                refine k_icmp_ge (tgt := 80) C dX8_dismiss_57 (by decide) ⟨by omega, by omega⟩ ⟨by omega, by omega⟩ (fun c57 => ?_) (fun c57 => ?_)
                · try (exfalso; omega)
                  all_goals (
                    refine k_aload_n C dX8_dismiss_80 rfl ?_
                    refine k_get C (k := 0) inX8 (ci := 8) rfl (by decide) fl_X8_7 dX8_dismiss_81 (by repeat (first | exact hs_eq _ _ _ | refine hs_ne (by omega) ?_ | assumption)) rfl ?_
                    refine k_bipush C dX8_dismiss_84 (by decide +kernel) ?_
                    refine k_iaload C dX8_dismiss_86 (by repeat (first | exact hs_eq _ _ _ | refine hs_ne (by omega) ?_ | assumption)) (by omega) (by omega) (by omega) ?_
                    try simp (disch := omega) only [hs_hs, zDisK_21, zDisK_hi]
                    refine k_iret C hr dX8_dismiss_87 ?_
                    first
                      | (have ek : kk = 22 + 5 * (zrr 21 - 1) := by omega
                         rw [ek]
                         exact Or.inl ⟨by omega, rfl, ⟨(by repeat (first | exact hs_eq _ _ _ | refine hs_ne (by omega) ?_ | assumption)), (by repeat (first | exact hs_eq _ _ _ | refine hs_ne (by omega) ?_ | assumption)), (by repeat (first | exact hs_eq _ _ _ | refine hs_ne (by omega) ?_ | assumption)), (by repeat (first | exact hs_eq _ _ _ | refine hs_ne (by omega) ?_ | assumption)), (by repeat (first | exact hs_eq _ _ _ | refine hs_ne (by omega) ?_ | assumption)), (by repeat (first | exact hs_eq _ _ _ | refine hs_ne (by omega) ?_ | assumption))⟩, Fr.tr (Fr.tr (fun aaa haa => by repeat (first | rfl | refine hs_ne (by omega) ?_)) hF1) (fun aaa haa => by repeat (first | rfl | refine hs_ne (by omega) ?_))⟩)
                      | exact Or.inr ⟨by omega, rfl, ⟨(by repeat (first | exact hs_eq _ _ _ | refine hs_ne (by omega) ?_ | assumption)), (by repeat (first | exact hs_eq _ _ _ | refine hs_ne (by omega) ?_ | assumption)), (by repeat (first | exact hs_eq _ _ _ | refine hs_ne (by omega) ?_ | assumption)), (by repeat (first | exact hs_eq _ _ _ | refine hs_ne (by omega) ?_ | assumption)), (by repeat (first | exact hs_eq _ _ _ | refine hs_ne (by omega) ?_ | assumption)), (by repeat (first | exact hs_eq _ _ _ | refine hs_ne (by omega) ?_ | assumption))⟩, fun aaa haa => by repeat (first | rfl | refine hs_ne (by omega) ?_)⟩)
                · try (exfalso; omega)
                  all_goals (
                    refine k_aload_n C dX8_dismiss_60 rfl ?_
                    refine k_get C (k := 0) inX8 (ci := 8) rfl (by decide) fl_X8_7 dX8_dismiss_61 (by repeat (first | exact hs_eq _ _ _ | refine hs_ne (by omega) ?_ | assumption)) rfl ?_
                    refine k_iload_n C dX8_dismiss_64 rfl ?_
                    refine k_aload_n C dX8_dismiss_65 rfl ?_
                    refine k_get C (k := 0) inX8 (ci := 8) rfl (by decide) fl_X8_7 dX8_dismiss_66 (by repeat (first | exact hs_eq _ _ _ | refine hs_ne (by omega) ?_ | assumption)) rfl ?_
                    refine k_iload_n C dX8_dismiss_69 rfl ?_
                    refine k_iconst C dX8_dismiss_70 ?_
                    refine k_iadd C dX8_dismiss_71 ?_
                    refine k_iaload C dX8_dismiss_72 (by repeat (first | exact hs_eq _ _ _ | refine hs_ne (by omega) ?_ | assumption)) (by omega) (by omega) (by omega) ?_
                    try simp (disch := omega) only [hs_hs, zDisK_21, zDisK_hi]
                    refine k_iastore C dX8_dismiss_73 (by repeat (first | exact hs_eq _ _ _ | refine hs_ne (by omega) ?_ | assumption)) (by omega) (by omega) (by omega) ?_
                    refine k_iinc C dX8_dismiss_74 rfl (by decide) rfl ?_
                    refine k_goto (tgt := 46) C dX8_dismiss_77 (by decide) ?_
                    try simp only [hs_hs]
                    rw [zDisK_s zrr (zrr 21 - 1) (by omega) hk0]
                    exact ih (kk + 1) (by omega) (by omega) (by omega))
            rw [zDisK_0 zrr (22 + 5 * ww)]
            exact loop46 60 (22 + 5 * ww) (by omega) (by omega) (by omega))
        · try (exfalso; omega)
          all_goals (
            refine k_iconst C dX8_dismiss_24 ?_
            refine k_iret C hr dX8_dismiss_25 ?_
            first
              | (have ek : kk = 22 + 5 * (zrr 21 - 1) := by omega
                 rw [ek]
                 exact Or.inl ⟨by omega, rfl, ⟨(by repeat (first | exact hs_eq _ _ _ | refine hs_ne (by omega) ?_ | assumption)), (by repeat (first | exact hs_eq _ _ _ | refine hs_ne (by omega) ?_ | assumption)), (by repeat (first | exact hs_eq _ _ _ | refine hs_ne (by omega) ?_ | assumption)), (by repeat (first | exact hs_eq _ _ _ | refine hs_ne (by omega) ?_ | assumption)), (by repeat (first | exact hs_eq _ _ _ | refine hs_ne (by omega) ?_ | assumption)), (by repeat (first | exact hs_eq _ _ _ | refine hs_ne (by omega) ?_ | assumption))⟩, Fr.tr (Fr.tr (fun aaa haa => by repeat (first | rfl | refine hs_ne (by omega) ?_)) hF1) (fun aaa haa => by repeat (first | rfl | refine hs_ne (by omega) ?_))⟩)
              | exact Or.inr ⟨by omega, rfl, ⟨(by repeat (first | exact hs_eq _ _ _ | refine hs_ne (by omega) ?_ | assumption)), (by repeat (first | exact hs_eq _ _ _ | refine hs_ne (by omega) ?_ | assumption)), (by repeat (first | exact hs_eq _ _ _ | refine hs_ne (by omega) ?_ | assumption)), (by repeat (first | exact hs_eq _ _ _ | refine hs_ne (by omega) ?_ | assumption)), (by repeat (first | exact hs_eq _ _ _ | refine hs_ne (by omega) ?_ | assumption)), (by repeat (first | exact hs_eq _ _ _ | refine hs_ne (by omega) ?_ | assumption))⟩, fun aaa haa => by repeat (first | rfl | refine hs_ne (by omega) ?_)⟩))

set_option maxRecDepth 20000 in
set_option maxHeartbeats 1000000 in
theorem ct_X8_undo (l : Launch) (D : va_G) (tc : Nat → ClassId) (base : Nat) (oo : Nat) (zrr hhi htx has hro : Int → Int) (st ln th re du hsh : Int) (hpp : AH) (hM : MA hpp oo zrr hhi htx has hro st ln th re du hsh) (hst : 0 ≤ st ∧ st ≤ 6) (zoo : Int → Int) (hzo : 0 < st → ∀ jj : Int, 0 ≤ jj → jj < 67 → hhi (67 * (st - 1) + jj) = zoo jj) : CT l D tc base yX8_undo cX8_undo 2 (some .int) 0 [aR oo] hpp (fun r h' => (0 < st ∧ r = some (aI (st - 1)) ∧ MA h' oo (zoo) (hhi) (htx) (has) (hro) (st - 1) (ln) (0) (re) (du) (hsh) ∧ Fr hpp h' oo 6) ∨ (¬ 0 < st ∧ r = some (aI (0)) ∧ MA h' oo (zrr) (hhi) (htx) (has) (hro) (st) (ln) (1) (re) (du) (hsh) ∧ Fr hpp h' oo 6)) := by
  refine CT.of [some (aR oo), none] (by decide +kernel) rfl (Nat.le_of_ble_eq_true rfl) ?_
  intro p e s m args below meth c C hr hnm
  obtain ⟨g0, g1, g2, g3, g4, g5⟩ := id hM
  refine k_aload_n C dX8_undo_0 rfl ?_
  refine k_aload_n C dX8_undo_1 rfl ?_
  refine k_get C (k := 1) inX8 (ci := 8) rfl (by decide) fl_X8_29 dX8_undo_2 (by repeat (first | exact hs_eq _ _ _ | refine hs_ne (by omega) ?_ | assumption)) rfl ?_
  refine k_if_le (tgt := 12) C dX8_undo_5 (by decide) ⟨by omega, by omega⟩ (fun c5 => ?_) (fun c5 => ?_)
  · try (exfalso; omega)
    all_goals (
      refine k_iconst C dX8_undo_12 ?_
      refine k_put C (k := 5) inX8 tyX8_ok nmX8 (ci := 8) rfl (by decide) fl_X8_25 rfl (Nat.le_of_ble_eq_true rfl) dX8_undo_13 (by repeat (first | exact hs_eq _ _ _ | refine hs_ne (by omega) ?_ | assumption)) ?_
      refine k_aload_n C dX8_undo_16 rfl ?_
      refine k_get C (k := 5) inX8 (ci := 8) rfl (by decide) fl_X8_25 dX8_undo_17 (by repeat (first | exact hs_eq _ _ _ | refine hs_ne (by omega) ?_ | assumption)) rfl ?_
      refine k_if_le (tgt := 25) C dX8_undo_20 (by decide) ⟨by omega, by omega⟩ (fun c20 => ?_) (fun c20 => ?_)
      · try (exfalso; omega)
        all_goals (
          refine k_aload_n C dX8_undo_25 rfl ?_
          refine k_dup C dX8_undo_26 rfl ?_
          refine k_get C (k := 1) inX8 (ci := 8) rfl (by decide) fl_X8_29 dX8_undo_27 (by repeat (first | exact hs_eq _ _ _ | refine hs_ne (by omega) ?_ | assumption)) rfl ?_
          refine k_iconst C dX8_undo_30 ?_
          refine k_isub C dX8_undo_31 ?_
          refine k_put C (k := 1) inX8 tyX8_ok nmX8 (ci := 8) rfl (by decide) fl_X8_29 rfl (Nat.le_of_ble_eq_true rfl) dX8_undo_32 (by repeat (first | exact hs_eq _ _ _ | refine hs_ne (by omega) ?_ | assumption)) ?_
          refine k_iconst C dX8_undo_35 ?_
          refine k_istore_n C dX8_undo_36 (by decide) rfl ?_
          have loop37 : ∀ (n : Nat) (kk : Int) (hkk : AH), 0 ≤ kk → kk ≤ 67 → 0 < st → MA hkk oo (hCp zrr (fun jj => hhi (67 * (st - 1) + jj)) kk) (hhi) (htx) (has) (hro) (st - 1) (ln) (0) (re) (du) (hsh) → Fr hpp hkk oo 6 → (67 : Int) - kk < (n : Int) → Wk D tc base 2 p l e (lvR 0) s m args below meth c 0 0 (MQ below (Qx D tc base (fun r h' => (0 < st ∧ r = some (aI (st - 1)) ∧ MA h' oo (zoo) (hhi) (htx) (has) (hro) (st - 1) (ln) (0) (re) (du) (hsh) ∧ Fr hpp h' oo 6) ∨ (¬ 0 < st ∧ r = some (aI (0)) ∧ MA h' oo (zrr) (hhi) (htx) (has) (hro) (st) (ln) (1) (re) (du) (hsh) ∧ Fr hpp h' oo 6))) args s 0 0 (fun q => base ≤ q)) 37 [some (aR oo), some (aI kk)] [] hkk := by
            intro n
            induction n with
            | zero =>
              intro kk hkk hk0 hk1 hst0 hMk hFk hmu
              exfalso
              omega
            | succ n ih =>
              intro kk hkk hk0 hk1 hst0 hMk hFk hmu
              obtain ⟨k0, k1, k2, k3, k4, k5⟩ := id hMk
              refine k_iload_n C dX8_undo_37 rfl ?_
              refine k_bipush C dX8_undo_38 (by decide +kernel) ?_
              refine k_icmp_ge (tgt := 69) C dX8_undo_40 (by decide) ⟨by omega, by omega⟩ ⟨by omega, by omega⟩ (fun c40 => ?_) (fun c40 => ?_)
              · try (exfalso; omega)
                all_goals (
                  have e6 : kk = 67 := by omega
                  subst e6
                  refine k_ext zoo k1 (fun jj h0 h1 => by rw [hCp_in h0 (by omega)]; exact hzo hst0 jj h0 (by omega)) ?_
                  refine k_aload_n C dX8_undo_69 rfl ?_
                  refine k_get C (k := 1) inX8 (ci := 8) rfl (by decide) fl_X8_29 dX8_undo_70 (by repeat (first | exact hs_eq _ _ _ | refine hs_ne (by omega) ?_ | assumption)) rfl ?_
                  refine k_iret C hr dX8_undo_73 ?_
                  first
                    | exact Or.inl ⟨by omega, rfl, ⟨(by repeat (first | exact hs_eq _ _ _ | refine hs_ne (by omega) ?_ | assumption)), (by repeat (first | exact hs_eq _ _ _ | refine hs_ne (by omega) ?_ | assumption)), (by repeat (first | exact hs_eq _ _ _ | refine hs_ne (by omega) ?_ | assumption)), (by repeat (first | exact hs_eq _ _ _ | refine hs_ne (by omega) ?_ | assumption)), (by repeat (first | exact hs_eq _ _ _ | refine hs_ne (by omega) ?_ | assumption)), (by repeat (first | exact hs_eq _ _ _ | refine hs_ne (by omega) ?_ | assumption))⟩, hFk.tr (fun aaa haa => by repeat (first | rfl | refine hs_ne (by omega) ?_))⟩
                    | exact Or.inr (⟨by omega, rfl, ⟨(by repeat (first | exact hs_eq _ _ _ | refine hs_ne (by omega) ?_ | assumption)), (by repeat (first | exact hs_eq _ _ _ | refine hs_ne (by omega) ?_ | assumption)), (by repeat (first | exact hs_eq _ _ _ | refine hs_ne (by omega) ?_ | assumption)), (by repeat (first | exact hs_eq _ _ _ | refine hs_ne (by omega) ?_ | assumption)), (by repeat (first | exact hs_eq _ _ _ | refine hs_ne (by omega) ?_ | assumption)), (by repeat (first | exact hs_eq _ _ _ | refine hs_ne (by omega) ?_ | assumption))⟩, fun aaa haa => by repeat (first | rfl | refine hs_ne (by omega) ?_)⟩))
              · try (exfalso; omega)
                all_goals (
                  refine k_aload_n C dX8_undo_43 rfl ?_
                  refine k_get C (k := 0) inX8 (ci := 8) rfl (by decide) fl_X8_7 dX8_undo_44 (by repeat (first | exact hs_eq _ _ _ | refine hs_ne (by omega) ?_ | assumption)) rfl ?_
                  refine k_iload_n C dX8_undo_47 rfl ?_
                  refine k_aload_n C dX8_undo_48 rfl ?_
                  refine k_get C (k := 2) inX8 (ci := 8) rfl (by decide) fl_X8_13 dX8_undo_49 (by repeat (first | exact hs_eq _ _ _ | refine hs_ne (by omega) ?_ | assumption)) rfl ?_
                  refine k_bipush C dX8_undo_52 (by decide +kernel) ?_
                  refine k_aload_n C dX8_undo_54 rfl ?_
                  refine k_get C (k := 1) inX8 (ci := 8) rfl (by decide) fl_X8_29 dX8_undo_55 (by repeat (first | exact hs_eq _ _ _ | refine hs_ne (by omega) ?_ | assumption)) rfl ?_
                  refine k_imul C dX8_undo_58 ?_
                  refine k_iload_n C dX8_undo_59 rfl ?_
                  refine k_iadd C dX8_undo_60 ?_
                  refine k_iaload C dX8_undo_61 (by repeat (first | exact hs_eq _ _ _ | refine hs_ne (by omega) ?_ | assumption)) (by omega) (by omega) (by omega) ?_
                  refine k_iastore C dX8_undo_62 (by repeat (first | exact hs_eq _ _ _ | refine hs_ne (by omega) ?_ | assumption)) (by omega) (by omega) (by omega) ?_
                  refine k_iinc C dX8_undo_63 rfl (by decide) rfl ?_
                  refine k_goto (tgt := 37) C dX8_undo_66 (by decide) ?_
                  have e9 : hhi (67 * (st - 1) + kk) = (fun jj => hhi (67 * (st - 1) + jj)) kk := rfl
                  rw [e9, hCp_s zrr (fun jj => hhi (67 * (st - 1) + jj)) hk0]
                  exact ih (kk + 1) _ (by omega) (by omega) hst0 ⟨(by repeat (first | exact hs_eq _ _ _ | refine hs_ne (by omega) ?_ | assumption)), (by repeat (first | exact hs_eq _ _ _ | refine hs_ne (by omega) ?_ | assumption)), (by repeat (first | exact hs_eq _ _ _ | refine hs_ne (by omega) ?_ | assumption)), (by repeat (first | exact hs_eq _ _ _ | refine hs_ne (by omega) ?_ | assumption)), (by repeat (first | exact hs_eq _ _ _ | refine hs_ne (by omega) ?_ | assumption)), (by repeat (first | exact hs_eq _ _ _ | refine hs_ne (by omega) ?_ | assumption))⟩ (hFk.tr (fun aaa haa => by repeat (first | rfl | refine hs_ne (by omega) ?_))) (by omega))
          have q1 := loop37 68 0 (hs (hs hpp oo (eO 8 [aR (oo + 1), aI st, aR (oo + 2), aI ln, aR (oo + 3), aI 0, aR (oo + 4), aR (oo + 5), aI re, aI du, aL hsh])) oo (eO 8 [aR (oo + 1), aI (st - 1), aR (oo + 2), aI ln, aR (oo + 3), aI 0, aR (oo + 4), aR (oo + 5), aI re, aI du, aL hsh])) (by omega) (by omega) (by omega) (by rw [hCp_0]; exact ⟨(by repeat (first | exact hs_eq _ _ _ | refine hs_ne (by omega) ?_ | assumption)), (by repeat (first | exact hs_eq _ _ _ | refine hs_ne (by omega) ?_ | assumption)), (by repeat (first | exact hs_eq _ _ _ | refine hs_ne (by omega) ?_ | assumption)), (by repeat (first | exact hs_eq _ _ _ | refine hs_ne (by omega) ?_ | assumption)), (by repeat (first | exact hs_eq _ _ _ | refine hs_ne (by omega) ?_ | assumption)), (by repeat (first | exact hs_eq _ _ _ | refine hs_ne (by omega) ?_ | assumption))⟩) (fun aaa haa => by repeat (first | rfl | refine hs_ne (by omega) ?_)) (by omega)
          exact q1)
      · try (exfalso; omega)
        all_goals (
          refine k_iconst C dX8_undo_23 ?_
          refine k_iret C hr dX8_undo_24 ?_
          first
            | exact Or.inl ⟨by omega, rfl, ⟨(by repeat (first | exact hs_eq _ _ _ | refine hs_ne (by omega) ?_ | assumption)), (by repeat (first | exact hs_eq _ _ _ | refine hs_ne (by omega) ?_ | assumption)), (by repeat (first | exact hs_eq _ _ _ | refine hs_ne (by omega) ?_ | assumption)), (by repeat (first | exact hs_eq _ _ _ | refine hs_ne (by omega) ?_ | assumption)), (by repeat (first | exact hs_eq _ _ _ | refine hs_ne (by omega) ?_ | assumption)), (by repeat (first | exact hs_eq _ _ _ | refine hs_ne (by omega) ?_ | assumption))⟩, hFk.tr (fun aaa haa => by repeat (first | rfl | refine hs_ne (by omega) ?_))⟩
            | exact Or.inr (⟨by omega, rfl, ⟨(by repeat (first | exact hs_eq _ _ _ | refine hs_ne (by omega) ?_ | assumption)), (by repeat (first | exact hs_eq _ _ _ | refine hs_ne (by omega) ?_ | assumption)), (by repeat (first | exact hs_eq _ _ _ | refine hs_ne (by omega) ?_ | assumption)), (by repeat (first | exact hs_eq _ _ _ | refine hs_ne (by omega) ?_ | assumption)), (by repeat (first | exact hs_eq _ _ _ | refine hs_ne (by omega) ?_ | assumption)), (by repeat (first | exact hs_eq _ _ _ | refine hs_ne (by omega) ?_ | assumption))⟩, fun aaa haa => by repeat (first | rfl | refine hs_ne (by omega) ?_)⟩)))
  · try (exfalso; omega)
    all_goals (
      refine k_iconst C dX8_undo_8 ?_
      refine k_goto (tgt := 13) C dX8_undo_9 (by decide) ?_
      refine k_put C (k := 5) inX8 tyX8_ok nmX8 (ci := 8) rfl (by decide) fl_X8_25 rfl (Nat.le_of_ble_eq_true rfl) dX8_undo_13 (by repeat (first | exact hs_eq _ _ _ | refine hs_ne (by omega) ?_ | assumption)) ?_
      refine k_aload_n C dX8_undo_16 rfl ?_
      refine k_get C (k := 5) inX8 (ci := 8) rfl (by decide) fl_X8_25 dX8_undo_17 (by repeat (first | exact hs_eq _ _ _ | refine hs_ne (by omega) ?_ | assumption)) rfl ?_
      refine k_if_le (tgt := 25) C dX8_undo_20 (by decide) ⟨by omega, by omega⟩ (fun c20 => ?_) (fun c20 => ?_)
      · try (exfalso; omega)
        all_goals (
          refine k_aload_n C dX8_undo_25 rfl ?_
          refine k_dup C dX8_undo_26 rfl ?_
          refine k_get C (k := 1) inX8 (ci := 8) rfl (by decide) fl_X8_29 dX8_undo_27 (by repeat (first | exact hs_eq _ _ _ | refine hs_ne (by omega) ?_ | assumption)) rfl ?_
          refine k_iconst C dX8_undo_30 ?_
          refine k_isub C dX8_undo_31 ?_
          refine k_put C (k := 1) inX8 tyX8_ok nmX8 (ci := 8) rfl (by decide) fl_X8_29 rfl (Nat.le_of_ble_eq_true rfl) dX8_undo_32 (by repeat (first | exact hs_eq _ _ _ | refine hs_ne (by omega) ?_ | assumption)) ?_
          refine k_iconst C dX8_undo_35 ?_
          refine k_istore_n C dX8_undo_36 (by decide) rfl ?_
          have loop37 : ∀ (n : Nat) (kk : Int) (hkk : AH), 0 ≤ kk → kk ≤ 67 → 0 < st → MA hkk oo (hCp zrr (fun jj => hhi (67 * (st - 1) + jj)) kk) (hhi) (htx) (has) (hro) (st - 1) (ln) (0) (re) (du) (hsh) → Fr hpp hkk oo 6 → (67 : Int) - kk < (n : Int) → Wk D tc base 2 p l e (lvR 0) s m args below meth c 0 0 (MQ below (Qx D tc base (fun r h' => (0 < st ∧ r = some (aI (st - 1)) ∧ MA h' oo (zoo) (hhi) (htx) (has) (hro) (st - 1) (ln) (0) (re) (du) (hsh) ∧ Fr hpp h' oo 6) ∨ (¬ 0 < st ∧ r = some (aI (0)) ∧ MA h' oo (zrr) (hhi) (htx) (has) (hro) (st) (ln) (1) (re) (du) (hsh) ∧ Fr hpp h' oo 6))) args s 0 0 (fun q => base ≤ q)) 37 [some (aR oo), some (aI kk)] [] hkk := by
            intro n
            induction n with
            | zero =>
              intro kk hkk hk0 hk1 hst0 hMk hFk hmu
              exfalso
              omega
            | succ n ih =>
              intro kk hkk hk0 hk1 hst0 hMk hFk hmu
              obtain ⟨k0, k1, k2, k3, k4, k5⟩ := id hMk
              refine k_iload_n C dX8_undo_37 rfl ?_
              refine k_bipush C dX8_undo_38 (by decide +kernel) ?_
              refine k_icmp_ge (tgt := 69) C dX8_undo_40 (by decide) ⟨by omega, by omega⟩ ⟨by omega, by omega⟩ (fun c40 => ?_) (fun c40 => ?_)
              · try (exfalso; omega)
                all_goals (
                  have e6 : kk = 67 := by omega
                  subst e6
                  refine k_ext zoo k1 (fun jj h0 h1 => by rw [hCp_in h0 (by omega)]; exact hzo hst0 jj h0 (by omega)) ?_
                  refine k_aload_n C dX8_undo_69 rfl ?_
                  refine k_get C (k := 1) inX8 (ci := 8) rfl (by decide) fl_X8_29 dX8_undo_70 (by repeat (first | exact hs_eq _ _ _ | refine hs_ne (by omega) ?_ | assumption)) rfl ?_
                  refine k_iret C hr dX8_undo_73 ?_
                  first
                    | exact Or.inl ⟨by omega, rfl, ⟨(by repeat (first | exact hs_eq _ _ _ | refine hs_ne (by omega) ?_ | assumption)), (by repeat (first | exact hs_eq _ _ _ | refine hs_ne (by omega) ?_ | assumption)), (by repeat (first | exact hs_eq _ _ _ | refine hs_ne (by omega) ?_ | assumption)), (by repeat (first | exact hs_eq _ _ _ | refine hs_ne (by omega) ?_ | assumption)), (by repeat (first | exact hs_eq _ _ _ | refine hs_ne (by omega) ?_ | assumption)), (by repeat (first | exact hs_eq _ _ _ | refine hs_ne (by omega) ?_ | assumption))⟩, hFk.tr (fun aaa haa => by repeat (first | rfl | refine hs_ne (by omega) ?_))⟩
                    | exact Or.inr (⟨by omega, rfl, ⟨(by repeat (first | exact hs_eq _ _ _ | refine hs_ne (by omega) ?_ | assumption)), (by repeat (first | exact hs_eq _ _ _ | refine hs_ne (by omega) ?_ | assumption)), (by repeat (first | exact hs_eq _ _ _ | refine hs_ne (by omega) ?_ | assumption)), (by repeat (first | exact hs_eq _ _ _ | refine hs_ne (by omega) ?_ | assumption)), (by repeat (first | exact hs_eq _ _ _ | refine hs_ne (by omega) ?_ | assumption)), (by repeat (first | exact hs_eq _ _ _ | refine hs_ne (by omega) ?_ | assumption))⟩, fun aaa haa => by repeat (first | rfl | refine hs_ne (by omega) ?_)⟩))
              · try (exfalso; omega)
                all_goals (
                  refine k_aload_n C dX8_undo_43 rfl ?_
                  refine k_get C (k := 0) inX8 (ci := 8) rfl (by decide) fl_X8_7 dX8_undo_44 (by repeat (first | exact hs_eq _ _ _ | refine hs_ne (by omega) ?_ | assumption)) rfl ?_
                  refine k_iload_n C dX8_undo_47 rfl ?_
                  refine k_aload_n C dX8_undo_48 rfl ?_
                  refine k_get C (k := 2) inX8 (ci := 8) rfl (by decide) fl_X8_13 dX8_undo_49 (by repeat (first | exact hs_eq _ _ _ | refine hs_ne (by omega) ?_ | assumption)) rfl ?_
                  refine k_bipush C dX8_undo_52 (by decide +kernel) ?_
                  refine k_aload_n C dX8_undo_54 rfl ?_
                  refine k_get C (k := 1) inX8 (ci := 8) rfl (by decide) fl_X8_29 dX8_undo_55 (by repeat (first | exact hs_eq _ _ _ | refine hs_ne (by omega) ?_ | assumption)) rfl ?_
                  refine k_imul C dX8_undo_58 ?_
                  refine k_iload_n C dX8_undo_59 rfl ?_
                  refine k_iadd C dX8_undo_60 ?_
                  refine k_iaload C dX8_undo_61 (by repeat (first | exact hs_eq _ _ _ | refine hs_ne (by omega) ?_ | assumption)) (by omega) (by omega) (by omega) ?_
                  refine k_iastore C dX8_undo_62 (by repeat (first | exact hs_eq _ _ _ | refine hs_ne (by omega) ?_ | assumption)) (by omega) (by omega) (by omega) ?_
                  refine k_iinc C dX8_undo_63 rfl (by decide) rfl ?_
                  refine k_goto (tgt := 37) C dX8_undo_66 (by decide) ?_
                  have e9 : hhi (67 * (st - 1) + kk) = (fun jj => hhi (67 * (st - 1) + jj)) kk := rfl
                  rw [e9, hCp_s zrr (fun jj => hhi (67 * (st - 1) + jj)) hk0]
                  exact ih (kk + 1) _ (by omega) (by omega) hst0 ⟨(by repeat (first | exact hs_eq _ _ _ | refine hs_ne (by omega) ?_ | assumption)), (by repeat (first | exact hs_eq _ _ _ | refine hs_ne (by omega) ?_ | assumption)), (by repeat (first | exact hs_eq _ _ _ | refine hs_ne (by omega) ?_ | assumption)), (by repeat (first | exact hs_eq _ _ _ | refine hs_ne (by omega) ?_ | assumption)), (by repeat (first | exact hs_eq _ _ _ | refine hs_ne (by omega) ?_ | assumption)), (by repeat (first | exact hs_eq _ _ _ | refine hs_ne (by omega) ?_ | assumption))⟩ (hFk.tr (fun aaa haa => by repeat (first | rfl | refine hs_ne (by omega) ?_))) (by omega))
          have q1 := loop37 68 0 (hs (hs hpp oo (eO 8 [aR (oo + 1), aI st, aR (oo + 2), aI ln, aR (oo + 3), aI 0, aR (oo + 4), aR (oo + 5), aI re, aI du, aL hsh])) oo (eO 8 [aR (oo + 1), aI (st - 1), aR (oo + 2), aI ln, aR (oo + 3), aI 0, aR (oo + 4), aR (oo + 5), aI re, aI du, aL hsh])) (by omega) (by omega) (by omega) (by rw [hCp_0]; exact ⟨(by repeat (first | exact hs_eq _ _ _ | refine hs_ne (by omega) ?_ | assumption)), (by repeat (first | exact hs_eq _ _ _ | refine hs_ne (by omega) ?_ | assumption)), (by repeat (first | exact hs_eq _ _ _ | refine hs_ne (by omega) ?_ | assumption)), (by repeat (first | exact hs_eq _ _ _ | refine hs_ne (by omega) ?_ | assumption)), (by repeat (first | exact hs_eq _ _ _ | refine hs_ne (by omega) ?_ | assumption)), (by repeat (first | exact hs_eq _ _ _ | refine hs_ne (by omega) ?_ | assumption))⟩) (fun aaa haa => by repeat (first | rfl | refine hs_ne (by omega) ?_)) (by omega)
          exact q1)
      · try (exfalso; omega)
        all_goals (
          refine k_iconst C dX8_undo_23 ?_
          refine k_iret C hr dX8_undo_24 ?_
          first
            | exact Or.inl ⟨by omega, rfl, ⟨(by repeat (first | exact hs_eq _ _ _ | refine hs_ne (by omega) ?_ | assumption)), (by repeat (first | exact hs_eq _ _ _ | refine hs_ne (by omega) ?_ | assumption)), (by repeat (first | exact hs_eq _ _ _ | refine hs_ne (by omega) ?_ | assumption)), (by repeat (first | exact hs_eq _ _ _ | refine hs_ne (by omega) ?_ | assumption)), (by repeat (first | exact hs_eq _ _ _ | refine hs_ne (by omega) ?_ | assumption)), (by repeat (first | exact hs_eq _ _ _ | refine hs_ne (by omega) ?_ | assumption))⟩, hFk.tr (fun aaa haa => by repeat (first | rfl | refine hs_ne (by omega) ?_))⟩
            | exact Or.inr (⟨by omega, rfl, ⟨(by repeat (first | exact hs_eq _ _ _ | refine hs_ne (by omega) ?_ | assumption)), (by repeat (first | exact hs_eq _ _ _ | refine hs_ne (by omega) ?_ | assumption)), (by repeat (first | exact hs_eq _ _ _ | refine hs_ne (by omega) ?_ | assumption)), (by repeat (first | exact hs_eq _ _ _ | refine hs_ne (by omega) ?_ | assumption)), (by repeat (first | exact hs_eq _ _ _ | refine hs_ne (by omega) ?_ | assumption)), (by repeat (first | exact hs_eq _ _ _ | refine hs_ne (by omega) ?_ | assumption))⟩, fun aaa haa => by repeat (first | rfl | refine hs_ne (by omega) ?_)⟩)))

set_option maxRecDepth 20000 in
set_option maxHeartbeats 1000000 in
theorem ct_X8_dueMany (l : Launch) (D : va_G) (tc : Nat → ClassId) (base : Nat) (oo : Nat) (zrr hhi htx has hro : Int → Int) (st ln th re du hsh : Int) (hpp : AH) (hM : MA hpp oo zrr hhi htx has hro st ln th re du hsh) (hi : zInv zrr) (hm : zrr 13 ≤ 100000) : CT l D tc base yX8_dueMany cX8_dueMany 3 (some .int) 2 [aR oo] hpp (fun r h' => r = some (aI (zDueN zrr (zrr 21).toNat)) ∧ hpp = h') := by
  refine CT.of [some (aR oo), none, none] (by decide +kernel) rfl (Nat.le_of_ble_eq_true rfl) ?_
  intro p e s m args below meth c C hr hnm
  obtain ⟨g0, g1, g2, g3, g4, g5⟩ := id hM
  obtain ⟨⟨v0, v1, v2, v9, v10, v11, v12, v13, v21, v52, v61, v62, v63, v64, v65, v66⟩, hwi, hde⟩ := id hi
  refine k_iconst C dX8_dueMany_0 ?_
  refine k_istore_n C dX8_dueMany_1 (by decide) rfl ?_
  refine k_iconst C dX8_dueMany_2 ?_
  refine k_istore_n C dX8_dueMany_3 (by decide) rfl ?_
  have loop4 : ∀ (n : Nat) (kk : Nat), (kk : Int) ≤ zrr 21 → zrr 21 - kk < (n : Int) → Wk D tc base 3 p l e (lvR 2) s m args below meth c 0 0 (MQ below (Qx D tc base (fun r h' => r = some (aI (zDueN zrr (zrr 21).toNat)) ∧ hpp = h')) args s 0 0 (fun q => base ≤ q)) 4 [some (aR oo), some (aI (zDueN zrr kk)), some (aI kk)] [] hpp := by
    intro n
    induction n with
    | zero =>
      intro kk hk hmu
      exfalso
      omega
    | succ n ih =>
      intro kk hk hmu
      refine k_iload_n C dX8_dueMany_4 rfl ?_
      refine k_aload_n C dX8_dueMany_5 rfl ?_
      refine k_get C (k := 0) inX8 (ci := 8) rfl (by decide) fl_X8_7 dX8_dueMany_6 (by repeat (first | exact hs_eq _ _ _ | refine hs_ne (by omega) ?_ | assumption)) rfl ?_
      refine k_bipush C dX8_dueMany_9 (by decide +kernel) ?_
      refine k_iaload C dX8_dueMany_11 (by repeat (first | exact hs_eq _ _ _ | refine hs_ne (by omega) ?_ | assumption)) (by omega) (by omega) (by omega) ?_
      refine k_icmp_ge (tgt := 37) C dX8_dueMany_12 (by decide) ⟨by omega, by omega⟩ ⟨by omega, by omega⟩ (fun c12 => ?_) (fun c12 => ?_)
      · try (exfalso; omega)
        all_goals (
          refine k_iload_n C dX8_dueMany_37 rfl ?_
          refine k_iret C hr dX8_dueMany_38 ?_
          refine ⟨?_, rfl⟩
          have e1 : (zrr 21).toNat = kk := by omega
          rw [e1])
      · try (exfalso; omega)
        all_goals (
          refine k_iload_n C dX8_dueMany_15 rfl ?_
          refine k_aload_n C dX8_dueMany_16 rfl ?_
          refine k_iload_n C dX8_dueMany_17 rfl ?_
          refine k_callV C (n := 1) (as := [_]) (ct_X8_isDue l D tc base oo (oo + 1) _ _ _ (by repeat (first | exact hs_eq _ _ _ | refine hs_ne (by omega) ?_ | assumption)) (by repeat (first | exact hs_eq _ _ _ | refine hs_ne (by omega) ?_ | assumption)) (by omega) _ (by omega) (by omega) hi hm) ml_X8_39 im_X8_isDue se_X8_isDue ini_X8 co_X8_isDue ⟨rfl, by decide, by decide, by decide +kernel⟩ rfl (ci := 8) rfl (by repeat (first | exact hs_eq _ _ _ | refine hs_ne (by omega) ?_ | assumption)) ⟨by decide, by decide⟩ rfl (Nat.le_of_ble_eq_true rfl) ⟨Nat.zero_le _, Nat.zero_le _⟩ dX8_dueMany_18 ?_
          rintro _ _ (⟨rfl, rfl, hdu⟩ | ⟨rfl, rfl, hdu⟩)
          · skip
            refine k_if_eq (tgt := 28) C dX8_dueMany_21 (by decide) ⟨by omega, by omega⟩ (fun c21 => ?_) (fun c21 => ?_)
            · try (exfalso; omega)
              all_goals (
                refine k_iconst C dX8_dueMany_28 ?_
                refine k_iadd C dX8_dueMany_29 ?_
                refine k_istore_n C dX8_dueMany_30 (by decide) rfl ?_
                refine k_iinc C dX8_dueMany_31 rfl (by decide) rfl ?_
                refine k_goto (tgt := 4) C dX8_dueMany_34 (by decide) ?_
                have e2 : ((kk + 1 : Nat) : Int) = (kk : Int) + 1 := by omega
                have q1 := ih (kk + 1) (by omega) (by omega)
                first
                  | (have e1 : zDueN zrr (kk + 1) = zDueN zrr kk + 1 := by
                       show zDueN zrr kk + (if zDue zrr kk then 1 else 0) = _
                       rw [if_pos (by omega)]
                     rw [e1, e2] at q1
                     exact q1)
                  | (have e1 : zDueN zrr (kk + 1) = zDueN zrr kk + 0 := by
                       show zDueN zrr kk + (if zDue zrr kk then 1 else 0) = _
                       rw [if_neg (by omega)]
                     rw [e1, e2] at q1
                     exact q1))
            · try (exfalso; omega)
              all_goals (
                refine k_iconst C dX8_dueMany_24 ?_
                refine k_goto (tgt := 29) C dX8_dueMany_25 (by decide) ?_
                refine k_iadd C dX8_dueMany_29 ?_
                refine k_istore_n C dX8_dueMany_30 (by decide) rfl ?_
                refine k_iinc C dX8_dueMany_31 rfl (by decide) rfl ?_
                refine k_goto (tgt := 4) C dX8_dueMany_34 (by decide) ?_
                have e2 : ((kk + 1 : Nat) : Int) = (kk : Int) + 1 := by omega
                have q1 := ih (kk + 1) (by omega) (by omega)
                first
                  | (have e1 : zDueN zrr (kk + 1) = zDueN zrr kk + 1 := by
                       show zDueN zrr kk + (if zDue zrr kk then 1 else 0) = _
                       rw [if_pos (by omega)]
                     rw [e1, e2] at q1
                     exact q1)
                  | (have e1 : zDueN zrr (kk + 1) = zDueN zrr kk + 0 := by
                       show zDueN zrr kk + (if zDue zrr kk then 1 else 0) = _
                       rw [if_neg (by omega)]
                     rw [e1, e2] at q1
                     exact q1))
          · skip
            refine k_if_eq (tgt := 28) C dX8_dueMany_21 (by decide) ⟨by omega, by omega⟩ (fun c21 => ?_) (fun c21 => ?_)
            · try (exfalso; omega)
              all_goals (
                refine k_iconst C dX8_dueMany_28 ?_
                refine k_iadd C dX8_dueMany_29 ?_
                refine k_istore_n C dX8_dueMany_30 (by decide) rfl ?_
                refine k_iinc C dX8_dueMany_31 rfl (by decide) rfl ?_
                refine k_goto (tgt := 4) C dX8_dueMany_34 (by decide) ?_
                have e2 : ((kk + 1 : Nat) : Int) = (kk : Int) + 1 := by omega
                have q1 := ih (kk + 1) (by omega) (by omega)
                first
                  | (have e1 : zDueN zrr (kk + 1) = zDueN zrr kk + 1 := by
                       show zDueN zrr kk + (if zDue zrr kk then 1 else 0) = _
                       rw [if_pos (by omega)]
                     rw [e1, e2] at q1
                     exact q1)
                  | (have e1 : zDueN zrr (kk + 1) = zDueN zrr kk + 0 := by
                       show zDueN zrr kk + (if zDue zrr kk then 1 else 0) = _
                       rw [if_neg (by omega)]
                     rw [e1, e2] at q1
                     exact q1))
            · try (exfalso; omega)
              all_goals (
                refine k_iconst C dX8_dueMany_24 ?_
                refine k_goto (tgt := 29) C dX8_dueMany_25 (by decide) ?_
                refine k_iadd C dX8_dueMany_29 ?_
                refine k_istore_n C dX8_dueMany_30 (by decide) rfl ?_
                refine k_iinc C dX8_dueMany_31 rfl (by decide) rfl ?_
                refine k_goto (tgt := 4) C dX8_dueMany_34 (by decide) ?_
                have e2 : ((kk + 1 : Nat) : Int) = (kk : Int) + 1 := by omega
                have q1 := ih (kk + 1) (by omega) (by omega)
                first
                  | (have e1 : zDueN zrr (kk + 1) = zDueN zrr kk + 1 := by
                       show zDueN zrr kk + (if zDue zrr kk then 1 else 0) = _
                       rw [if_pos (by omega)]
                     rw [e1, e2] at q1
                     exact q1)
                  | (have e1 : zDueN zrr (kk + 1) = zDueN zrr kk + 0 := by
                       show zDueN zrr kk + (if zDue zrr kk then 1 else 0) = _
                       rw [if_neg (by omega)]
                     rw [e1, e2] at q1
                     exact q1)))
  exact loop4 (zrr 21 + 1).toNat 0 (by omega) (by omega)

set_option maxRecDepth 20000 in
set_option maxHeartbeats 1000000 in
theorem ct_X8_whyNoStroke (l : Launch) (D : va_G) (tc : Nat → ClassId) (base : Nat) (oo : Nat) (zrr hhi htx has hro : Int → Int) (st ln th re du hsh : Int) (hpp : AH) (hM : MA hpp oo zrr hhi htx has hro st ln th re du hsh) (hi : zInv zrr) : CT l D tc base yX8_whyNoStroke cX8_whyNoStroke 1 (some .int) 2 [aR oo] hpp (fun r h' => r = some (aI (zNoS zrr)) ∧ hpp = h') := by
  refine CT.of [some (aR oo)] (by decide +kernel) rfl (Nat.le_of_ble_eq_true rfl) ?_
  intro p e s m args below meth c C hr hnm
  obtain ⟨g0, g1, g2, g3, g4, g5⟩ := id hM
  obtain ⟨⟨v0, v1, v2, v9, v10, v11, v12, v13, v21, v52, v61, v62, v63, v64, v65, v66⟩, hwi, hde⟩ := id hi
  refine k_aload_n C dX8_whyNoStroke_0 rfl ?_
  refine k_get C (k := 0) inX8 (ci := 8) rfl (by decide) fl_X8_7 dX8_whyNoStroke_1 (by repeat (first | exact hs_eq _ _ _ | refine hs_ne (by omega) ?_ | assumption)) rfl ?_
  refine k_bipush C dX8_whyNoStroke_4 (by decide +kernel) ?_
  refine k_iaload C dX8_whyNoStroke_6 (by repeat (first | exact hs_eq _ _ _ | refine hs_ne (by omega) ?_ | assumption)) (by omega) (by omega) (by omega) ?_
  refine k_if_ne (tgt := 12) C dX8_whyNoStroke_7 (by decide) ⟨by omega, by omega⟩ (fun c7 => ?_) (fun c7 => ?_)
  · try (exfalso; omega)
    all_goals (
      refine k_aload_n C dX8_whyNoStroke_12 rfl ?_
      refine k_callV C (n := 0) (as := []) (ct_X8_isSilent l D tc base oo (oo + 1) _ _ _ (by repeat (first | exact hs_eq _ _ _ | refine hs_ne (by omega) ?_ | assumption)) (by repeat (first | exact hs_eq _ _ _ | refine hs_ne (by omega) ?_ | assumption)) (by omega) hi) ml_X8_61 im_X8_isSilent se_X8_isSilent ini_X8 co_X8_isSilent ⟨rfl, by decide, by decide, by decide +kernel⟩ rfl (ci := 8) rfl (by repeat (first | exact hs_eq _ _ _ | refine hs_ne (by omega) ?_ | assumption)) ⟨by decide, by decide⟩ rfl (Nat.le_of_ble_eq_true rfl) ⟨Nat.zero_le _, Nat.zero_le _⟩ dX8_whyNoStroke_13 ?_
      rintro _ _ (⟨rfl, rfl, hsi⟩ | ⟨rfl, rfl, hsi⟩)
      · skip
        refine k_if_eq (tgt := 23) C dX8_whyNoStroke_16 (by decide) ⟨by omega, by omega⟩ (fun c16 => ?_) (fun c16 => ?_)
        · try (exfalso; omega)
          all_goals (
            refine k_aload_n C dX8_whyNoStroke_23 rfl ?_
            refine k_get C (k := 0) inX8 (ci := 8) rfl (by decide) fl_X8_7 dX8_whyNoStroke_24 (by repeat (first | exact hs_eq _ _ _ | refine hs_ne (by omega) ?_ | assumption)) rfl ?_
            refine k_iconst C dX8_whyNoStroke_27 ?_
            refine k_iaload C dX8_whyNoStroke_28 (by repeat (first | exact hs_eq _ _ _ | refine hs_ne (by omega) ?_ | assumption)) (by omega) (by omega) (by omega) ?_
            refine k_if_ne (tgt := 36) C dX8_whyNoStroke_29 (by decide) ⟨by omega, by omega⟩ (fun c29 => ?_) (fun c29 => ?_)
            · try (exfalso; omega)
              all_goals (
                refine k_iconst C dX8_whyNoStroke_36 ?_
                refine k_iret C hr dX8_whyNoStroke_37 ?_
                refine ⟨?_, rfl⟩
                refine congrArg (fun qq => some (aI qq)) ?_
                unfold zNoS
                first
                  | rw [if_pos (by omega)]
                  | rw [if_neg (by omega), if_pos (by omega)]
                  | rw [if_neg (by omega), if_neg (by omega), if_pos (by omega)]
                  | rw [if_neg (by omega), if_neg (by omega), if_neg (by omega)])
            · try (exfalso; omega)
              all_goals (
                refine k_iconst C dX8_whyNoStroke_32 ?_
                refine k_goto (tgt := 37) C dX8_whyNoStroke_33 (by decide) ?_
                refine k_iret C hr dX8_whyNoStroke_37 ?_
                refine ⟨?_, rfl⟩
                refine congrArg (fun qq => some (aI qq)) ?_
                unfold zNoS
                first
                  | rw [if_pos (by omega)]
                  | rw [if_neg (by omega), if_pos (by omega)]
                  | rw [if_neg (by omega), if_neg (by omega), if_pos (by omega)]
                  | rw [if_neg (by omega), if_neg (by omega), if_neg (by omega)]))
        · try (exfalso; omega)
          all_goals (
            refine k_iconst C dX8_whyNoStroke_19 ?_
            refine k_goto (tgt := 37) C dX8_whyNoStroke_20 (by decide) ?_
            refine k_iret C hr dX8_whyNoStroke_37 ?_
            refine ⟨?_, rfl⟩
            refine congrArg (fun qq => some (aI qq)) ?_
            unfold zNoS
            first
              | rw [if_pos (by omega)]
              | rw [if_neg (by omega), if_pos (by omega)]
              | rw [if_neg (by omega), if_neg (by omega), if_pos (by omega)]
              | rw [if_neg (by omega), if_neg (by omega), if_neg (by omega)])
      · skip
        refine k_if_eq (tgt := 23) C dX8_whyNoStroke_16 (by decide) ⟨by omega, by omega⟩ (fun c16 => ?_) (fun c16 => ?_)
        · try (exfalso; omega)
          all_goals (
            refine k_aload_n C dX8_whyNoStroke_23 rfl ?_
            refine k_get C (k := 0) inX8 (ci := 8) rfl (by decide) fl_X8_7 dX8_whyNoStroke_24 (by repeat (first | exact hs_eq _ _ _ | refine hs_ne (by omega) ?_ | assumption)) rfl ?_
            refine k_iconst C dX8_whyNoStroke_27 ?_
            refine k_iaload C dX8_whyNoStroke_28 (by repeat (first | exact hs_eq _ _ _ | refine hs_ne (by omega) ?_ | assumption)) (by omega) (by omega) (by omega) ?_
            refine k_if_ne (tgt := 36) C dX8_whyNoStroke_29 (by decide) ⟨by omega, by omega⟩ (fun c29 => ?_) (fun c29 => ?_)
            · try (exfalso; omega)
              all_goals (
                refine k_iconst C dX8_whyNoStroke_36 ?_
                refine k_iret C hr dX8_whyNoStroke_37 ?_
                refine ⟨?_, rfl⟩
                refine congrArg (fun qq => some (aI qq)) ?_
                unfold zNoS
                first
                  | rw [if_pos (by omega)]
                  | rw [if_neg (by omega), if_pos (by omega)]
                  | rw [if_neg (by omega), if_neg (by omega), if_pos (by omega)]
                  | rw [if_neg (by omega), if_neg (by omega), if_neg (by omega)])
            · try (exfalso; omega)
              all_goals (
                refine k_iconst C dX8_whyNoStroke_32 ?_
                refine k_goto (tgt := 37) C dX8_whyNoStroke_33 (by decide) ?_
                refine k_iret C hr dX8_whyNoStroke_37 ?_
                refine ⟨?_, rfl⟩
                refine congrArg (fun qq => some (aI qq)) ?_
                unfold zNoS
                first
                  | rw [if_pos (by omega)]
                  | rw [if_neg (by omega), if_pos (by omega)]
                  | rw [if_neg (by omega), if_neg (by omega), if_pos (by omega)]
                  | rw [if_neg (by omega), if_neg (by omega), if_neg (by omega)]))
        · try (exfalso; omega)
          all_goals (
            refine k_iconst C dX8_whyNoStroke_19 ?_
            refine k_goto (tgt := 37) C dX8_whyNoStroke_20 (by decide) ?_
            refine k_iret C hr dX8_whyNoStroke_37 ?_
            refine ⟨?_, rfl⟩
            refine congrArg (fun qq => some (aI qq)) ?_
            unfold zNoS
            first
              | rw [if_pos (by omega)]
              | rw [if_neg (by omega), if_pos (by omega)]
              | rw [if_neg (by omega), if_neg (by omega), if_pos (by omega)]
              | rw [if_neg (by omega), if_neg (by omega), if_neg (by omega)]))
  · try (exfalso; omega)
    all_goals (
      refine k_iconst C dX8_whyNoStroke_10 ?_
      refine k_iret C hr dX8_whyNoStroke_11 ?_
      refine ⟨?_, rfl⟩
      refine congrArg (fun qq => some (aI qq)) ?_
      unfold zNoS
      first
        | rw [if_pos (by omega)]
        | rw [if_neg (by omega), if_pos (by omega)]
        | rw [if_neg (by omega), if_neg (by omega), if_pos (by omega)]
        | rw [if_neg (by omega), if_neg (by omega), if_neg (by omega)])

set_option maxRecDepth 20000 in
set_option maxHeartbeats 1000000 in
theorem ct_X8_whyNow (l : Launch) (D : va_G) (tc : Nat → ClassId) (base : Nat) (oo : Nat) (zrr hhi htx has hro : Int → Int) (st ln th re du hsh : Int) (hpp : AH) (hM : MA hpp oo zrr hhi htx has hro st ln th re du hsh) (qq : Int) (hi : zInv zrr) (ha : zrr 18 + zrr 19 ≤ zrr 13) (hm : zrr 13 ≤ 100000) (hq : 0 ≤ qq ∧ qq ≤ 2) : CT l D tc base yX8_whyNow cX8_whyNow 4 (some .int) 5 [aR oo, aI qq] hpp (fun r h' => r = some (aI (zWhy zrr qq)) ∧ (∃ hax : Int → Int, MA h' oo zrr hhi htx hax hro st ln th re du hsh) ∧ Fr hpp h' oo 6) := by
  refine CT.of [some (aR oo), some (aI qq), none, none] (by decide +kernel) rfl (Nat.le_of_ble_eq_true rfl) ?_
  intro p e s m args below meth c C hr hnm
  obtain ⟨g0, g1, g2, g3, g4, g5⟩ := id hM
  obtain ⟨⟨v0, v1, v2, v9, v10, v11, v12, v13, v21, v52, v61, v62, v63, v64, v65, v66⟩, hwi, hde⟩ := id hi
  have hcr := zCom_rng hi
  have hif := zInv_fp hi ha
  have hdr := zDueN_rng zrr (zrr 21).toNat
  have hhw := zHow_rng (zTwo (zOne zrr))
  refine k_iload_n C dX8_whyNow_0 rfl ?_
  refine k_iconst C dX8_whyNow_1 ?_
  refine k_icmp_ne (tgt := 44) C dX8_whyNow_2 (by decide) ⟨by omega, by omega⟩ ⟨by omega, by omega⟩ (fun c2 => ?_) (fun c2 => ?_)
  · try (exfalso; omega)
    all_goals (
      refine k_aload_n C dX8_whyNow_44 rfl ?_
      refine k_callV C (n := 0) (as := []) (ct_X8_layAside l D tc base oo zrr hhi htx has hro st ln th re du hsh _ hM) ml_X8_158 im_X8_layAside se_X8_layAside ini_X8 co_X8_layAside ⟨rfl, by decide, by decide, by decide +kernel⟩ rfl (ci := 8) rfl (by repeat (first | exact hs_eq _ _ _ | refine hs_ne (by omega) ?_ | assumption)) ⟨by decide, by decide⟩ rfl (Nat.le_of_ble_eq_true rfl) ⟨Nat.zero_le _, Nat.zero_le _⟩ dX8_whyNow_45 ?_
      rintro _ hla ⟨rfl, hM1, hF1⟩
      obtain ⟨k0, k1, k2, k3, k4, k5⟩ := id hM1
      refine k_aload_n C dX8_whyNow_48 rfl ?_
      refine k_callV C (n := 0) (as := []) (ct_X8_firstParts l D tc base oo (oo + 1) _ _ _ (by repeat (first | exact hs_eq _ _ _ | refine hs_ne (by omega) ?_ | assumption)) (by repeat (first | exact hs_eq _ _ _ | refine hs_ne (by omega) ?_ | assumption)) (by omega) hi ha hm) ml_X8_83 im_X8_firstParts se_X8_firstParts ini_X8 co_X8_firstParts ⟨rfl, by decide, by decide, by decide +kernel⟩ rfl (ci := 8) rfl (by repeat (first | exact hs_eq _ _ _ | refine hs_ne (by omega) ?_ | assumption)) ⟨by decide, by decide⟩ rfl (Nat.le_of_ble_eq_true rfl) ⟨Nat.zero_le _, Nat.zero_le _⟩ dX8_whyNow_49 ?_
      rintro _ _ ⟨rfl, rfl⟩
      refine k_istore_n C dX8_whyNow_52 (by decide) rfl ?_
      refine k_iload_n C dX8_whyNow_53 rfl ?_
      refine k_if_ne (tgt := 61) C dX8_whyNow_54 (by decide) ⟨by omega, by omega⟩ (fun c54 => ?_) (fun c54 => ?_)
      · try (exfalso; omega)
        all_goals (
          refine k_aload_n C dX8_whyNow_61 rfl ?_
          refine k_callV C (n := 0) (as := []) (ct_X8_whyNoStroke l D tc base oo (zFP zrr) hhi htx (hCp has zrr 67) hro st ln th re du hsh _ ⟨(by repeat (first | exact hs_eq _ _ _ | refine hs_ne (by omega) ?_ | assumption)), (by repeat (first | exact hs_eq _ _ _ | refine hs_ne (by omega) ?_ | assumption)), (by repeat (first | exact hs_eq _ _ _ | refine hs_ne (by omega) ?_ | assumption)), (by repeat (first | exact hs_eq _ _ _ | refine hs_ne (by omega) ?_ | assumption)), (by repeat (first | exact hs_eq _ _ _ | refine hs_ne (by omega) ?_ | assumption)), (by repeat (first | exact hs_eq _ _ _ | refine hs_ne (by omega) ?_ | assumption))⟩ hif.1) ml_X8_161 im_X8_whyNoStroke se_X8_whyNoStroke ini_X8 co_X8_whyNoStroke ⟨rfl, by decide, by decide, by decide +kernel⟩ rfl (ci := 8) rfl (by repeat (first | exact hs_eq _ _ _ | refine hs_ne (by omega) ?_ | assumption)) ⟨by decide, by decide⟩ rfl (Nat.le_of_ble_eq_true rfl) ⟨Nat.zero_le _, Nat.zero_le _⟩ dX8_whyNow_62 ?_
          rintro _ _ ⟨rfl, rfl⟩
          refine k_istore_n C dX8_whyNow_65 (by decide) rfl ?_
          refine k_aload_n C dX8_whyNow_66 rfl ?_
          refine k_callV C (n := 0) (as := []) (ct_X8_layBackE l D tc base oo (zFP zrr) hhi htx (hCp has zrr 67) hro st ln th re du hsh _ ⟨(by repeat (first | exact hs_eq _ _ _ | refine hs_ne (by omega) ?_ | assumption)), (by repeat (first | exact hs_eq _ _ _ | refine hs_ne (by omega) ?_ | assumption)), (by repeat (first | exact hs_eq _ _ _ | refine hs_ne (by omega) ?_ | assumption)), (by repeat (first | exact hs_eq _ _ _ | refine hs_ne (by omega) ?_ | assumption)), (by repeat (first | exact hs_eq _ _ _ | refine hs_ne (by omega) ?_ | assumption)), (by repeat (first | exact hs_eq _ _ _ | refine hs_ne (by omega) ?_ | assumption))⟩ zrr (fun jj h0 h1 => hCp_in h0 h1)) ml_X8_164 im_X8_layBack se_X8_layBack ini_X8 co_X8_layBack ⟨rfl, by decide, by decide, by decide +kernel⟩ rfl (ci := 8) rfl (by repeat (first | exact hs_eq _ _ _ | refine hs_ne (by omega) ?_ | assumption)) ⟨by decide, by decide⟩ rfl (Nat.le_of_ble_eq_true rfl) ⟨Nat.zero_le _, Nat.zero_le _⟩ dX8_whyNow_67 ?_
          rintro _ _ ⟨rfl, hM3, hF3⟩
          refine k_iload_n C dX8_whyNow_70 rfl ?_
          refine k_iret C hr dX8_whyNow_71 ?_
          first
            | (have e2 : qq = 2 := by omega
               subst e2
               refine ⟨?_, ⟨has, hM⟩, Fr.rf _ _ _⟩
               refine congrArg (fun qq => some (aI qq)) ?_
               show _ = zNoC zrr
               unfold zNoC
               first
                 | rw [if_pos (by omega)]
                 | rw [if_neg (by omega), if_pos (by omega)]
                 | rw [if_neg (by omega), if_neg (by omega), if_pos (by omega)]
                 | rw [if_neg (by omega), if_neg (by omega), if_neg (by omega)])
            | (refine ⟨?_, ⟨_, hM3⟩, Fr.tr (Fr.tr hF1 (fun aaa haa => by repeat (first | rfl | refine hs_ne (by omega) ?_))) hF3⟩
               refine congrArg (fun qq => some (aI qq)) ?_
               unfold zWhy
               first
                 | rw [if_neg (by omega), if_pos (by omega)]
                 | rw [if_neg (by omega), if_neg (by omega)]))
      · try (exfalso; omega)
        all_goals (
          refine k_iload_n C dX8_whyNow_57 rfl ?_
          refine k_goto (tgt := 65) C dX8_whyNow_58 (by decide) ?_
          refine k_istore_n C dX8_whyNow_65 (by decide) rfl ?_
          refine k_aload_n C dX8_whyNow_66 rfl ?_
          refine k_callV C (n := 0) (as := []) (ct_X8_layBackE l D tc base oo (zFP zrr) hhi htx (hCp has zrr 67) hro st ln th re du hsh _ ⟨(by repeat (first | exact hs_eq _ _ _ | refine hs_ne (by omega) ?_ | assumption)), (by repeat (first | exact hs_eq _ _ _ | refine hs_ne (by omega) ?_ | assumption)), (by repeat (first | exact hs_eq _ _ _ | refine hs_ne (by omega) ?_ | assumption)), (by repeat (first | exact hs_eq _ _ _ | refine hs_ne (by omega) ?_ | assumption)), (by repeat (first | exact hs_eq _ _ _ | refine hs_ne (by omega) ?_ | assumption)), (by repeat (first | exact hs_eq _ _ _ | refine hs_ne (by omega) ?_ | assumption))⟩ zrr (fun jj h0 h1 => hCp_in h0 h1)) ml_X8_164 im_X8_layBack se_X8_layBack ini_X8 co_X8_layBack ⟨rfl, by decide, by decide, by decide +kernel⟩ rfl (ci := 8) rfl (by repeat (first | exact hs_eq _ _ _ | refine hs_ne (by omega) ?_ | assumption)) ⟨by decide, by decide⟩ rfl (Nat.le_of_ble_eq_true rfl) ⟨Nat.zero_le _, Nat.zero_le _⟩ dX8_whyNow_67 ?_
          rintro _ _ ⟨rfl, hM3, hF3⟩
          refine k_iload_n C dX8_whyNow_70 rfl ?_
          refine k_iret C hr dX8_whyNow_71 ?_
          first
            | (have e2 : qq = 2 := by omega
               subst e2
               refine ⟨?_, ⟨has, hM⟩, Fr.rf _ _ _⟩
               refine congrArg (fun qq => some (aI qq)) ?_
               show _ = zNoC zrr
               unfold zNoC
               first
                 | rw [if_pos (by omega)]
                 | rw [if_neg (by omega), if_pos (by omega)]
                 | rw [if_neg (by omega), if_neg (by omega), if_pos (by omega)]
                 | rw [if_neg (by omega), if_neg (by omega), if_neg (by omega)])
            | (refine ⟨?_, ⟨_, hM3⟩, Fr.tr (Fr.tr hF1 (fun aaa haa => by repeat (first | rfl | refine hs_ne (by omega) ?_))) hF3⟩
               refine congrArg (fun qq => some (aI qq)) ?_
               unfold zWhy
               first
                 | rw [if_neg (by omega), if_pos (by omega)]
                 | rw [if_neg (by omega), if_neg (by omega)])))
  · try (exfalso; omega)
    all_goals (
      refine k_aload_n C dX8_whyNow_5 rfl ?_
      refine k_callV C (n := 0) (as := []) (ct_X8_comer l D tc base oo (oo + 1) _ _ _ (by repeat (first | exact hs_eq _ _ _ | refine hs_ne (by omega) ?_ | assumption)) (by repeat (first | exact hs_eq _ _ _ | refine hs_ne (by omega) ?_ | assumption)) (by omega) hi hm) ml_X8_50 im_X8_comer se_X8_comer ini_X8 co_X8_comer ⟨rfl, by decide, by decide, by decide +kernel⟩ rfl (ci := 8) rfl (by repeat (first | exact hs_eq _ _ _ | refine hs_ne (by omega) ?_ | assumption)) ⟨by decide, by decide⟩ rfl (Nat.le_of_ble_eq_true rfl) ⟨Nat.zero_le _, Nat.zero_le _⟩ dX8_whyNow_6 ?_
      rintro _ _ ⟨rfl, rfl⟩
      refine k_iconst C dX8_whyNow_9 ?_
      refine k_icmp_eq (tgt := 17) C dX8_whyNow_10 (by decide) ⟨by omega, by omega⟩ ⟨by omega, by omega⟩ (fun c10 => ?_) (fun c10 => ?_)
      · try (exfalso; omega)
        all_goals (
          refine k_aload_n C dX8_whyNow_17 rfl ?_
          refine k_get C (k := 0) inX8 (ci := 8) rfl (by decide) fl_X8_7 dX8_whyNow_18 (by repeat (first | exact hs_eq _ _ _ | refine hs_ne (by omega) ?_ | assumption)) rfl ?_
          refine k_bipush C dX8_whyNow_21 (by decide +kernel) ?_
          refine k_iaload C dX8_whyNow_23 (by repeat (first | exact hs_eq _ _ _ | refine hs_ne (by omega) ?_ | assumption)) (by omega) (by omega) (by omega) ?_
          refine k_if_ne (tgt := 31) C dX8_whyNow_24 (by decide) ⟨by omega, by omega⟩ (fun c24 => ?_) (fun c24 => ?_)
          · try (exfalso; omega)
            all_goals (
              refine k_aload_n C dX8_whyNow_31 rfl ?_
              refine k_callV C (n := 0) (as := []) (ct_X8_dueMany l D tc base oo zrr hhi htx has hro st ln th re du hsh _ hM hi hm) ml_X8_155 im_X8_dueMany se_X8_dueMany ini_X8 co_X8_dueMany ⟨rfl, by decide, by decide, by decide +kernel⟩ rfl (ci := 8) rfl (by repeat (first | exact hs_eq _ _ _ | refine hs_ne (by omega) ?_ | assumption)) ⟨by decide, by decide⟩ rfl (Nat.le_of_ble_eq_true rfl) ⟨Nat.zero_le _, Nat.zero_le _⟩ dX8_whyNow_32 ?_
              rintro _ _ ⟨rfl, rfl⟩
              refine k_if_ne (tgt := 42) C dX8_whyNow_35 (by decide) ⟨by omega, by omega⟩ (fun c35 => ?_) (fun c35 => ?_)
              · try (exfalso; omega)
                all_goals (
                  refine k_iconst C dX8_whyNow_42 ?_
                  refine k_iret C hr dX8_whyNow_43 ?_
                  first
                    | (have e2 : qq = 2 := by omega
                       subst e2
                       refine ⟨?_, ⟨has, hM⟩, Fr.rf _ _ _⟩
                       refine congrArg (fun qq => some (aI qq)) ?_
                       show _ = zNoC zrr
                       unfold zNoC
                       first
                         | rw [if_pos (by omega)]
                         | rw [if_neg (by omega), if_pos (by omega)]
                         | rw [if_neg (by omega), if_neg (by omega), if_pos (by omega)]
                         | rw [if_neg (by omega), if_neg (by omega), if_neg (by omega)])
                    | (refine ⟨?_, ⟨_, hM3⟩, Fr.tr (Fr.tr hF1 (fun aaa haa => by repeat (first | rfl | refine hs_ne (by omega) ?_))) hF3⟩
                       refine congrArg (fun qq => some (aI qq)) ?_
                       unfold zWhy
                       first
                         | rw [if_neg (by omega), if_pos (by omega)]
                         | rw [if_neg (by omega), if_neg (by omega)]))
              · try (exfalso; omega)
                all_goals (
                  refine k_iconst C dX8_whyNow_38 ?_
                  refine k_goto (tgt := 43) C dX8_whyNow_39 (by decide) ?_
                  refine k_iret C hr dX8_whyNow_43 ?_
                  first
                    | (have e2 : qq = 2 := by omega
                       subst e2
                       refine ⟨?_, ⟨has, hM⟩, Fr.rf _ _ _⟩
                       refine congrArg (fun qq => some (aI qq)) ?_
                       show _ = zNoC zrr
                       unfold zNoC
                       first
                         | rw [if_pos (by omega)]
                         | rw [if_neg (by omega), if_pos (by omega)]
                         | rw [if_neg (by omega), if_neg (by omega), if_pos (by omega)]
                         | rw [if_neg (by omega), if_neg (by omega), if_neg (by omega)])
                    | (refine ⟨?_, ⟨_, hM3⟩, Fr.tr (Fr.tr hF1 (fun aaa haa => by repeat (first | rfl | refine hs_ne (by omega) ?_))) hF3⟩
                       refine congrArg (fun qq => some (aI qq)) ?_
                       unfold zWhy
                       first
                         | rw [if_neg (by omega), if_pos (by omega)]
                         | rw [if_neg (by omega), if_neg (by omega)])))
          · try (exfalso; omega)
            all_goals (
              refine k_iconst C dX8_whyNow_27 ?_
              refine k_goto (tgt := 43) C dX8_whyNow_28 (by decide) ?_
              refine k_iret C hr dX8_whyNow_43 ?_
              first
                | (have e2 : qq = 2 := by omega
                   subst e2
                   refine ⟨?_, ⟨has, hM⟩, Fr.rf _ _ _⟩
                   refine congrArg (fun qq => some (aI qq)) ?_
                   show _ = zNoC zrr
                   unfold zNoC
                   first
                     | rw [if_pos (by omega)]
                     | rw [if_neg (by omega), if_pos (by omega)]
                     | rw [if_neg (by omega), if_neg (by omega), if_pos (by omega)]
                     | rw [if_neg (by omega), if_neg (by omega), if_neg (by omega)])
                | (refine ⟨?_, ⟨_, hM3⟩, Fr.tr (Fr.tr hF1 (fun aaa haa => by repeat (first | rfl | refine hs_ne (by omega) ?_))) hF3⟩
                   refine congrArg (fun qq => some (aI qq)) ?_
                   unfold zWhy
                   first
                     | rw [if_neg (by omega), if_pos (by omega)]
                     | rw [if_neg (by omega), if_neg (by omega)])))
      · try (exfalso; omega)
        all_goals (
          refine k_iconst C dX8_whyNow_13 ?_
          refine k_goto (tgt := 43) C dX8_whyNow_14 (by decide) ?_
          refine k_iret C hr dX8_whyNow_43 ?_
          first
            | (have e2 : qq = 2 := by omega
               subst e2
               refine ⟨?_, ⟨has, hM⟩, Fr.rf _ _ _⟩
               refine congrArg (fun qq => some (aI qq)) ?_
               show _ = zNoC zrr
               unfold zNoC
               first
                 | rw [if_pos (by omega)]
                 | rw [if_neg (by omega), if_pos (by omega)]
                 | rw [if_neg (by omega), if_neg (by omega), if_pos (by omega)]
                 | rw [if_neg (by omega), if_neg (by omega), if_neg (by omega)])
            | (refine ⟨?_, ⟨_, hM3⟩, Fr.tr (Fr.tr hF1 (fun aaa haa => by repeat (first | rfl | refine hs_ne (by omega) ?_))) hF3⟩
               refine congrArg (fun qq => some (aI qq)) ?_
               unfold zWhy
               first
                 | rw [if_neg (by omega), if_pos (by omega)]
                 | rw [if_neg (by omega), if_neg (by omega)])))

set_option maxRecDepth 20000 in
set_option maxHeartbeats 1000000 in
theorem ct_X8_why (l : Launch) (D : va_G) (tc : Nat → ClassId) (base : Nat) (oo : Nat) (zrr hhi htx has hro : Int → Int) (st ln th re du hsh : Int) (hpp : AH) (hM : MA hpp oo zrr hhi htx has hro st ln th re du hsh) (qq : Int) (hi : zInv zrr) (ha : zrr 18 + zrr 19 ≤ zrr 13) (hm : zrr 13 ≤ 100000) (hqq : r32 qq) : CT l D tc base yX8_why cX8_why 2 (some .int) 6 [aR oo, aI qq] hpp (fun r h' => ((0 ≤ qq ∧ qq ≤ 2) ∧ r = some (aI (zWhy zrr qq)) ∧ (∃ hax : Int → Int, MA h' oo (zrr) (hhi) (htx) (hax) (hro) (st) (ln) (0) (re) (du) (hsh)) ∧ Fr hpp h' oo 6) ∨ (¬ (0 ≤ qq ∧ qq ≤ 2) ∧ r = some (aI (0)) ∧ (∃ hax : Int → Int, MA h' oo (zrr) (hhi) (htx) (hax) (hro) (st) (ln) (1) (re) (du) (hsh)) ∧ Fr hpp h' oo 6)) := by
  refine CT.of [some (aR oo), some (aI qq)] (by decide +kernel) rfl (Nat.le_of_ble_eq_true rfl) ?_
  intro p e s m args below meth c C hr hnm
  obtain ⟨g0, g1, g2, g3, g4, g5⟩ := id hM
  refine k_aload_n C dX8_why_0 rfl ?_
  refine k_iload_n C dX8_why_1 rfl ?_
  refine k_iconst C dX8_why_2 ?_
  refine k_iconst C dX8_why_3 ?_
  refine k_callS C (n := 3) (as := [_, _, _]) (ct_X8_within l D tc base _ _ _ _ hqq ⟨by omega, by omega⟩ ⟨by omega, by omega⟩) ml_X8_92 sm_X8_within ini_X8 co_X8_within ⟨by decide, by decide, by decide +kernel⟩ rfl ⟨by decide, by decide⟩ rfl (Nat.le_of_ble_eq_true rfl) ⟨Nat.zero_le _, Nat.zero_le _⟩ dX8_why_4 ?_
  rintro _ _ (⟨rfl, rfl, hq4⟩ | ⟨rfl, rfl, hq4⟩)
  · skip
    refine k_if_eq (tgt := 14) C dX8_why_7 (by decide) ⟨by omega, by omega⟩ (fun c7 => ?_) (fun c7 => ?_)
    · try (exfalso; omega)
      all_goals (
        refine k_iconst C dX8_why_14 ?_
        refine k_put C (k := 5) inX8 tyX8_ok nmX8 (ci := 8) rfl (by decide) fl_X8_25 rfl (Nat.le_of_ble_eq_true rfl) dX8_why_15 (by repeat (first | exact hs_eq _ _ _ | refine hs_ne (by omega) ?_ | assumption)) ?_
        refine k_aload_n C dX8_why_18 rfl ?_
        refine k_get C (k := 5) inX8 (ci := 8) rfl (by decide) fl_X8_25 dX8_why_19 (by repeat (first | exact hs_eq _ _ _ | refine hs_ne (by omega) ?_ | assumption)) rfl ?_
        refine k_if_le (tgt := 29) C dX8_why_22 (by decide) ⟨by omega, by omega⟩ (fun c22 => ?_) (fun c22 => ?_)
        · try (exfalso; omega)
          all_goals (
            refine k_aload_n C dX8_why_29 rfl ?_
            refine k_iload_n C dX8_why_30 rfl ?_
            refine k_callV C (n := 1) (as := [_]) (ct_X8_whyNow l D tc base oo zrr hhi htx has hro st ln _ re du hsh _ ⟨(by repeat (first | exact hs_eq _ _ _ | refine hs_ne (by omega) ?_ | assumption)), (by repeat (first | exact hs_eq _ _ _ | refine hs_ne (by omega) ?_ | assumption)), (by repeat (first | exact hs_eq _ _ _ | refine hs_ne (by omega) ?_ | assumption)), (by repeat (first | exact hs_eq _ _ _ | refine hs_ne (by omega) ?_ | assumption)), (by repeat (first | exact hs_eq _ _ _ | refine hs_ne (by omega) ?_ | assumption)), (by repeat (first | exact hs_eq _ _ _ | refine hs_ne (by omega) ?_ | assumption))⟩ _ hi ha hm (by omega)) ml_X8_167 im_X8_whyNow se_X8_whyNow ini_X8 co_X8_whyNow ⟨rfl, by decide, by decide, by decide +kernel⟩ rfl (ci := 8) rfl (by repeat (first | exact hs_eq _ _ _ | refine hs_ne (by omega) ?_ | assumption)) ⟨by decide, by decide⟩ rfl (Nat.le_of_ble_eq_true rfl) ⟨Nat.zero_le _, Nat.zero_le _⟩ dX8_why_31 ?_
            rintro _ _ ⟨rfl, hx3, hF3⟩
            refine k_iret C hr dX8_why_34 ?_
            first
              | exact Or.inl ⟨by omega, rfl, hx3, Fr.tr (fun aaa haa => by repeat (first | rfl | refine hs_ne (by omega) ?_)) hF3⟩
              | exact Or.inr ⟨by omega, rfl, ⟨has, ⟨(by repeat (first | exact hs_eq _ _ _ | refine hs_ne (by omega) ?_ | assumption)), (by repeat (first | exact hs_eq _ _ _ | refine hs_ne (by omega) ?_ | assumption)), (by repeat (first | exact hs_eq _ _ _ | refine hs_ne (by omega) ?_ | assumption)), (by repeat (first | exact hs_eq _ _ _ | refine hs_ne (by omega) ?_ | assumption)), (by repeat (first | exact hs_eq _ _ _ | refine hs_ne (by omega) ?_ | assumption)), (by repeat (first | exact hs_eq _ _ _ | refine hs_ne (by omega) ?_ | assumption))⟩⟩, fun aaa haa => by repeat (first | rfl | refine hs_ne (by omega) ?_)⟩)
        · try (exfalso; omega)
          all_goals (
            refine k_iconst C dX8_why_25 ?_
            refine k_goto (tgt := 34) C dX8_why_26 (by decide) ?_
            refine k_iret C hr dX8_why_34 ?_
            first
              | exact Or.inl ⟨by omega, rfl, hx3, Fr.tr (fun aaa haa => by repeat (first | rfl | refine hs_ne (by omega) ?_)) hF3⟩
              | exact Or.inr ⟨by omega, rfl, ⟨has, ⟨(by repeat (first | exact hs_eq _ _ _ | refine hs_ne (by omega) ?_ | assumption)), (by repeat (first | exact hs_eq _ _ _ | refine hs_ne (by omega) ?_ | assumption)), (by repeat (first | exact hs_eq _ _ _ | refine hs_ne (by omega) ?_ | assumption)), (by repeat (first | exact hs_eq _ _ _ | refine hs_ne (by omega) ?_ | assumption)), (by repeat (first | exact hs_eq _ _ _ | refine hs_ne (by omega) ?_ | assumption)), (by repeat (first | exact hs_eq _ _ _ | refine hs_ne (by omega) ?_ | assumption))⟩⟩, fun aaa haa => by repeat (first | rfl | refine hs_ne (by omega) ?_)⟩))
    · try (exfalso; omega)
      all_goals (
        refine k_iconst C dX8_why_10 ?_
        refine k_goto (tgt := 15) C dX8_why_11 (by decide) ?_
        refine k_put C (k := 5) inX8 tyX8_ok nmX8 (ci := 8) rfl (by decide) fl_X8_25 rfl (Nat.le_of_ble_eq_true rfl) dX8_why_15 (by repeat (first | exact hs_eq _ _ _ | refine hs_ne (by omega) ?_ | assumption)) ?_
        refine k_aload_n C dX8_why_18 rfl ?_
        refine k_get C (k := 5) inX8 (ci := 8) rfl (by decide) fl_X8_25 dX8_why_19 (by repeat (first | exact hs_eq _ _ _ | refine hs_ne (by omega) ?_ | assumption)) rfl ?_
        refine k_if_le (tgt := 29) C dX8_why_22 (by decide) ⟨by omega, by omega⟩ (fun c22 => ?_) (fun c22 => ?_)
        · try (exfalso; omega)
          all_goals (
            refine k_aload_n C dX8_why_29 rfl ?_
            refine k_iload_n C dX8_why_30 rfl ?_
            refine k_callV C (n := 1) (as := [_]) (ct_X8_whyNow l D tc base oo zrr hhi htx has hro st ln _ re du hsh _ ⟨(by repeat (first | exact hs_eq _ _ _ | refine hs_ne (by omega) ?_ | assumption)), (by repeat (first | exact hs_eq _ _ _ | refine hs_ne (by omega) ?_ | assumption)), (by repeat (first | exact hs_eq _ _ _ | refine hs_ne (by omega) ?_ | assumption)), (by repeat (first | exact hs_eq _ _ _ | refine hs_ne (by omega) ?_ | assumption)), (by repeat (first | exact hs_eq _ _ _ | refine hs_ne (by omega) ?_ | assumption)), (by repeat (first | exact hs_eq _ _ _ | refine hs_ne (by omega) ?_ | assumption))⟩ _ hi ha hm (by omega)) ml_X8_167 im_X8_whyNow se_X8_whyNow ini_X8 co_X8_whyNow ⟨rfl, by decide, by decide, by decide +kernel⟩ rfl (ci := 8) rfl (by repeat (first | exact hs_eq _ _ _ | refine hs_ne (by omega) ?_ | assumption)) ⟨by decide, by decide⟩ rfl (Nat.le_of_ble_eq_true rfl) ⟨Nat.zero_le _, Nat.zero_le _⟩ dX8_why_31 ?_
            rintro _ _ ⟨rfl, hx3, hF3⟩
            refine k_iret C hr dX8_why_34 ?_
            first
              | exact Or.inl ⟨by omega, rfl, hx3, Fr.tr (fun aaa haa => by repeat (first | rfl | refine hs_ne (by omega) ?_)) hF3⟩
              | exact Or.inr ⟨by omega, rfl, ⟨has, ⟨(by repeat (first | exact hs_eq _ _ _ | refine hs_ne (by omega) ?_ | assumption)), (by repeat (first | exact hs_eq _ _ _ | refine hs_ne (by omega) ?_ | assumption)), (by repeat (first | exact hs_eq _ _ _ | refine hs_ne (by omega) ?_ | assumption)), (by repeat (first | exact hs_eq _ _ _ | refine hs_ne (by omega) ?_ | assumption)), (by repeat (first | exact hs_eq _ _ _ | refine hs_ne (by omega) ?_ | assumption)), (by repeat (first | exact hs_eq _ _ _ | refine hs_ne (by omega) ?_ | assumption))⟩⟩, fun aaa haa => by repeat (first | rfl | refine hs_ne (by omega) ?_)⟩)
        · try (exfalso; omega)
          all_goals (
            refine k_iconst C dX8_why_25 ?_
            refine k_goto (tgt := 34) C dX8_why_26 (by decide) ?_
            refine k_iret C hr dX8_why_34 ?_
            first
              | exact Or.inl ⟨by omega, rfl, hx3, Fr.tr (fun aaa haa => by repeat (first | rfl | refine hs_ne (by omega) ?_)) hF3⟩
              | exact Or.inr ⟨by omega, rfl, ⟨has, ⟨(by repeat (first | exact hs_eq _ _ _ | refine hs_ne (by omega) ?_ | assumption)), (by repeat (first | exact hs_eq _ _ _ | refine hs_ne (by omega) ?_ | assumption)), (by repeat (first | exact hs_eq _ _ _ | refine hs_ne (by omega) ?_ | assumption)), (by repeat (first | exact hs_eq _ _ _ | refine hs_ne (by omega) ?_ | assumption)), (by repeat (first | exact hs_eq _ _ _ | refine hs_ne (by omega) ?_ | assumption)), (by repeat (first | exact hs_eq _ _ _ | refine hs_ne (by omega) ?_ | assumption))⟩⟩, fun aaa haa => by repeat (first | rfl | refine hs_ne (by omega) ?_)⟩))
  · skip
    refine k_if_eq (tgt := 14) C dX8_why_7 (by decide) ⟨by omega, by omega⟩ (fun c7 => ?_) (fun c7 => ?_)
    · try (exfalso; omega)
      all_goals (
        refine k_iconst C dX8_why_14 ?_
        refine k_put C (k := 5) inX8 tyX8_ok nmX8 (ci := 8) rfl (by decide) fl_X8_25 rfl (Nat.le_of_ble_eq_true rfl) dX8_why_15 (by repeat (first | exact hs_eq _ _ _ | refine hs_ne (by omega) ?_ | assumption)) ?_
        refine k_aload_n C dX8_why_18 rfl ?_
        refine k_get C (k := 5) inX8 (ci := 8) rfl (by decide) fl_X8_25 dX8_why_19 (by repeat (first | exact hs_eq _ _ _ | refine hs_ne (by omega) ?_ | assumption)) rfl ?_
        refine k_if_le (tgt := 29) C dX8_why_22 (by decide) ⟨by omega, by omega⟩ (fun c22 => ?_) (fun c22 => ?_)
        · try (exfalso; omega)
          all_goals (
            refine k_aload_n C dX8_why_29 rfl ?_
            refine k_iload_n C dX8_why_30 rfl ?_
            refine k_callV C (n := 1) (as := [_]) (ct_X8_whyNow l D tc base oo zrr hhi htx has hro st ln _ re du hsh _ ⟨(by repeat (first | exact hs_eq _ _ _ | refine hs_ne (by omega) ?_ | assumption)), (by repeat (first | exact hs_eq _ _ _ | refine hs_ne (by omega) ?_ | assumption)), (by repeat (first | exact hs_eq _ _ _ | refine hs_ne (by omega) ?_ | assumption)), (by repeat (first | exact hs_eq _ _ _ | refine hs_ne (by omega) ?_ | assumption)), (by repeat (first | exact hs_eq _ _ _ | refine hs_ne (by omega) ?_ | assumption)), (by repeat (first | exact hs_eq _ _ _ | refine hs_ne (by omega) ?_ | assumption))⟩ _ hi ha hm (by omega)) ml_X8_167 im_X8_whyNow se_X8_whyNow ini_X8 co_X8_whyNow ⟨rfl, by decide, by decide, by decide +kernel⟩ rfl (ci := 8) rfl (by repeat (first | exact hs_eq _ _ _ | refine hs_ne (by omega) ?_ | assumption)) ⟨by decide, by decide⟩ rfl (Nat.le_of_ble_eq_true rfl) ⟨Nat.zero_le _, Nat.zero_le _⟩ dX8_why_31 ?_
            rintro _ _ ⟨rfl, hx3, hF3⟩
            refine k_iret C hr dX8_why_34 ?_
            first
              | exact Or.inl ⟨by omega, rfl, hx3, Fr.tr (fun aaa haa => by repeat (first | rfl | refine hs_ne (by omega) ?_)) hF3⟩
              | exact Or.inr ⟨by omega, rfl, ⟨has, ⟨(by repeat (first | exact hs_eq _ _ _ | refine hs_ne (by omega) ?_ | assumption)), (by repeat (first | exact hs_eq _ _ _ | refine hs_ne (by omega) ?_ | assumption)), (by repeat (first | exact hs_eq _ _ _ | refine hs_ne (by omega) ?_ | assumption)), (by repeat (first | exact hs_eq _ _ _ | refine hs_ne (by omega) ?_ | assumption)), (by repeat (first | exact hs_eq _ _ _ | refine hs_ne (by omega) ?_ | assumption)), (by repeat (first | exact hs_eq _ _ _ | refine hs_ne (by omega) ?_ | assumption))⟩⟩, fun aaa haa => by repeat (first | rfl | refine hs_ne (by omega) ?_)⟩)
        · try (exfalso; omega)
          all_goals (
            refine k_iconst C dX8_why_25 ?_
            refine k_goto (tgt := 34) C dX8_why_26 (by decide) ?_
            refine k_iret C hr dX8_why_34 ?_
            first
              | exact Or.inl ⟨by omega, rfl, hx3, Fr.tr (fun aaa haa => by repeat (first | rfl | refine hs_ne (by omega) ?_)) hF3⟩
              | exact Or.inr ⟨by omega, rfl, ⟨has, ⟨(by repeat (first | exact hs_eq _ _ _ | refine hs_ne (by omega) ?_ | assumption)), (by repeat (first | exact hs_eq _ _ _ | refine hs_ne (by omega) ?_ | assumption)), (by repeat (first | exact hs_eq _ _ _ | refine hs_ne (by omega) ?_ | assumption)), (by repeat (first | exact hs_eq _ _ _ | refine hs_ne (by omega) ?_ | assumption)), (by repeat (first | exact hs_eq _ _ _ | refine hs_ne (by omega) ?_ | assumption)), (by repeat (first | exact hs_eq _ _ _ | refine hs_ne (by omega) ?_ | assumption))⟩⟩, fun aaa haa => by repeat (first | rfl | refine hs_ne (by omega) ?_)⟩))
    · try (exfalso; omega)
      all_goals (
        refine k_iconst C dX8_why_10 ?_
        refine k_goto (tgt := 15) C dX8_why_11 (by decide) ?_
        refine k_put C (k := 5) inX8 tyX8_ok nmX8 (ci := 8) rfl (by decide) fl_X8_25 rfl (Nat.le_of_ble_eq_true rfl) dX8_why_15 (by repeat (first | exact hs_eq _ _ _ | refine hs_ne (by omega) ?_ | assumption)) ?_
        refine k_aload_n C dX8_why_18 rfl ?_
        refine k_get C (k := 5) inX8 (ci := 8) rfl (by decide) fl_X8_25 dX8_why_19 (by repeat (first | exact hs_eq _ _ _ | refine hs_ne (by omega) ?_ | assumption)) rfl ?_
        refine k_if_le (tgt := 29) C dX8_why_22 (by decide) ⟨by omega, by omega⟩ (fun c22 => ?_) (fun c22 => ?_)
        · try (exfalso; omega)
          all_goals (
            refine k_aload_n C dX8_why_29 rfl ?_
            refine k_iload_n C dX8_why_30 rfl ?_
            refine k_callV C (n := 1) (as := [_]) (ct_X8_whyNow l D tc base oo zrr hhi htx has hro st ln _ re du hsh _ ⟨(by repeat (first | exact hs_eq _ _ _ | refine hs_ne (by omega) ?_ | assumption)), (by repeat (first | exact hs_eq _ _ _ | refine hs_ne (by omega) ?_ | assumption)), (by repeat (first | exact hs_eq _ _ _ | refine hs_ne (by omega) ?_ | assumption)), (by repeat (first | exact hs_eq _ _ _ | refine hs_ne (by omega) ?_ | assumption)), (by repeat (first | exact hs_eq _ _ _ | refine hs_ne (by omega) ?_ | assumption)), (by repeat (first | exact hs_eq _ _ _ | refine hs_ne (by omega) ?_ | assumption))⟩ _ hi ha hm (by omega)) ml_X8_167 im_X8_whyNow se_X8_whyNow ini_X8 co_X8_whyNow ⟨rfl, by decide, by decide, by decide +kernel⟩ rfl (ci := 8) rfl (by repeat (first | exact hs_eq _ _ _ | refine hs_ne (by omega) ?_ | assumption)) ⟨by decide, by decide⟩ rfl (Nat.le_of_ble_eq_true rfl) ⟨Nat.zero_le _, Nat.zero_le _⟩ dX8_why_31 ?_
            rintro _ _ ⟨rfl, hx3, hF3⟩
            refine k_iret C hr dX8_why_34 ?_
            first
              | exact Or.inl ⟨by omega, rfl, hx3, Fr.tr (fun aaa haa => by repeat (first | rfl | refine hs_ne (by omega) ?_)) hF3⟩
              | exact Or.inr ⟨by omega, rfl, ⟨has, ⟨(by repeat (first | exact hs_eq _ _ _ | refine hs_ne (by omega) ?_ | assumption)), (by repeat (first | exact hs_eq _ _ _ | refine hs_ne (by omega) ?_ | assumption)), (by repeat (first | exact hs_eq _ _ _ | refine hs_ne (by omega) ?_ | assumption)), (by repeat (first | exact hs_eq _ _ _ | refine hs_ne (by omega) ?_ | assumption)), (by repeat (first | exact hs_eq _ _ _ | refine hs_ne (by omega) ?_ | assumption)), (by repeat (first | exact hs_eq _ _ _ | refine hs_ne (by omega) ?_ | assumption))⟩⟩, fun aaa haa => by repeat (first | rfl | refine hs_ne (by omega) ?_)⟩)
        · try (exfalso; omega)
          all_goals (
            refine k_iconst C dX8_why_25 ?_
            refine k_goto (tgt := 34) C dX8_why_26 (by decide) ?_
            refine k_iret C hr dX8_why_34 ?_
            first
              | exact Or.inl ⟨by omega, rfl, hx3, Fr.tr (fun aaa haa => by repeat (first | rfl | refine hs_ne (by omega) ?_)) hF3⟩
              | exact Or.inr ⟨by omega, rfl, ⟨has, ⟨(by repeat (first | exact hs_eq _ _ _ | refine hs_ne (by omega) ?_ | assumption)), (by repeat (first | exact hs_eq _ _ _ | refine hs_ne (by omega) ?_ | assumption)), (by repeat (first | exact hs_eq _ _ _ | refine hs_ne (by omega) ?_ | assumption)), (by repeat (first | exact hs_eq _ _ _ | refine hs_ne (by omega) ?_ | assumption)), (by repeat (first | exact hs_eq _ _ _ | refine hs_ne (by omega) ?_ | assumption)), (by repeat (first | exact hs_eq _ _ _ | refine hs_ne (by omega) ?_ | assumption))⟩⟩, fun aaa haa => by repeat (first | rfl | refine hs_ne (by omega) ?_)⟩))

set_option maxRecDepth 20000 in
set_option maxHeartbeats 1000000 in
theorem ct_X8_toldNow (l : Launch) (D : va_G) (tc : Nat → ClassId) (base : Nat) (oo : Nat) (zrr hhi htx has hro : Int → Int) (st ln th re du hsh : Int) (hpp : AH) (hM : MA hpp oo zrr hhi htx has hro st ln th re du hsh) (qq : Int) (hi : zInv zrr) (hq : 0 ≤ qq ∧ qq ≤ 9) : CT l D tc base yX8_toldNow cX8_toldNow 2 (some .int) 1 [aR oo, aI qq] hpp (fun r h' => r = some (aI (zOut zrr qq)) ∧ hpp = h') := by
  refine CT.of [some (aR oo), some (aI qq)] (by decide +kernel) rfl (Nat.le_of_ble_eq_true rfl) ?_
  intro p e s m args below meth c C hr hnm
  obtain ⟨g0, g1, g2, g3, g4, g5⟩ := id hM
  obtain ⟨⟨v0, v1, v2, v9, v10, v11, v12, v13, v21, v52, v61, v62, v63, v64, v65, v66⟩, hwi, hde⟩ := id hi
  refine k_iload_n C dX8_toldNow_0 rfl ?_
  refine k_tsw (dt := 97) C [44, 52, 57, 65, 73, 81, 89] dX8_toldNow_1 ⟨by omega, by omega⟩ (by decide) (by decide) (by decide) (And.intro (fun c1 => ?_) (And.intro (fun c1 => ?_) (And.intro (fun c1 => ?_) (And.intro (fun c1 => ?_) (And.intro (fun c1 => ?_) (And.intro (fun c1 => ?_) (And.intro (fun c1 => ?_) trivial))))))) (fun c1 => ?_)
  · try (exfalso; omega)
    all_goals (
      refine k_aload_n C dX8_toldNow_44 rfl ?_
      refine k_get C (k := 0) inX8 (ci := 8) rfl (by decide) fl_X8_7 dX8_toldNow_45 (by repeat (first | exact hs_eq _ _ _ | refine hs_ne (by omega) ?_ | assumption)) rfl ?_
      refine k_bipush C dX8_toldNow_48 (by decide +kernel) ?_
      refine k_iaload C dX8_toldNow_50 (by repeat (first | exact hs_eq _ _ _ | refine hs_ne (by omega) ?_ | assumption)) (by omega) (by omega) (by omega) ?_
      refine k_iret C hr dX8_toldNow_51 ?_
      refine ⟨?_, rfl⟩
      refine congrArg (fun qq => some (aI qq)) ?_
      rcases (show qq = 3 ∨ qq = 4 ∨ qq = 5 ∨ qq = 6 ∨ qq = 7 ∨ qq = 8 ∨ qq = 9 ∨ ((0 ≤ qq ∧ qq ≤ 2)) by omega) with rfl | rfl | rfl | rfl | rfl | rfl | rfl | hq7 <;> first
        | rfl
        | (exfalso; omega)
        | (simp (disch := omega) only [zOut, if_neg]))
  · try (exfalso; omega)
    all_goals (
      refine k_aload_n C dX8_toldNow_52 rfl ?_
      refine k_callV C (n := 0) (as := []) (ct_X8_owed l D tc base oo (oo + 1) _ _ _ (by repeat (first | exact hs_eq _ _ _ | refine hs_ne (by omega) ?_ | assumption)) (by repeat (first | exact hs_eq _ _ _ | refine hs_ne (by omega) ?_ | assumption)) (by omega) hi) ml_X8_109 im_X8_owed se_X8_owed ini_X8 co_X8_owed ⟨rfl, by decide, by decide, by decide +kernel⟩ rfl (ci := 8) rfl (by repeat (first | exact hs_eq _ _ _ | refine hs_ne (by omega) ?_ | assumption)) ⟨by decide, by decide⟩ rfl (Nat.le_of_ble_eq_true rfl) ⟨Nat.zero_le _, Nat.zero_le _⟩ dX8_toldNow_53 ?_
      rintro _ _ ⟨rfl, rfl⟩
      refine k_iret C hr dX8_toldNow_56 ?_
      refine ⟨?_, rfl⟩
      refine congrArg (fun qq => some (aI qq)) ?_
      rcases (show qq = 3 ∨ qq = 4 ∨ qq = 5 ∨ qq = 6 ∨ qq = 7 ∨ qq = 8 ∨ qq = 9 ∨ ((0 ≤ qq ∧ qq ≤ 2)) by omega) with rfl | rfl | rfl | rfl | rfl | rfl | rfl | hq7 <;> first
        | rfl
        | (exfalso; omega)
        | (simp (disch := omega) only [zOut, if_neg]))
  · try (exfalso; omega)
    all_goals (
      refine k_aload_n C dX8_toldNow_57 rfl ?_
      refine k_get C (k := 0) inX8 (ci := 8) rfl (by decide) fl_X8_7 dX8_toldNow_58 (by repeat (first | exact hs_eq _ _ _ | refine hs_ne (by omega) ?_ | assumption)) rfl ?_
      refine k_bipush C dX8_toldNow_61 (by decide +kernel) ?_
      refine k_iaload C dX8_toldNow_63 (by repeat (first | exact hs_eq _ _ _ | refine hs_ne (by omega) ?_ | assumption)) (by omega) (by omega) (by omega) ?_
      refine k_iret C hr dX8_toldNow_64 ?_
      refine ⟨?_, rfl⟩
      refine congrArg (fun qq => some (aI qq)) ?_
      rcases (show qq = 3 ∨ qq = 4 ∨ qq = 5 ∨ qq = 6 ∨ qq = 7 ∨ qq = 8 ∨ qq = 9 ∨ ((0 ≤ qq ∧ qq ≤ 2)) by omega) with rfl | rfl | rfl | rfl | rfl | rfl | rfl | hq7 <;> first
        | rfl
        | (exfalso; omega)
        | (simp (disch := omega) only [zOut, if_neg]))
  · try (exfalso; omega)
    all_goals (
      refine k_aload_n C dX8_toldNow_65 rfl ?_
      refine k_get C (k := 0) inX8 (ci := 8) rfl (by decide) fl_X8_7 dX8_toldNow_66 (by repeat (first | exact hs_eq _ _ _ | refine hs_ne (by omega) ?_ | assumption)) rfl ?_
      refine k_bipush C dX8_toldNow_69 (by decide +kernel) ?_
      refine k_iaload C dX8_toldNow_71 (by repeat (first | exact hs_eq _ _ _ | refine hs_ne (by omega) ?_ | assumption)) (by omega) (by omega) (by omega) ?_
      refine k_iret C hr dX8_toldNow_72 ?_
      refine ⟨?_, rfl⟩
      refine congrArg (fun qq => some (aI qq)) ?_
      rcases (show qq = 3 ∨ qq = 4 ∨ qq = 5 ∨ qq = 6 ∨ qq = 7 ∨ qq = 8 ∨ qq = 9 ∨ ((0 ≤ qq ∧ qq ≤ 2)) by omega) with rfl | rfl | rfl | rfl | rfl | rfl | rfl | hq7 <;> first
        | rfl
        | (exfalso; omega)
        | (simp (disch := omega) only [zOut, if_neg]))
  · try (exfalso; omega)
    all_goals (
      refine k_aload_n C dX8_toldNow_73 rfl ?_
      refine k_get C (k := 0) inX8 (ci := 8) rfl (by decide) fl_X8_7 dX8_toldNow_74 (by repeat (first | exact hs_eq _ _ _ | refine hs_ne (by omega) ?_ | assumption)) rfl ?_
      refine k_bipush C dX8_toldNow_77 (by decide +kernel) ?_
      refine k_iaload C dX8_toldNow_79 (by repeat (first | exact hs_eq _ _ _ | refine hs_ne (by omega) ?_ | assumption)) (by omega) (by omega) (by omega) ?_
      refine k_iret C hr dX8_toldNow_80 ?_
      refine ⟨?_, rfl⟩
      refine congrArg (fun qq => some (aI qq)) ?_
      rcases (show qq = 3 ∨ qq = 4 ∨ qq = 5 ∨ qq = 6 ∨ qq = 7 ∨ qq = 8 ∨ qq = 9 ∨ ((0 ≤ qq ∧ qq ≤ 2)) by omega) with rfl | rfl | rfl | rfl | rfl | rfl | rfl | hq7 <;> first
        | rfl
        | (exfalso; omega)
        | (simp (disch := omega) only [zOut, if_neg]))
  · try (exfalso; omega)
    all_goals (
      refine k_aload_n C dX8_toldNow_81 rfl ?_
      refine k_get C (k := 0) inX8 (ci := 8) rfl (by decide) fl_X8_7 dX8_toldNow_82 (by repeat (first | exact hs_eq _ _ _ | refine hs_ne (by omega) ?_ | assumption)) rfl ?_
      refine k_bipush C dX8_toldNow_85 (by decide +kernel) ?_
      refine k_iaload C dX8_toldNow_87 (by repeat (first | exact hs_eq _ _ _ | refine hs_ne (by omega) ?_ | assumption)) (by omega) (by omega) (by omega) ?_
      refine k_iret C hr dX8_toldNow_88 ?_
      refine ⟨?_, rfl⟩
      refine congrArg (fun qq => some (aI qq)) ?_
      rcases (show qq = 3 ∨ qq = 4 ∨ qq = 5 ∨ qq = 6 ∨ qq = 7 ∨ qq = 8 ∨ qq = 9 ∨ ((0 ≤ qq ∧ qq ≤ 2)) by omega) with rfl | rfl | rfl | rfl | rfl | rfl | rfl | hq7 <;> first
        | rfl
        | (exfalso; omega)
        | (simp (disch := omega) only [zOut, if_neg]))
  · try (exfalso; omega)
    all_goals (
      refine k_aload_n C dX8_toldNow_89 rfl ?_
      refine k_get C (k := 0) inX8 (ci := 8) rfl (by decide) fl_X8_7 dX8_toldNow_90 (by repeat (first | exact hs_eq _ _ _ | refine hs_ne (by omega) ?_ | assumption)) rfl ?_
      refine k_bipush C dX8_toldNow_93 (by decide +kernel) ?_
      refine k_iaload C dX8_toldNow_95 (by repeat (first | exact hs_eq _ _ _ | refine hs_ne (by omega) ?_ | assumption)) (by omega) (by omega) (by omega) ?_
      refine k_iret C hr dX8_toldNow_96 ?_
      refine ⟨?_, rfl⟩
      refine congrArg (fun qq => some (aI qq)) ?_
      rcases (show qq = 3 ∨ qq = 4 ∨ qq = 5 ∨ qq = 6 ∨ qq = 7 ∨ qq = 8 ∨ qq = 9 ∨ ((0 ≤ qq ∧ qq ≤ 2)) by omega) with rfl | rfl | rfl | rfl | rfl | rfl | rfl | hq7 <;> first
        | rfl
        | (exfalso; omega)
        | (simp (disch := omega) only [zOut, if_neg]))
  · try (exfalso; omega)
    all_goals (
      refine k_aload_n C dX8_toldNow_97 rfl ?_
      refine k_get C (k := 0) inX8 (ci := 8) rfl (by decide) fl_X8_7 dX8_toldNow_98 (by repeat (first | exact hs_eq _ _ _ | refine hs_ne (by omega) ?_ | assumption)) rfl ?_
      refine k_iconst C dX8_toldNow_101 ?_
      refine k_iload_n C dX8_toldNow_102 rfl ?_
      refine k_iadd C dX8_toldNow_103 ?_
      refine k_iaload C dX8_toldNow_104 (by repeat (first | exact hs_eq _ _ _ | refine hs_ne (by omega) ?_ | assumption)) (by omega) (by omega) (by omega) ?_
      try simp only [Int.zero_add]
      refine k_iret C hr dX8_toldNow_105 ?_
      refine ⟨?_, rfl⟩
      refine congrArg (fun qq => some (aI qq)) ?_
      rcases (show qq = 3 ∨ qq = 4 ∨ qq = 5 ∨ qq = 6 ∨ qq = 7 ∨ qq = 8 ∨ qq = 9 ∨ ((0 ≤ qq ∧ qq ≤ 2)) by omega) with rfl | rfl | rfl | rfl | rfl | rfl | rfl | hq7 <;> first
        | rfl
        | (exfalso; omega)
        | (simp (disch := omega) only [zOut, if_neg]))

set_option maxRecDepth 20000 in
set_option maxHeartbeats 1000000 in
theorem ct_X8_passed (l : Launch) (D : va_G) (tc : Nat → ClassId) (base : Nat) (oo : Nat) (zrr hhi htx has hro : Int → Int) (st ln th re du hsh : Int) (hpp : AH) (hM : MA hpp oo zrr hhi htx has hro st ln th re du hsh) (nn : Nat) (qq : Int) (hi : zInv zrr) (ha : zrr 18 + zrr 19 ≤ zrr 13) (hn : zrr 13 + nn ≤ 100000) (hq : 0 ≤ qq ∧ qq ≤ 9) : CT l D tc base yX8_passed cX8_passed 4 (some .int) 7 [aR oo, aI nn, aI qq] hpp (fun r h' => r = some (aI (zOut (zGo zrr nn) qq)) ∧ (∃ hax : Int → Int, MA h' oo zrr hhi htx hax hro st ln th re du hsh) ∧ Fr hpp h' oo 6) := by
  refine CT.of [some (aR oo), some (aI nn), some (aI qq), none] (by decide +kernel) rfl (Nat.le_of_ble_eq_true rfl) ?_
  intro p e s m args below meth c C hr hnm
  obtain ⟨g0, g1, g2, g3, g4, g5⟩ := id hM
  have hok := zOk_go ⟨hi, ha⟩ nn
  refine k_aload_n C dX8_passed_0 rfl ?_
  refine k_callV C (n := 0) (as := []) (ct_X8_layAside l D tc base oo zrr hhi htx has hro st ln th re du hsh _ hM) ml_X8_158 im_X8_layAside se_X8_layAside ini_X8 co_X8_layAside ⟨rfl, by decide, by decide, by decide +kernel⟩ rfl (ci := 8) rfl (by repeat (first | exact hs_eq _ _ _ | refine hs_ne (by omega) ?_ | assumption)) ⟨by decide, by decide⟩ rfl (Nat.le_of_ble_eq_true rfl) ⟨Nat.zero_le _, Nat.zero_le _⟩ dX8_passed_1 ?_
  rintro _ hla ⟨rfl, hM1, hF1⟩
  obtain ⟨k0, k1, k2, k3, k4, k5⟩ := id hM1
  refine k_aload_n C dX8_passed_4 rfl ?_
  refine k_iload_n C dX8_passed_5 rfl ?_
  refine k_callV C (n := 1) (as := [_]) (ct_X8_goOn l D tc base oo (oo + 1) _ _ _ (by repeat (first | exact hs_eq _ _ _ | refine hs_ne (by omega) ?_ | assumption)) (by repeat (first | exact hs_eq _ _ _ | refine hs_ne (by omega) ?_ | assumption)) (by omega) hi ha nn hn) ml_X8_122 im_X8_goOn se_X8_goOn ini_X8 co_X8_goOn ⟨rfl, by decide, by decide, by decide +kernel⟩ rfl (ci := 8) rfl (by repeat (first | exact hs_eq _ _ _ | refine hs_ne (by omega) ?_ | assumption)) ⟨by decide, by decide⟩ rfl (Nat.le_of_ble_eq_true rfl) ⟨Nat.zero_le _, Nat.zero_le _⟩ dX8_passed_6 ?_
  rintro _ _ ⟨rfl, rfl⟩
  refine k_aload_n C dX8_passed_9 rfl ?_
  refine k_iload_n C dX8_passed_10 rfl ?_
  refine k_callV C (n := 1) (as := [_]) (ct_X8_toldNow l D tc base oo (zGo zrr nn) hhi htx (hCp has zrr 67) hro st ln th re du hsh _ ⟨(by repeat (first | exact hs_eq _ _ _ | refine hs_ne (by omega) ?_ | assumption)), (by repeat (first | exact hs_eq _ _ _ | refine hs_ne (by omega) ?_ | assumption)), (by repeat (first | exact hs_eq _ _ _ | refine hs_ne (by omega) ?_ | assumption)), (by repeat (first | exact hs_eq _ _ _ | refine hs_ne (by omega) ?_ | assumption)), (by repeat (first | exact hs_eq _ _ _ | refine hs_ne (by omega) ?_ | assumption)), (by repeat (first | exact hs_eq _ _ _ | refine hs_ne (by omega) ?_ | assumption))⟩ _ hok.1.1 hq) ml_X8_170 im_X8_toldNow se_X8_toldNow ini_X8 co_X8_toldNow ⟨rfl, by decide, by decide, by decide +kernel⟩ rfl (ci := 8) rfl (by repeat (first | exact hs_eq _ _ _ | refine hs_ne (by omega) ?_ | assumption)) ⟨by decide, by decide⟩ rfl (Nat.le_of_ble_eq_true rfl) ⟨Nat.zero_le _, Nat.zero_le _⟩ dX8_passed_11 ?_
  rintro _ _ ⟨rfl, rfl⟩
  refine k_istore_n C dX8_passed_14 (by decide) rfl ?_
  refine k_aload_n C dX8_passed_15 rfl ?_
  refine k_callV C (n := 0) (as := []) (ct_X8_layBackE l D tc base oo (zGo zrr nn) hhi htx (hCp has zrr 67) hro st ln th re du hsh _ ⟨(by repeat (first | exact hs_eq _ _ _ | refine hs_ne (by omega) ?_ | assumption)), (by repeat (first | exact hs_eq _ _ _ | refine hs_ne (by omega) ?_ | assumption)), (by repeat (first | exact hs_eq _ _ _ | refine hs_ne (by omega) ?_ | assumption)), (by repeat (first | exact hs_eq _ _ _ | refine hs_ne (by omega) ?_ | assumption)), (by repeat (first | exact hs_eq _ _ _ | refine hs_ne (by omega) ?_ | assumption)), (by repeat (first | exact hs_eq _ _ _ | refine hs_ne (by omega) ?_ | assumption))⟩ zrr (fun jj h0 h1 => hCp_in h0 h1)) ml_X8_164 im_X8_layBack se_X8_layBack ini_X8 co_X8_layBack ⟨rfl, by decide, by decide, by decide +kernel⟩ rfl (ci := 8) rfl (by repeat (first | exact hs_eq _ _ _ | refine hs_ne (by omega) ?_ | assumption)) ⟨by decide, by decide⟩ rfl (Nat.le_of_ble_eq_true rfl) ⟨Nat.zero_le _, Nat.zero_le _⟩ dX8_passed_16 ?_
  rintro _ _ ⟨rfl, hM3, hF3⟩
  refine k_iload_n C dX8_passed_19 rfl ?_
  refine k_iret C hr dX8_passed_20 ?_
  exact ⟨rfl, ⟨_, hM3⟩, Fr.tr (Fr.tr hF1 (fun aaa haa => by repeat (first | rfl | refine hs_ne (by omega) ?_))) hF3⟩

set_option maxRecDepth 20000 in
set_option maxHeartbeats 1000000 in
theorem ct_X8_ifPassed (l : Launch) (D : va_G) (tc : Nat → ClassId) (base : Nat) (oo : Nat) (zrr hhi htx has hro : Int → Int) (st ln th re du hsh : Int) (hpp : AH) (hM : MA hpp oo zrr hhi htx has hro st ln th re du hsh) (ww qq : Int) (hi : zInv zrr) (ha : zrr 18 + zrr 19 ≤ zrr 13) (hw : r32 ww) (hqq : r32 qq) (h13 : zrr 13 ≤ 20000) : CT l D tc base yX8_ifPassed cX8_ifPassed 3 (some .int) 8 [aR oo, aI ww, aI qq] hpp (fun r h' => (((1 ≤ ww ∧ ww ≤ 720) ∧ (0 ≤ qq ∧ qq ≤ 9)) ∧ r = some (aI (zOut (zGo zrr ww.toNat) qq)) ∧ (∃ hax : Int → Int, MA h' oo (zrr) (hhi) (htx) (hax) (hro) (st) (ln) (0) (re) (du) (hsh)) ∧ Fr hpp h' oo 6) ∨ (¬ ((1 ≤ ww ∧ ww ≤ 720) ∧ (0 ≤ qq ∧ qq ≤ 9)) ∧ r = some (aI (0)) ∧ (∃ hax : Int → Int, MA h' oo (zrr) (hhi) (htx) (hax) (hro) (st) (ln) (1) (re) (du) (hsh)) ∧ Fr hpp h' oo 6)) := by
  refine CT.of [some (aR oo), some (aI ww), some (aI qq)] (by decide +kernel) rfl (Nat.le_of_ble_eq_true rfl) ?_
  intro p e s m args below meth c C hr hnm
  obtain ⟨g0, g1, g2, g3, g4, g5⟩ := id hM
  refine k_aload_n C dX8_ifPassed_0 rfl ?_
  refine k_iload_n C dX8_ifPassed_1 rfl ?_
  refine k_iconst C dX8_ifPassed_2 ?_
  refine k_sipush C dX8_ifPassed_3 (by decide +kernel) ?_
  refine k_callS C (n := 3) (as := [_, _, _]) (ct_X8_within l D tc base _ _ _ _ hw ⟨by omega, by omega⟩ ⟨by omega, by omega⟩) ml_X8_92 sm_X8_within ini_X8 co_X8_within ⟨by decide, by decide, by decide +kernel⟩ rfl ⟨by decide, by decide⟩ rfl (Nat.le_of_ble_eq_true rfl) ⟨Nat.zero_le _, Nat.zero_le _⟩ dX8_ifPassed_6 ?_
  rintro _ _ (⟨rfl, rfl, hq6⟩ | ⟨rfl, rfl, hq6⟩)
  · skip
    refine k_if_eq (tgt := 26) C dX8_ifPassed_9 (by decide) ⟨by omega, by omega⟩ (fun c9 => ?_) (fun c9 => ?_)
    · try (exfalso; omega)
      all_goals (
        refine k_iconst C dX8_ifPassed_26 ?_
        refine k_put C (k := 5) inX8 tyX8_ok nmX8 (ci := 8) rfl (by decide) fl_X8_25 rfl (Nat.le_of_ble_eq_true rfl) dX8_ifPassed_27 (by repeat (first | exact hs_eq _ _ _ | refine hs_ne (by omega) ?_ | assumption)) ?_
        refine k_aload_n C dX8_ifPassed_30 rfl ?_
        refine k_get C (k := 5) inX8 (ci := 8) rfl (by decide) fl_X8_25 dX8_ifPassed_31 (by repeat (first | exact hs_eq _ _ _ | refine hs_ne (by omega) ?_ | assumption)) rfl ?_
        refine k_if_le (tgt := 41) C dX8_ifPassed_34 (by decide) ⟨by omega, by omega⟩ (fun c34 => ?_) (fun c34 => ?_)
        · try (exfalso; omega)
          all_goals (
            refine k_aload_n C dX8_ifPassed_41 rfl ?_
            refine k_iload_n C dX8_ifPassed_42 rfl ?_
            refine k_iload_n C dX8_ifPassed_43 rfl ?_
            have eww : ww = (ww.toNat : Int) := by omega
            rw [eww]
            refine k_callV C (n := 2) (as := [_, _]) (ct_X8_passed l D tc base oo zrr hhi htx has hro st ln _ re du hsh _ ⟨(by repeat (first | exact hs_eq _ _ _ | refine hs_ne (by omega) ?_ | assumption)), (by repeat (first | exact hs_eq _ _ _ | refine hs_ne (by omega) ?_ | assumption)), (by repeat (first | exact hs_eq _ _ _ | refine hs_ne (by omega) ?_ | assumption)), (by repeat (first | exact hs_eq _ _ _ | refine hs_ne (by omega) ?_ | assumption)), (by repeat (first | exact hs_eq _ _ _ | refine hs_ne (by omega) ?_ | assumption)), (by repeat (first | exact hs_eq _ _ _ | refine hs_ne (by omega) ?_ | assumption))⟩ ww.toNat _ hi ha (by omega) (by omega)) ml_X8_173 im_X8_passed se_X8_passed ini_X8 co_X8_passed ⟨rfl, by decide, by decide, by decide +kernel⟩ rfl (ci := 8) rfl (by repeat (first | exact hs_eq _ _ _ | refine hs_ne (by omega) ?_ | assumption)) ⟨by decide, by decide⟩ rfl (Nat.le_of_ble_eq_true rfl) ⟨Nat.zero_le _, Nat.zero_le _⟩ dX8_ifPassed_44 ?_
            rintro _ _ ⟨rfl, hx3, hF3⟩
            refine k_iret C hr dX8_ifPassed_47 ?_
            first
              | exact Or.inl ⟨by omega, rfl, hx3, Fr.tr (fun aaa haa => by repeat (first | rfl | refine hs_ne (by omega) ?_)) hF3⟩
              | exact Or.inr ⟨by omega, rfl, ⟨has, ⟨(by repeat (first | exact hs_eq _ _ _ | refine hs_ne (by omega) ?_ | assumption)), (by repeat (first | exact hs_eq _ _ _ | refine hs_ne (by omega) ?_ | assumption)), (by repeat (first | exact hs_eq _ _ _ | refine hs_ne (by omega) ?_ | assumption)), (by repeat (first | exact hs_eq _ _ _ | refine hs_ne (by omega) ?_ | assumption)), (by repeat (first | exact hs_eq _ _ _ | refine hs_ne (by omega) ?_ | assumption)), (by repeat (first | exact hs_eq _ _ _ | refine hs_ne (by omega) ?_ | assumption))⟩⟩, fun aaa haa => by repeat (first | rfl | refine hs_ne (by omega) ?_)⟩)
        · try (exfalso; omega)
          all_goals (
            refine k_iconst C dX8_ifPassed_37 ?_
            refine k_goto (tgt := 47) C dX8_ifPassed_38 (by decide) ?_
            refine k_iret C hr dX8_ifPassed_47 ?_
            first
              | exact Or.inl ⟨by omega, rfl, hx3, Fr.tr (fun aaa haa => by repeat (first | rfl | refine hs_ne (by omega) ?_)) hF3⟩
              | exact Or.inr ⟨by omega, rfl, ⟨has, ⟨(by repeat (first | exact hs_eq _ _ _ | refine hs_ne (by omega) ?_ | assumption)), (by repeat (first | exact hs_eq _ _ _ | refine hs_ne (by omega) ?_ | assumption)), (by repeat (first | exact hs_eq _ _ _ | refine hs_ne (by omega) ?_ | assumption)), (by repeat (first | exact hs_eq _ _ _ | refine hs_ne (by omega) ?_ | assumption)), (by repeat (first | exact hs_eq _ _ _ | refine hs_ne (by omega) ?_ | assumption)), (by repeat (first | exact hs_eq _ _ _ | refine hs_ne (by omega) ?_ | assumption))⟩⟩, fun aaa haa => by repeat (first | rfl | refine hs_ne (by omega) ?_)⟩))
    · try (exfalso; omega)
      all_goals (
        refine k_iload_n C dX8_ifPassed_12 rfl ?_
        refine k_iconst C dX8_ifPassed_13 ?_
        refine k_bipush C dX8_ifPassed_14 (by decide +kernel) ?_
        refine k_callS C (n := 3) (as := [_, _, _]) (ct_X8_within l D tc base _ _ _ _ hqq ⟨by omega, by omega⟩ ⟨by omega, by omega⟩) ml_X8_92 sm_X8_within ini_X8 co_X8_within ⟨by decide, by decide, by decide +kernel⟩ rfl ⟨by decide, by decide⟩ rfl (Nat.le_of_ble_eq_true rfl) ⟨Nat.zero_le _, Nat.zero_le _⟩ dX8_ifPassed_16 ?_
        rintro _ _ (⟨rfl, rfl, hq16⟩ | ⟨rfl, rfl, hq16⟩)
        · skip
          refine k_if_eq (tgt := 26) C dX8_ifPassed_19 (by decide) ⟨by omega, by omega⟩ (fun c19 => ?_) (fun c19 => ?_)
          · try (exfalso; omega)
            all_goals (
              refine k_iconst C dX8_ifPassed_26 ?_
              refine k_put C (k := 5) inX8 tyX8_ok nmX8 (ci := 8) rfl (by decide) fl_X8_25 rfl (Nat.le_of_ble_eq_true rfl) dX8_ifPassed_27 (by repeat (first | exact hs_eq _ _ _ | refine hs_ne (by omega) ?_ | assumption)) ?_
              refine k_aload_n C dX8_ifPassed_30 rfl ?_
              refine k_get C (k := 5) inX8 (ci := 8) rfl (by decide) fl_X8_25 dX8_ifPassed_31 (by repeat (first | exact hs_eq _ _ _ | refine hs_ne (by omega) ?_ | assumption)) rfl ?_
              refine k_if_le (tgt := 41) C dX8_ifPassed_34 (by decide) ⟨by omega, by omega⟩ (fun c34 => ?_) (fun c34 => ?_)
              · try (exfalso; omega)
                all_goals (
                  refine k_aload_n C dX8_ifPassed_41 rfl ?_
                  refine k_iload_n C dX8_ifPassed_42 rfl ?_
                  refine k_iload_n C dX8_ifPassed_43 rfl ?_
                  have eww : ww = (ww.toNat : Int) := by omega
                  rw [eww]
                  refine k_callV C (n := 2) (as := [_, _]) (ct_X8_passed l D tc base oo zrr hhi htx has hro st ln _ re du hsh _ ⟨(by repeat (first | exact hs_eq _ _ _ | refine hs_ne (by omega) ?_ | assumption)), (by repeat (first | exact hs_eq _ _ _ | refine hs_ne (by omega) ?_ | assumption)), (by repeat (first | exact hs_eq _ _ _ | refine hs_ne (by omega) ?_ | assumption)), (by repeat (first | exact hs_eq _ _ _ | refine hs_ne (by omega) ?_ | assumption)), (by repeat (first | exact hs_eq _ _ _ | refine hs_ne (by omega) ?_ | assumption)), (by repeat (first | exact hs_eq _ _ _ | refine hs_ne (by omega) ?_ | assumption))⟩ ww.toNat _ hi ha (by omega) (by omega)) ml_X8_173 im_X8_passed se_X8_passed ini_X8 co_X8_passed ⟨rfl, by decide, by decide, by decide +kernel⟩ rfl (ci := 8) rfl (by repeat (first | exact hs_eq _ _ _ | refine hs_ne (by omega) ?_ | assumption)) ⟨by decide, by decide⟩ rfl (Nat.le_of_ble_eq_true rfl) ⟨Nat.zero_le _, Nat.zero_le _⟩ dX8_ifPassed_44 ?_
                  rintro _ _ ⟨rfl, hx3, hF3⟩
                  refine k_iret C hr dX8_ifPassed_47 ?_
                  first
                    | exact Or.inl ⟨by omega, rfl, hx3, Fr.tr (fun aaa haa => by repeat (first | rfl | refine hs_ne (by omega) ?_)) hF3⟩
                    | exact Or.inr ⟨by omega, rfl, ⟨has, ⟨(by repeat (first | exact hs_eq _ _ _ | refine hs_ne (by omega) ?_ | assumption)), (by repeat (first | exact hs_eq _ _ _ | refine hs_ne (by omega) ?_ | assumption)), (by repeat (first | exact hs_eq _ _ _ | refine hs_ne (by omega) ?_ | assumption)), (by repeat (first | exact hs_eq _ _ _ | refine hs_ne (by omega) ?_ | assumption)), (by repeat (first | exact hs_eq _ _ _ | refine hs_ne (by omega) ?_ | assumption)), (by repeat (first | exact hs_eq _ _ _ | refine hs_ne (by omega) ?_ | assumption))⟩⟩, fun aaa haa => by repeat (first | rfl | refine hs_ne (by omega) ?_)⟩)
              · try (exfalso; omega)
                all_goals (
                  refine k_iconst C dX8_ifPassed_37 ?_
                  refine k_goto (tgt := 47) C dX8_ifPassed_38 (by decide) ?_
                  refine k_iret C hr dX8_ifPassed_47 ?_
                  first
                    | exact Or.inl ⟨by omega, rfl, hx3, Fr.tr (fun aaa haa => by repeat (first | rfl | refine hs_ne (by omega) ?_)) hF3⟩
                    | exact Or.inr ⟨by omega, rfl, ⟨has, ⟨(by repeat (first | exact hs_eq _ _ _ | refine hs_ne (by omega) ?_ | assumption)), (by repeat (first | exact hs_eq _ _ _ | refine hs_ne (by omega) ?_ | assumption)), (by repeat (first | exact hs_eq _ _ _ | refine hs_ne (by omega) ?_ | assumption)), (by repeat (first | exact hs_eq _ _ _ | refine hs_ne (by omega) ?_ | assumption)), (by repeat (first | exact hs_eq _ _ _ | refine hs_ne (by omega) ?_ | assumption)), (by repeat (first | exact hs_eq _ _ _ | refine hs_ne (by omega) ?_ | assumption))⟩⟩, fun aaa haa => by repeat (first | rfl | refine hs_ne (by omega) ?_)⟩))
          · try (exfalso; omega)
            all_goals (
              refine k_iconst C dX8_ifPassed_22 ?_
              refine k_goto (tgt := 27) C dX8_ifPassed_23 (by decide) ?_
              refine k_put C (k := 5) inX8 tyX8_ok nmX8 (ci := 8) rfl (by decide) fl_X8_25 rfl (Nat.le_of_ble_eq_true rfl) dX8_ifPassed_27 (by repeat (first | exact hs_eq _ _ _ | refine hs_ne (by omega) ?_ | assumption)) ?_
              refine k_aload_n C dX8_ifPassed_30 rfl ?_
              refine k_get C (k := 5) inX8 (ci := 8) rfl (by decide) fl_X8_25 dX8_ifPassed_31 (by repeat (first | exact hs_eq _ _ _ | refine hs_ne (by omega) ?_ | assumption)) rfl ?_
              refine k_if_le (tgt := 41) C dX8_ifPassed_34 (by decide) ⟨by omega, by omega⟩ (fun c34 => ?_) (fun c34 => ?_)
              · try (exfalso; omega)
                all_goals (
                  refine k_aload_n C dX8_ifPassed_41 rfl ?_
                  refine k_iload_n C dX8_ifPassed_42 rfl ?_
                  refine k_iload_n C dX8_ifPassed_43 rfl ?_
                  have eww : ww = (ww.toNat : Int) := by omega
                  rw [eww]
                  refine k_callV C (n := 2) (as := [_, _]) (ct_X8_passed l D tc base oo zrr hhi htx has hro st ln _ re du hsh _ ⟨(by repeat (first | exact hs_eq _ _ _ | refine hs_ne (by omega) ?_ | assumption)), (by repeat (first | exact hs_eq _ _ _ | refine hs_ne (by omega) ?_ | assumption)), (by repeat (first | exact hs_eq _ _ _ | refine hs_ne (by omega) ?_ | assumption)), (by repeat (first | exact hs_eq _ _ _ | refine hs_ne (by omega) ?_ | assumption)), (by repeat (first | exact hs_eq _ _ _ | refine hs_ne (by omega) ?_ | assumption)), (by repeat (first | exact hs_eq _ _ _ | refine hs_ne (by omega) ?_ | assumption))⟩ ww.toNat _ hi ha (by omega) (by omega)) ml_X8_173 im_X8_passed se_X8_passed ini_X8 co_X8_passed ⟨rfl, by decide, by decide, by decide +kernel⟩ rfl (ci := 8) rfl (by repeat (first | exact hs_eq _ _ _ | refine hs_ne (by omega) ?_ | assumption)) ⟨by decide, by decide⟩ rfl (Nat.le_of_ble_eq_true rfl) ⟨Nat.zero_le _, Nat.zero_le _⟩ dX8_ifPassed_44 ?_
                  rintro _ _ ⟨rfl, hx3, hF3⟩
                  refine k_iret C hr dX8_ifPassed_47 ?_
                  first
                    | exact Or.inl ⟨by omega, rfl, hx3, Fr.tr (fun aaa haa => by repeat (first | rfl | refine hs_ne (by omega) ?_)) hF3⟩
                    | exact Or.inr ⟨by omega, rfl, ⟨has, ⟨(by repeat (first | exact hs_eq _ _ _ | refine hs_ne (by omega) ?_ | assumption)), (by repeat (first | exact hs_eq _ _ _ | refine hs_ne (by omega) ?_ | assumption)), (by repeat (first | exact hs_eq _ _ _ | refine hs_ne (by omega) ?_ | assumption)), (by repeat (first | exact hs_eq _ _ _ | refine hs_ne (by omega) ?_ | assumption)), (by repeat (first | exact hs_eq _ _ _ | refine hs_ne (by omega) ?_ | assumption)), (by repeat (first | exact hs_eq _ _ _ | refine hs_ne (by omega) ?_ | assumption))⟩⟩, fun aaa haa => by repeat (first | rfl | refine hs_ne (by omega) ?_)⟩)
              · try (exfalso; omega)
                all_goals (
                  refine k_iconst C dX8_ifPassed_37 ?_
                  refine k_goto (tgt := 47) C dX8_ifPassed_38 (by decide) ?_
                  refine k_iret C hr dX8_ifPassed_47 ?_
                  first
                    | exact Or.inl ⟨by omega, rfl, hx3, Fr.tr (fun aaa haa => by repeat (first | rfl | refine hs_ne (by omega) ?_)) hF3⟩
                    | exact Or.inr ⟨by omega, rfl, ⟨has, ⟨(by repeat (first | exact hs_eq _ _ _ | refine hs_ne (by omega) ?_ | assumption)), (by repeat (first | exact hs_eq _ _ _ | refine hs_ne (by omega) ?_ | assumption)), (by repeat (first | exact hs_eq _ _ _ | refine hs_ne (by omega) ?_ | assumption)), (by repeat (first | exact hs_eq _ _ _ | refine hs_ne (by omega) ?_ | assumption)), (by repeat (first | exact hs_eq _ _ _ | refine hs_ne (by omega) ?_ | assumption)), (by repeat (first | exact hs_eq _ _ _ | refine hs_ne (by omega) ?_ | assumption))⟩⟩, fun aaa haa => by repeat (first | rfl | refine hs_ne (by omega) ?_)⟩))
        · skip
          refine k_if_eq (tgt := 26) C dX8_ifPassed_19 (by decide) ⟨by omega, by omega⟩ (fun c19 => ?_) (fun c19 => ?_)
          · try (exfalso; omega)
            all_goals (
              refine k_iconst C dX8_ifPassed_26 ?_
              refine k_put C (k := 5) inX8 tyX8_ok nmX8 (ci := 8) rfl (by decide) fl_X8_25 rfl (Nat.le_of_ble_eq_true rfl) dX8_ifPassed_27 (by repeat (first | exact hs_eq _ _ _ | refine hs_ne (by omega) ?_ | assumption)) ?_
              refine k_aload_n C dX8_ifPassed_30 rfl ?_
              refine k_get C (k := 5) inX8 (ci := 8) rfl (by decide) fl_X8_25 dX8_ifPassed_31 (by repeat (first | exact hs_eq _ _ _ | refine hs_ne (by omega) ?_ | assumption)) rfl ?_
              refine k_if_le (tgt := 41) C dX8_ifPassed_34 (by decide) ⟨by omega, by omega⟩ (fun c34 => ?_) (fun c34 => ?_)
              · try (exfalso; omega)
                all_goals (
                  refine k_aload_n C dX8_ifPassed_41 rfl ?_
                  refine k_iload_n C dX8_ifPassed_42 rfl ?_
                  refine k_iload_n C dX8_ifPassed_43 rfl ?_
                  have eww : ww = (ww.toNat : Int) := by omega
                  rw [eww]
                  refine k_callV C (n := 2) (as := [_, _]) (ct_X8_passed l D tc base oo zrr hhi htx has hro st ln _ re du hsh _ ⟨(by repeat (first | exact hs_eq _ _ _ | refine hs_ne (by omega) ?_ | assumption)), (by repeat (first | exact hs_eq _ _ _ | refine hs_ne (by omega) ?_ | assumption)), (by repeat (first | exact hs_eq _ _ _ | refine hs_ne (by omega) ?_ | assumption)), (by repeat (first | exact hs_eq _ _ _ | refine hs_ne (by omega) ?_ | assumption)), (by repeat (first | exact hs_eq _ _ _ | refine hs_ne (by omega) ?_ | assumption)), (by repeat (first | exact hs_eq _ _ _ | refine hs_ne (by omega) ?_ | assumption))⟩ ww.toNat _ hi ha (by omega) (by omega)) ml_X8_173 im_X8_passed se_X8_passed ini_X8 co_X8_passed ⟨rfl, by decide, by decide, by decide +kernel⟩ rfl (ci := 8) rfl (by repeat (first | exact hs_eq _ _ _ | refine hs_ne (by omega) ?_ | assumption)) ⟨by decide, by decide⟩ rfl (Nat.le_of_ble_eq_true rfl) ⟨Nat.zero_le _, Nat.zero_le _⟩ dX8_ifPassed_44 ?_
                  rintro _ _ ⟨rfl, hx3, hF3⟩
                  refine k_iret C hr dX8_ifPassed_47 ?_
                  first
                    | exact Or.inl ⟨by omega, rfl, hx3, Fr.tr (fun aaa haa => by repeat (first | rfl | refine hs_ne (by omega) ?_)) hF3⟩
                    | exact Or.inr ⟨by omega, rfl, ⟨has, ⟨(by repeat (first | exact hs_eq _ _ _ | refine hs_ne (by omega) ?_ | assumption)), (by repeat (first | exact hs_eq _ _ _ | refine hs_ne (by omega) ?_ | assumption)), (by repeat (first | exact hs_eq _ _ _ | refine hs_ne (by omega) ?_ | assumption)), (by repeat (first | exact hs_eq _ _ _ | refine hs_ne (by omega) ?_ | assumption)), (by repeat (first | exact hs_eq _ _ _ | refine hs_ne (by omega) ?_ | assumption)), (by repeat (first | exact hs_eq _ _ _ | refine hs_ne (by omega) ?_ | assumption))⟩⟩, fun aaa haa => by repeat (first | rfl | refine hs_ne (by omega) ?_)⟩)
              · try (exfalso; omega)
                all_goals (
                  refine k_iconst C dX8_ifPassed_37 ?_
                  refine k_goto (tgt := 47) C dX8_ifPassed_38 (by decide) ?_
                  refine k_iret C hr dX8_ifPassed_47 ?_
                  first
                    | exact Or.inl ⟨by omega, rfl, hx3, Fr.tr (fun aaa haa => by repeat (first | rfl | refine hs_ne (by omega) ?_)) hF3⟩
                    | exact Or.inr ⟨by omega, rfl, ⟨has, ⟨(by repeat (first | exact hs_eq _ _ _ | refine hs_ne (by omega) ?_ | assumption)), (by repeat (first | exact hs_eq _ _ _ | refine hs_ne (by omega) ?_ | assumption)), (by repeat (first | exact hs_eq _ _ _ | refine hs_ne (by omega) ?_ | assumption)), (by repeat (first | exact hs_eq _ _ _ | refine hs_ne (by omega) ?_ | assumption)), (by repeat (first | exact hs_eq _ _ _ | refine hs_ne (by omega) ?_ | assumption)), (by repeat (first | exact hs_eq _ _ _ | refine hs_ne (by omega) ?_ | assumption))⟩⟩, fun aaa haa => by repeat (first | rfl | refine hs_ne (by omega) ?_)⟩))
          · try (exfalso; omega)
            all_goals (
              refine k_iconst C dX8_ifPassed_22 ?_
              refine k_goto (tgt := 27) C dX8_ifPassed_23 (by decide) ?_
              refine k_put C (k := 5) inX8 tyX8_ok nmX8 (ci := 8) rfl (by decide) fl_X8_25 rfl (Nat.le_of_ble_eq_true rfl) dX8_ifPassed_27 (by repeat (first | exact hs_eq _ _ _ | refine hs_ne (by omega) ?_ | assumption)) ?_
              refine k_aload_n C dX8_ifPassed_30 rfl ?_
              refine k_get C (k := 5) inX8 (ci := 8) rfl (by decide) fl_X8_25 dX8_ifPassed_31 (by repeat (first | exact hs_eq _ _ _ | refine hs_ne (by omega) ?_ | assumption)) rfl ?_
              refine k_if_le (tgt := 41) C dX8_ifPassed_34 (by decide) ⟨by omega, by omega⟩ (fun c34 => ?_) (fun c34 => ?_)
              · try (exfalso; omega)
                all_goals (
                  refine k_aload_n C dX8_ifPassed_41 rfl ?_
                  refine k_iload_n C dX8_ifPassed_42 rfl ?_
                  refine k_iload_n C dX8_ifPassed_43 rfl ?_
                  have eww : ww = (ww.toNat : Int) := by omega
                  rw [eww]
                  refine k_callV C (n := 2) (as := [_, _]) (ct_X8_passed l D tc base oo zrr hhi htx has hro st ln _ re du hsh _ ⟨(by repeat (first | exact hs_eq _ _ _ | refine hs_ne (by omega) ?_ | assumption)), (by repeat (first | exact hs_eq _ _ _ | refine hs_ne (by omega) ?_ | assumption)), (by repeat (first | exact hs_eq _ _ _ | refine hs_ne (by omega) ?_ | assumption)), (by repeat (first | exact hs_eq _ _ _ | refine hs_ne (by omega) ?_ | assumption)), (by repeat (first | exact hs_eq _ _ _ | refine hs_ne (by omega) ?_ | assumption)), (by repeat (first | exact hs_eq _ _ _ | refine hs_ne (by omega) ?_ | assumption))⟩ ww.toNat _ hi ha (by omega) (by omega)) ml_X8_173 im_X8_passed se_X8_passed ini_X8 co_X8_passed ⟨rfl, by decide, by decide, by decide +kernel⟩ rfl (ci := 8) rfl (by repeat (first | exact hs_eq _ _ _ | refine hs_ne (by omega) ?_ | assumption)) ⟨by decide, by decide⟩ rfl (Nat.le_of_ble_eq_true rfl) ⟨Nat.zero_le _, Nat.zero_le _⟩ dX8_ifPassed_44 ?_
                  rintro _ _ ⟨rfl, hx3, hF3⟩
                  refine k_iret C hr dX8_ifPassed_47 ?_
                  first
                    | exact Or.inl ⟨by omega, rfl, hx3, Fr.tr (fun aaa haa => by repeat (first | rfl | refine hs_ne (by omega) ?_)) hF3⟩
                    | exact Or.inr ⟨by omega, rfl, ⟨has, ⟨(by repeat (first | exact hs_eq _ _ _ | refine hs_ne (by omega) ?_ | assumption)), (by repeat (first | exact hs_eq _ _ _ | refine hs_ne (by omega) ?_ | assumption)), (by repeat (first | exact hs_eq _ _ _ | refine hs_ne (by omega) ?_ | assumption)), (by repeat (first | exact hs_eq _ _ _ | refine hs_ne (by omega) ?_ | assumption)), (by repeat (first | exact hs_eq _ _ _ | refine hs_ne (by omega) ?_ | assumption)), (by repeat (first | exact hs_eq _ _ _ | refine hs_ne (by omega) ?_ | assumption))⟩⟩, fun aaa haa => by repeat (first | rfl | refine hs_ne (by omega) ?_)⟩)
              · try (exfalso; omega)
                all_goals (
                  refine k_iconst C dX8_ifPassed_37 ?_
                  refine k_goto (tgt := 47) C dX8_ifPassed_38 (by decide) ?_
                  refine k_iret C hr dX8_ifPassed_47 ?_
                  first
                    | exact Or.inl ⟨by omega, rfl, hx3, Fr.tr (fun aaa haa => by repeat (first | rfl | refine hs_ne (by omega) ?_)) hF3⟩
                    | exact Or.inr ⟨by omega, rfl, ⟨has, ⟨(by repeat (first | exact hs_eq _ _ _ | refine hs_ne (by omega) ?_ | assumption)), (by repeat (first | exact hs_eq _ _ _ | refine hs_ne (by omega) ?_ | assumption)), (by repeat (first | exact hs_eq _ _ _ | refine hs_ne (by omega) ?_ | assumption)), (by repeat (first | exact hs_eq _ _ _ | refine hs_ne (by omega) ?_ | assumption)), (by repeat (first | exact hs_eq _ _ _ | refine hs_ne (by omega) ?_ | assumption)), (by repeat (first | exact hs_eq _ _ _ | refine hs_ne (by omega) ?_ | assumption))⟩⟩, fun aaa haa => by repeat (first | rfl | refine hs_ne (by omega) ?_)⟩)))
  · skip
    refine k_if_eq (tgt := 26) C dX8_ifPassed_9 (by decide) ⟨by omega, by omega⟩ (fun c9 => ?_) (fun c9 => ?_)
    · try (exfalso; omega)
      all_goals (
        refine k_iconst C dX8_ifPassed_26 ?_
        refine k_put C (k := 5) inX8 tyX8_ok nmX8 (ci := 8) rfl (by decide) fl_X8_25 rfl (Nat.le_of_ble_eq_true rfl) dX8_ifPassed_27 (by repeat (first | exact hs_eq _ _ _ | refine hs_ne (by omega) ?_ | assumption)) ?_
        refine k_aload_n C dX8_ifPassed_30 rfl ?_
        refine k_get C (k := 5) inX8 (ci := 8) rfl (by decide) fl_X8_25 dX8_ifPassed_31 (by repeat (first | exact hs_eq _ _ _ | refine hs_ne (by omega) ?_ | assumption)) rfl ?_
        refine k_if_le (tgt := 41) C dX8_ifPassed_34 (by decide) ⟨by omega, by omega⟩ (fun c34 => ?_) (fun c34 => ?_)
        · try (exfalso; omega)
          all_goals (
            refine k_aload_n C dX8_ifPassed_41 rfl ?_
            refine k_iload_n C dX8_ifPassed_42 rfl ?_
            refine k_iload_n C dX8_ifPassed_43 rfl ?_
            have eww : ww = (ww.toNat : Int) := by omega
            rw [eww]
            refine k_callV C (n := 2) (as := [_, _]) (ct_X8_passed l D tc base oo zrr hhi htx has hro st ln _ re du hsh _ ⟨(by repeat (first | exact hs_eq _ _ _ | refine hs_ne (by omega) ?_ | assumption)), (by repeat (first | exact hs_eq _ _ _ | refine hs_ne (by omega) ?_ | assumption)), (by repeat (first | exact hs_eq _ _ _ | refine hs_ne (by omega) ?_ | assumption)), (by repeat (first | exact hs_eq _ _ _ | refine hs_ne (by omega) ?_ | assumption)), (by repeat (first | exact hs_eq _ _ _ | refine hs_ne (by omega) ?_ | assumption)), (by repeat (first | exact hs_eq _ _ _ | refine hs_ne (by omega) ?_ | assumption))⟩ ww.toNat _ hi ha (by omega) (by omega)) ml_X8_173 im_X8_passed se_X8_passed ini_X8 co_X8_passed ⟨rfl, by decide, by decide, by decide +kernel⟩ rfl (ci := 8) rfl (by repeat (first | exact hs_eq _ _ _ | refine hs_ne (by omega) ?_ | assumption)) ⟨by decide, by decide⟩ rfl (Nat.le_of_ble_eq_true rfl) ⟨Nat.zero_le _, Nat.zero_le _⟩ dX8_ifPassed_44 ?_
            rintro _ _ ⟨rfl, hx3, hF3⟩
            refine k_iret C hr dX8_ifPassed_47 ?_
            first
              | exact Or.inl ⟨by omega, rfl, hx3, Fr.tr (fun aaa haa => by repeat (first | rfl | refine hs_ne (by omega) ?_)) hF3⟩
              | exact Or.inr ⟨by omega, rfl, ⟨has, ⟨(by repeat (first | exact hs_eq _ _ _ | refine hs_ne (by omega) ?_ | assumption)), (by repeat (first | exact hs_eq _ _ _ | refine hs_ne (by omega) ?_ | assumption)), (by repeat (first | exact hs_eq _ _ _ | refine hs_ne (by omega) ?_ | assumption)), (by repeat (first | exact hs_eq _ _ _ | refine hs_ne (by omega) ?_ | assumption)), (by repeat (first | exact hs_eq _ _ _ | refine hs_ne (by omega) ?_ | assumption)), (by repeat (first | exact hs_eq _ _ _ | refine hs_ne (by omega) ?_ | assumption))⟩⟩, fun aaa haa => by repeat (first | rfl | refine hs_ne (by omega) ?_)⟩)
        · try (exfalso; omega)
          all_goals (
            refine k_iconst C dX8_ifPassed_37 ?_
            refine k_goto (tgt := 47) C dX8_ifPassed_38 (by decide) ?_
            refine k_iret C hr dX8_ifPassed_47 ?_
            first
              | exact Or.inl ⟨by omega, rfl, hx3, Fr.tr (fun aaa haa => by repeat (first | rfl | refine hs_ne (by omega) ?_)) hF3⟩
              | exact Or.inr ⟨by omega, rfl, ⟨has, ⟨(by repeat (first | exact hs_eq _ _ _ | refine hs_ne (by omega) ?_ | assumption)), (by repeat (first | exact hs_eq _ _ _ | refine hs_ne (by omega) ?_ | assumption)), (by repeat (first | exact hs_eq _ _ _ | refine hs_ne (by omega) ?_ | assumption)), (by repeat (first | exact hs_eq _ _ _ | refine hs_ne (by omega) ?_ | assumption)), (by repeat (first | exact hs_eq _ _ _ | refine hs_ne (by omega) ?_ | assumption)), (by repeat (first | exact hs_eq _ _ _ | refine hs_ne (by omega) ?_ | assumption))⟩⟩, fun aaa haa => by repeat (first | rfl | refine hs_ne (by omega) ?_)⟩))
    · try (exfalso; omega)
      all_goals (
        refine k_iload_n C dX8_ifPassed_12 rfl ?_
        refine k_iconst C dX8_ifPassed_13 ?_
        refine k_bipush C dX8_ifPassed_14 (by decide +kernel) ?_
        refine k_callS C (n := 3) (as := [_, _, _]) (ct_X8_within l D tc base _ _ _ _ hqq ⟨by omega, by omega⟩ ⟨by omega, by omega⟩) ml_X8_92 sm_X8_within ini_X8 co_X8_within ⟨by decide, by decide, by decide +kernel⟩ rfl ⟨by decide, by decide⟩ rfl (Nat.le_of_ble_eq_true rfl) ⟨Nat.zero_le _, Nat.zero_le _⟩ dX8_ifPassed_16 ?_
        rintro _ _ (⟨rfl, rfl, hq16⟩ | ⟨rfl, rfl, hq16⟩)
        · skip
          refine k_if_eq (tgt := 26) C dX8_ifPassed_19 (by decide) ⟨by omega, by omega⟩ (fun c19 => ?_) (fun c19 => ?_)
          · try (exfalso; omega)
            all_goals (
              refine k_iconst C dX8_ifPassed_26 ?_
              refine k_put C (k := 5) inX8 tyX8_ok nmX8 (ci := 8) rfl (by decide) fl_X8_25 rfl (Nat.le_of_ble_eq_true rfl) dX8_ifPassed_27 (by repeat (first | exact hs_eq _ _ _ | refine hs_ne (by omega) ?_ | assumption)) ?_
              refine k_aload_n C dX8_ifPassed_30 rfl ?_
              refine k_get C (k := 5) inX8 (ci := 8) rfl (by decide) fl_X8_25 dX8_ifPassed_31 (by repeat (first | exact hs_eq _ _ _ | refine hs_ne (by omega) ?_ | assumption)) rfl ?_
              refine k_if_le (tgt := 41) C dX8_ifPassed_34 (by decide) ⟨by omega, by omega⟩ (fun c34 => ?_) (fun c34 => ?_)
              · try (exfalso; omega)
                all_goals (
                  refine k_aload_n C dX8_ifPassed_41 rfl ?_
                  refine k_iload_n C dX8_ifPassed_42 rfl ?_
                  refine k_iload_n C dX8_ifPassed_43 rfl ?_
                  have eww : ww = (ww.toNat : Int) := by omega
                  rw [eww]
                  refine k_callV C (n := 2) (as := [_, _]) (ct_X8_passed l D tc base oo zrr hhi htx has hro st ln _ re du hsh _ ⟨(by repeat (first | exact hs_eq _ _ _ | refine hs_ne (by omega) ?_ | assumption)), (by repeat (first | exact hs_eq _ _ _ | refine hs_ne (by omega) ?_ | assumption)), (by repeat (first | exact hs_eq _ _ _ | refine hs_ne (by omega) ?_ | assumption)), (by repeat (first | exact hs_eq _ _ _ | refine hs_ne (by omega) ?_ | assumption)), (by repeat (first | exact hs_eq _ _ _ | refine hs_ne (by omega) ?_ | assumption)), (by repeat (first | exact hs_eq _ _ _ | refine hs_ne (by omega) ?_ | assumption))⟩ ww.toNat _ hi ha (by omega) (by omega)) ml_X8_173 im_X8_passed se_X8_passed ini_X8 co_X8_passed ⟨rfl, by decide, by decide, by decide +kernel⟩ rfl (ci := 8) rfl (by repeat (first | exact hs_eq _ _ _ | refine hs_ne (by omega) ?_ | assumption)) ⟨by decide, by decide⟩ rfl (Nat.le_of_ble_eq_true rfl) ⟨Nat.zero_le _, Nat.zero_le _⟩ dX8_ifPassed_44 ?_
                  rintro _ _ ⟨rfl, hx3, hF3⟩
                  refine k_iret C hr dX8_ifPassed_47 ?_
                  first
                    | exact Or.inl ⟨by omega, rfl, hx3, Fr.tr (fun aaa haa => by repeat (first | rfl | refine hs_ne (by omega) ?_)) hF3⟩
                    | exact Or.inr ⟨by omega, rfl, ⟨has, ⟨(by repeat (first | exact hs_eq _ _ _ | refine hs_ne (by omega) ?_ | assumption)), (by repeat (first | exact hs_eq _ _ _ | refine hs_ne (by omega) ?_ | assumption)), (by repeat (first | exact hs_eq _ _ _ | refine hs_ne (by omega) ?_ | assumption)), (by repeat (first | exact hs_eq _ _ _ | refine hs_ne (by omega) ?_ | assumption)), (by repeat (first | exact hs_eq _ _ _ | refine hs_ne (by omega) ?_ | assumption)), (by repeat (first | exact hs_eq _ _ _ | refine hs_ne (by omega) ?_ | assumption))⟩⟩, fun aaa haa => by repeat (first | rfl | refine hs_ne (by omega) ?_)⟩)
              · try (exfalso; omega)
                all_goals (
                  refine k_iconst C dX8_ifPassed_37 ?_
                  refine k_goto (tgt := 47) C dX8_ifPassed_38 (by decide) ?_
                  refine k_iret C hr dX8_ifPassed_47 ?_
                  first
                    | exact Or.inl ⟨by omega, rfl, hx3, Fr.tr (fun aaa haa => by repeat (first | rfl | refine hs_ne (by omega) ?_)) hF3⟩
                    | exact Or.inr ⟨by omega, rfl, ⟨has, ⟨(by repeat (first | exact hs_eq _ _ _ | refine hs_ne (by omega) ?_ | assumption)), (by repeat (first | exact hs_eq _ _ _ | refine hs_ne (by omega) ?_ | assumption)), (by repeat (first | exact hs_eq _ _ _ | refine hs_ne (by omega) ?_ | assumption)), (by repeat (first | exact hs_eq _ _ _ | refine hs_ne (by omega) ?_ | assumption)), (by repeat (first | exact hs_eq _ _ _ | refine hs_ne (by omega) ?_ | assumption)), (by repeat (first | exact hs_eq _ _ _ | refine hs_ne (by omega) ?_ | assumption))⟩⟩, fun aaa haa => by repeat (first | rfl | refine hs_ne (by omega) ?_)⟩))
          · try (exfalso; omega)
            all_goals (
              refine k_iconst C dX8_ifPassed_22 ?_
              refine k_goto (tgt := 27) C dX8_ifPassed_23 (by decide) ?_
              refine k_put C (k := 5) inX8 tyX8_ok nmX8 (ci := 8) rfl (by decide) fl_X8_25 rfl (Nat.le_of_ble_eq_true rfl) dX8_ifPassed_27 (by repeat (first | exact hs_eq _ _ _ | refine hs_ne (by omega) ?_ | assumption)) ?_
              refine k_aload_n C dX8_ifPassed_30 rfl ?_
              refine k_get C (k := 5) inX8 (ci := 8) rfl (by decide) fl_X8_25 dX8_ifPassed_31 (by repeat (first | exact hs_eq _ _ _ | refine hs_ne (by omega) ?_ | assumption)) rfl ?_
              refine k_if_le (tgt := 41) C dX8_ifPassed_34 (by decide) ⟨by omega, by omega⟩ (fun c34 => ?_) (fun c34 => ?_)
              · try (exfalso; omega)
                all_goals (
                  refine k_aload_n C dX8_ifPassed_41 rfl ?_
                  refine k_iload_n C dX8_ifPassed_42 rfl ?_
                  refine k_iload_n C dX8_ifPassed_43 rfl ?_
                  have eww : ww = (ww.toNat : Int) := by omega
                  rw [eww]
                  refine k_callV C (n := 2) (as := [_, _]) (ct_X8_passed l D tc base oo zrr hhi htx has hro st ln _ re du hsh _ ⟨(by repeat (first | exact hs_eq _ _ _ | refine hs_ne (by omega) ?_ | assumption)), (by repeat (first | exact hs_eq _ _ _ | refine hs_ne (by omega) ?_ | assumption)), (by repeat (first | exact hs_eq _ _ _ | refine hs_ne (by omega) ?_ | assumption)), (by repeat (first | exact hs_eq _ _ _ | refine hs_ne (by omega) ?_ | assumption)), (by repeat (first | exact hs_eq _ _ _ | refine hs_ne (by omega) ?_ | assumption)), (by repeat (first | exact hs_eq _ _ _ | refine hs_ne (by omega) ?_ | assumption))⟩ ww.toNat _ hi ha (by omega) (by omega)) ml_X8_173 im_X8_passed se_X8_passed ini_X8 co_X8_passed ⟨rfl, by decide, by decide, by decide +kernel⟩ rfl (ci := 8) rfl (by repeat (first | exact hs_eq _ _ _ | refine hs_ne (by omega) ?_ | assumption)) ⟨by decide, by decide⟩ rfl (Nat.le_of_ble_eq_true rfl) ⟨Nat.zero_le _, Nat.zero_le _⟩ dX8_ifPassed_44 ?_
                  rintro _ _ ⟨rfl, hx3, hF3⟩
                  refine k_iret C hr dX8_ifPassed_47 ?_
                  first
                    | exact Or.inl ⟨by omega, rfl, hx3, Fr.tr (fun aaa haa => by repeat (first | rfl | refine hs_ne (by omega) ?_)) hF3⟩
                    | exact Or.inr ⟨by omega, rfl, ⟨has, ⟨(by repeat (first | exact hs_eq _ _ _ | refine hs_ne (by omega) ?_ | assumption)), (by repeat (first | exact hs_eq _ _ _ | refine hs_ne (by omega) ?_ | assumption)), (by repeat (first | exact hs_eq _ _ _ | refine hs_ne (by omega) ?_ | assumption)), (by repeat (first | exact hs_eq _ _ _ | refine hs_ne (by omega) ?_ | assumption)), (by repeat (first | exact hs_eq _ _ _ | refine hs_ne (by omega) ?_ | assumption)), (by repeat (first | exact hs_eq _ _ _ | refine hs_ne (by omega) ?_ | assumption))⟩⟩, fun aaa haa => by repeat (first | rfl | refine hs_ne (by omega) ?_)⟩)
              · try (exfalso; omega)
                all_goals (
                  refine k_iconst C dX8_ifPassed_37 ?_
                  refine k_goto (tgt := 47) C dX8_ifPassed_38 (by decide) ?_
                  refine k_iret C hr dX8_ifPassed_47 ?_
                  first
                    | exact Or.inl ⟨by omega, rfl, hx3, Fr.tr (fun aaa haa => by repeat (first | rfl | refine hs_ne (by omega) ?_)) hF3⟩
                    | exact Or.inr ⟨by omega, rfl, ⟨has, ⟨(by repeat (first | exact hs_eq _ _ _ | refine hs_ne (by omega) ?_ | assumption)), (by repeat (first | exact hs_eq _ _ _ | refine hs_ne (by omega) ?_ | assumption)), (by repeat (first | exact hs_eq _ _ _ | refine hs_ne (by omega) ?_ | assumption)), (by repeat (first | exact hs_eq _ _ _ | refine hs_ne (by omega) ?_ | assumption)), (by repeat (first | exact hs_eq _ _ _ | refine hs_ne (by omega) ?_ | assumption)), (by repeat (first | exact hs_eq _ _ _ | refine hs_ne (by omega) ?_ | assumption))⟩⟩, fun aaa haa => by repeat (first | rfl | refine hs_ne (by omega) ?_)⟩))
        · skip
          refine k_if_eq (tgt := 26) C dX8_ifPassed_19 (by decide) ⟨by omega, by omega⟩ (fun c19 => ?_) (fun c19 => ?_)
          · try (exfalso; omega)
            all_goals (
              refine k_iconst C dX8_ifPassed_26 ?_
              refine k_put C (k := 5) inX8 tyX8_ok nmX8 (ci := 8) rfl (by decide) fl_X8_25 rfl (Nat.le_of_ble_eq_true rfl) dX8_ifPassed_27 (by repeat (first | exact hs_eq _ _ _ | refine hs_ne (by omega) ?_ | assumption)) ?_
              refine k_aload_n C dX8_ifPassed_30 rfl ?_
              refine k_get C (k := 5) inX8 (ci := 8) rfl (by decide) fl_X8_25 dX8_ifPassed_31 (by repeat (first | exact hs_eq _ _ _ | refine hs_ne (by omega) ?_ | assumption)) rfl ?_
              refine k_if_le (tgt := 41) C dX8_ifPassed_34 (by decide) ⟨by omega, by omega⟩ (fun c34 => ?_) (fun c34 => ?_)
              · try (exfalso; omega)
                all_goals (
                  refine k_aload_n C dX8_ifPassed_41 rfl ?_
                  refine k_iload_n C dX8_ifPassed_42 rfl ?_
                  refine k_iload_n C dX8_ifPassed_43 rfl ?_
                  have eww : ww = (ww.toNat : Int) := by omega
                  rw [eww]
                  refine k_callV C (n := 2) (as := [_, _]) (ct_X8_passed l D tc base oo zrr hhi htx has hro st ln _ re du hsh _ ⟨(by repeat (first | exact hs_eq _ _ _ | refine hs_ne (by omega) ?_ | assumption)), (by repeat (first | exact hs_eq _ _ _ | refine hs_ne (by omega) ?_ | assumption)), (by repeat (first | exact hs_eq _ _ _ | refine hs_ne (by omega) ?_ | assumption)), (by repeat (first | exact hs_eq _ _ _ | refine hs_ne (by omega) ?_ | assumption)), (by repeat (first | exact hs_eq _ _ _ | refine hs_ne (by omega) ?_ | assumption)), (by repeat (first | exact hs_eq _ _ _ | refine hs_ne (by omega) ?_ | assumption))⟩ ww.toNat _ hi ha (by omega) (by omega)) ml_X8_173 im_X8_passed se_X8_passed ini_X8 co_X8_passed ⟨rfl, by decide, by decide, by decide +kernel⟩ rfl (ci := 8) rfl (by repeat (first | exact hs_eq _ _ _ | refine hs_ne (by omega) ?_ | assumption)) ⟨by decide, by decide⟩ rfl (Nat.le_of_ble_eq_true rfl) ⟨Nat.zero_le _, Nat.zero_le _⟩ dX8_ifPassed_44 ?_
                  rintro _ _ ⟨rfl, hx3, hF3⟩
                  refine k_iret C hr dX8_ifPassed_47 ?_
                  first
                    | exact Or.inl ⟨by omega, rfl, hx3, Fr.tr (fun aaa haa => by repeat (first | rfl | refine hs_ne (by omega) ?_)) hF3⟩
                    | exact Or.inr ⟨by omega, rfl, ⟨has, ⟨(by repeat (first | exact hs_eq _ _ _ | refine hs_ne (by omega) ?_ | assumption)), (by repeat (first | exact hs_eq _ _ _ | refine hs_ne (by omega) ?_ | assumption)), (by repeat (first | exact hs_eq _ _ _ | refine hs_ne (by omega) ?_ | assumption)), (by repeat (first | exact hs_eq _ _ _ | refine hs_ne (by omega) ?_ | assumption)), (by repeat (first | exact hs_eq _ _ _ | refine hs_ne (by omega) ?_ | assumption)), (by repeat (first | exact hs_eq _ _ _ | refine hs_ne (by omega) ?_ | assumption))⟩⟩, fun aaa haa => by repeat (first | rfl | refine hs_ne (by omega) ?_)⟩)
              · try (exfalso; omega)
                all_goals (
                  refine k_iconst C dX8_ifPassed_37 ?_
                  refine k_goto (tgt := 47) C dX8_ifPassed_38 (by decide) ?_
                  refine k_iret C hr dX8_ifPassed_47 ?_
                  first
                    | exact Or.inl ⟨by omega, rfl, hx3, Fr.tr (fun aaa haa => by repeat (first | rfl | refine hs_ne (by omega) ?_)) hF3⟩
                    | exact Or.inr ⟨by omega, rfl, ⟨has, ⟨(by repeat (first | exact hs_eq _ _ _ | refine hs_ne (by omega) ?_ | assumption)), (by repeat (first | exact hs_eq _ _ _ | refine hs_ne (by omega) ?_ | assumption)), (by repeat (first | exact hs_eq _ _ _ | refine hs_ne (by omega) ?_ | assumption)), (by repeat (first | exact hs_eq _ _ _ | refine hs_ne (by omega) ?_ | assumption)), (by repeat (first | exact hs_eq _ _ _ | refine hs_ne (by omega) ?_ | assumption)), (by repeat (first | exact hs_eq _ _ _ | refine hs_ne (by omega) ?_ | assumption))⟩⟩, fun aaa haa => by repeat (first | rfl | refine hs_ne (by omega) ?_)⟩))
          · try (exfalso; omega)
            all_goals (
              refine k_iconst C dX8_ifPassed_22 ?_
              refine k_goto (tgt := 27) C dX8_ifPassed_23 (by decide) ?_
              refine k_put C (k := 5) inX8 tyX8_ok nmX8 (ci := 8) rfl (by decide) fl_X8_25 rfl (Nat.le_of_ble_eq_true rfl) dX8_ifPassed_27 (by repeat (first | exact hs_eq _ _ _ | refine hs_ne (by omega) ?_ | assumption)) ?_
              refine k_aload_n C dX8_ifPassed_30 rfl ?_
              refine k_get C (k := 5) inX8 (ci := 8) rfl (by decide) fl_X8_25 dX8_ifPassed_31 (by repeat (first | exact hs_eq _ _ _ | refine hs_ne (by omega) ?_ | assumption)) rfl ?_
              refine k_if_le (tgt := 41) C dX8_ifPassed_34 (by decide) ⟨by omega, by omega⟩ (fun c34 => ?_) (fun c34 => ?_)
              · try (exfalso; omega)
                all_goals (
                  refine k_aload_n C dX8_ifPassed_41 rfl ?_
                  refine k_iload_n C dX8_ifPassed_42 rfl ?_
                  refine k_iload_n C dX8_ifPassed_43 rfl ?_
                  have eww : ww = (ww.toNat : Int) := by omega
                  rw [eww]
                  refine k_callV C (n := 2) (as := [_, _]) (ct_X8_passed l D tc base oo zrr hhi htx has hro st ln _ re du hsh _ ⟨(by repeat (first | exact hs_eq _ _ _ | refine hs_ne (by omega) ?_ | assumption)), (by repeat (first | exact hs_eq _ _ _ | refine hs_ne (by omega) ?_ | assumption)), (by repeat (first | exact hs_eq _ _ _ | refine hs_ne (by omega) ?_ | assumption)), (by repeat (first | exact hs_eq _ _ _ | refine hs_ne (by omega) ?_ | assumption)), (by repeat (first | exact hs_eq _ _ _ | refine hs_ne (by omega) ?_ | assumption)), (by repeat (first | exact hs_eq _ _ _ | refine hs_ne (by omega) ?_ | assumption))⟩ ww.toNat _ hi ha (by omega) (by omega)) ml_X8_173 im_X8_passed se_X8_passed ini_X8 co_X8_passed ⟨rfl, by decide, by decide, by decide +kernel⟩ rfl (ci := 8) rfl (by repeat (first | exact hs_eq _ _ _ | refine hs_ne (by omega) ?_ | assumption)) ⟨by decide, by decide⟩ rfl (Nat.le_of_ble_eq_true rfl) ⟨Nat.zero_le _, Nat.zero_le _⟩ dX8_ifPassed_44 ?_
                  rintro _ _ ⟨rfl, hx3, hF3⟩
                  refine k_iret C hr dX8_ifPassed_47 ?_
                  first
                    | exact Or.inl ⟨by omega, rfl, hx3, Fr.tr (fun aaa haa => by repeat (first | rfl | refine hs_ne (by omega) ?_)) hF3⟩
                    | exact Or.inr ⟨by omega, rfl, ⟨has, ⟨(by repeat (first | exact hs_eq _ _ _ | refine hs_ne (by omega) ?_ | assumption)), (by repeat (first | exact hs_eq _ _ _ | refine hs_ne (by omega) ?_ | assumption)), (by repeat (first | exact hs_eq _ _ _ | refine hs_ne (by omega) ?_ | assumption)), (by repeat (first | exact hs_eq _ _ _ | refine hs_ne (by omega) ?_ | assumption)), (by repeat (first | exact hs_eq _ _ _ | refine hs_ne (by omega) ?_ | assumption)), (by repeat (first | exact hs_eq _ _ _ | refine hs_ne (by omega) ?_ | assumption))⟩⟩, fun aaa haa => by repeat (first | rfl | refine hs_ne (by omega) ?_)⟩)
              · try (exfalso; omega)
                all_goals (
                  refine k_iconst C dX8_ifPassed_37 ?_
                  refine k_goto (tgt := 47) C dX8_ifPassed_38 (by decide) ?_
                  refine k_iret C hr dX8_ifPassed_47 ?_
                  first
                    | exact Or.inl ⟨by omega, rfl, hx3, Fr.tr (fun aaa haa => by repeat (first | rfl | refine hs_ne (by omega) ?_)) hF3⟩
                    | exact Or.inr ⟨by omega, rfl, ⟨has, ⟨(by repeat (first | exact hs_eq _ _ _ | refine hs_ne (by omega) ?_ | assumption)), (by repeat (first | exact hs_eq _ _ _ | refine hs_ne (by omega) ?_ | assumption)), (by repeat (first | exact hs_eq _ _ _ | refine hs_ne (by omega) ?_ | assumption)), (by repeat (first | exact hs_eq _ _ _ | refine hs_ne (by omega) ?_ | assumption)), (by repeat (first | exact hs_eq _ _ _ | refine hs_ne (by omega) ?_ | assumption)), (by repeat (first | exact hs_eq _ _ _ | refine hs_ne (by omega) ?_ | assumption))⟩⟩, fun aaa haa => by repeat (first | rfl | refine hs_ne (by omega) ?_)⟩)))
