set_option maxRecDepth 20000 in
set_option maxHeartbeats 1000000 in
theorem ct_X8_wind (l : Launch) (D : va_G) (tc : Nat → ClassId) (base : Nat) (oo : Nat) (zrr hhi htx has hro : Int → Int) (st ln th re du hsh : Int) (hpp : AH) (hM : MA hpp oo zrr hhi htx has hro st ln th re du hsh) (ww tt : Int) (hw : r32 ww) (ht : r32 tt) (hi : zInv zrr) (hst : 0 ≤ st ∧ st ≤ 6) : CT l D tc base yX8_wind cX8_wind 3 (some .int) 2 [aR oo, aI ww, aI tt] hpp (fun r h' => ((0 ≤ ww ∧ ww ≤ 2 ∧ 1 ≤ tt ∧ tt ≤ 200) ∧ r = some (aI (zMore zrr ww tt)) ∧ MA h' oo (zWind zrr ww tt) (sHi zrr hhi st) (htx) (has) (hro) (sSt st) (ln) (0) (re) (du) (hsh) ∧ Fr hpp h' oo 6) ∨ (¬ (0 ≤ ww ∧ ww ≤ 2) ∧ r = some (aI (0)) ∧ MA h' oo (zrr) (hhi) (htx) (has) (hro) (st) (ln) (1) (re) (du) (hsh) ∧ Fr hpp h' oo 6) ∨ (((0 ≤ ww ∧ ww ≤ 2) ∧ ¬ (1 ≤ tt ∧ tt ≤ 200)) ∧ r = some (aI (0)) ∧ MA h' oo (zrr) (hhi) (htx) (has) (hro) (st) (ln) (2) (re) (du) (hsh) ∧ Fr hpp h' oo 6)) := by
  refine CT.of [some (aR oo), some (aI ww), some (aI tt)] (by decide +kernel) rfl (Nat.le_of_ble_eq_true rfl) ?_
  intro p e s m args below meth c C hr hnm
  obtain ⟨g0, g1, g2, g3, g4, g5⟩ := id hM
  refine k_aload_n C dX8_wind_0 rfl ?_
  refine k_iload_n C dX8_wind_1 rfl ?_
  refine k_callS C (n := 1) (as := [_]) (ct_X8_isWeight l D tc base _ _ hw) ml_X8_96 sm_X8_isWeight ini_X8 co_X8_isWeight ⟨by decide, by decide, by decide +kernel⟩ rfl ⟨by decide, by decide⟩ rfl (Nat.le_of_ble_eq_true rfl) ⟨Nat.zero_le _, Nat.zero_le _⟩ dX8_wind_2 ?_
  rintro _ _ (⟨rfl, rfl, hq2⟩ | ⟨rfl, rfl, hq2⟩)
  · skip
    refine k_if_ne (tgt := 12) C dX8_wind_5 (by decide) ⟨by omega, by omega⟩ (fun c5 => ?_) (fun c5 => ?_)
    · try (exfalso; omega)
      all_goals (
        refine k_iload_n C dX8_wind_12 rfl ?_
        refine k_callS C (n := 1) (as := [_]) (ct_X8_areTurns l D tc base _ _ ht) ml_X8_99 sm_X8_areTurns ini_X8 co_X8_areTurns ⟨by decide, by decide, by decide +kernel⟩ rfl ⟨by decide, by decide⟩ rfl (Nat.le_of_ble_eq_true rfl) ⟨Nat.zero_le _, Nat.zero_le _⟩ dX8_wind_13 ?_
        rintro _ _ (⟨rfl, rfl, hq13⟩ | ⟨rfl, rfl, hq13⟩)
        · skip
          refine k_if_eq (tgt := 23) C dX8_wind_16 (by decide) ⟨by omega, by omega⟩ (fun c16 => ?_) (fun c16 => ?_)
          · try (exfalso; omega)
            all_goals (
              refine k_iconst C dX8_wind_23 ?_
              refine k_put C (k := 5) inX8 tyX8_ok nmX8 (ci := 8) rfl (by decide) fl_X8_25 rfl (Nat.le_of_ble_eq_true rfl) dX8_wind_24 (by repeat (first | exact hs_eq _ _ _ | refine hs_ne (by omega) ?_ | assumption)) ?_
              refine k_aload_n C dX8_wind_27 rfl ?_
              refine k_get C (k := 5) inX8 (ci := 8) rfl (by decide) fl_X8_25 dX8_wind_28 (by repeat (first | exact hs_eq _ _ _ | refine hs_ne (by omega) ?_ | assumption)) rfl ?_
              refine k_if_le (tgt := 36) C dX8_wind_31 (by decide) ⟨by omega, by omega⟩ (fun c31 => ?_) (fun c31 => ?_)
              · try (exfalso; omega)
                all_goals (
                  refine k_aload_n C dX8_wind_36 rfl ?_
                  refine k_callV C (n := 0) (as := []) (ct_X8_save l D tc base oo zrr hhi htx has hro st ln (0) re du hsh _ ⟨(by repeat (first | exact hs_eq _ _ _ | refine hs_ne (by omega) ?_ | assumption)), (by repeat (first | exact hs_eq _ _ _ | refine hs_ne (by omega) ?_ | assumption)), (by repeat (first | exact hs_eq _ _ _ | refine hs_ne (by omega) ?_ | assumption)), (by repeat (first | exact hs_eq _ _ _ | refine hs_ne (by omega) ?_ | assumption)), (by repeat (first | exact hs_eq _ _ _ | refine hs_ne (by omega) ?_ | assumption)), (by repeat (first | exact hs_eq _ _ _ | refine hs_ne (by omega) ?_ | assumption))⟩ hst) ml_X8_102 im_X8_save se_X8_save ini_X8 co_X8_save ⟨rfl, by decide, by decide, by decide +kernel⟩ rfl (ci := 8) rfl (by repeat (first | exact hs_eq _ _ _ | refine hs_ne (by omega) ?_ | assumption)) ⟨by decide, by decide⟩ rfl (Nat.le_of_ble_eq_true rfl) ⟨Nat.zero_le _, Nat.zero_le _⟩ dX8_wind_37 ?_
                  rintro _ _ ⟨rfl, hM1, hF1⟩
                  obtain ⟨k0, k1, k2, k3, k4, k5⟩ := id hM1
                  refine k_aload_n C dX8_wind_40 rfl ?_
                  refine k_iload_n C dX8_wind_41 rfl ?_
                  refine k_iload_n C dX8_wind_42 rfl ?_
                  refine k_callV C (n := 2) (as := [_, _]) (ct_X8_winds l D tc base oo (oo + 1) _ _ _ (by repeat (first | exact hs_eq _ _ _ | refine hs_ne (by omega) ?_ | assumption)) (by repeat (first | exact hs_eq _ _ _ | refine hs_ne (by omega) ?_ | assumption)) (by omega) _ _ (by omega) (by omega) hi (by omega) (by omega)) ml_X8_54 im_X8_winds se_X8_winds ini_X8 co_X8_winds ⟨rfl, by decide, by decide, by decide +kernel⟩ rfl (ci := 8) rfl (by repeat (first | exact hs_eq _ _ _ | refine hs_ne (by omega) ?_ | assumption)) ⟨by decide, by decide⟩ rfl (Nat.le_of_ble_eq_true rfl) ⟨Nat.zero_le _, Nat.zero_le _⟩ dX8_wind_43 ?_
                  rintro _ _ ⟨rfl, rfl⟩
                  refine k_iret C hr dX8_wind_46 ?_
                  first
                    | exact Or.inl ⟨by omega, rfl, ⟨(by repeat (first | exact hs_eq _ _ _ | refine hs_ne (by omega) ?_ | assumption)), (by repeat (first | exact hs_eq _ _ _ | refine hs_ne (by omega) ?_ | assumption)), (by repeat (first | exact hs_eq _ _ _ | refine hs_ne (by omega) ?_ | assumption)), (by repeat (first | exact hs_eq _ _ _ | refine hs_ne (by omega) ?_ | assumption)), (by repeat (first | exact hs_eq _ _ _ | refine hs_ne (by omega) ?_ | assumption)), (by repeat (first | exact hs_eq _ _ _ | refine hs_ne (by omega) ?_ | assumption))⟩, Fr.tr (Fr.tr (fun aaa haa => by repeat (first | rfl | refine hs_ne (by omega) ?_)) hF1) (fun aaa haa => by repeat (first | rfl | refine hs_ne (by omega) ?_))⟩
                    | exact Or.inr (Or.inl ⟨by omega, rfl, ⟨(by repeat (first | exact hs_eq _ _ _ | refine hs_ne (by omega) ?_ | assumption)), (by repeat (first | exact hs_eq _ _ _ | refine hs_ne (by omega) ?_ | assumption)), (by repeat (first | exact hs_eq _ _ _ | refine hs_ne (by omega) ?_ | assumption)), (by repeat (first | exact hs_eq _ _ _ | refine hs_ne (by omega) ?_ | assumption)), (by repeat (first | exact hs_eq _ _ _ | refine hs_ne (by omega) ?_ | assumption)), (by repeat (first | exact hs_eq _ _ _ | refine hs_ne (by omega) ?_ | assumption))⟩, fun aaa haa => by repeat (first | rfl | refine hs_ne (by omega) ?_)⟩)
                    | exact Or.inr (Or.inr (⟨by omega, rfl, ⟨(by repeat (first | exact hs_eq _ _ _ | refine hs_ne (by omega) ?_ | assumption)), (by repeat (first | exact hs_eq _ _ _ | refine hs_ne (by omega) ?_ | assumption)), (by repeat (first | exact hs_eq _ _ _ | refine hs_ne (by omega) ?_ | assumption)), (by repeat (first | exact hs_eq _ _ _ | refine hs_ne (by omega) ?_ | assumption)), (by repeat (first | exact hs_eq _ _ _ | refine hs_ne (by omega) ?_ | assumption)), (by repeat (first | exact hs_eq _ _ _ | refine hs_ne (by omega) ?_ | assumption))⟩, fun aaa haa => by repeat (first | rfl | refine hs_ne (by omega) ?_)⟩)))
              · try (exfalso; omega)
                all_goals (
                  refine k_iconst C dX8_wind_34 ?_
                  refine k_iret C hr dX8_wind_35 ?_
                  first
                    | exact Or.inl ⟨by omega, rfl, ⟨(by repeat (first | exact hs_eq _ _ _ | refine hs_ne (by omega) ?_ | assumption)), (by repeat (first | exact hs_eq _ _ _ | refine hs_ne (by omega) ?_ | assumption)), (by repeat (first | exact hs_eq _ _ _ | refine hs_ne (by omega) ?_ | assumption)), (by repeat (first | exact hs_eq _ _ _ | refine hs_ne (by omega) ?_ | assumption)), (by repeat (first | exact hs_eq _ _ _ | refine hs_ne (by omega) ?_ | assumption)), (by repeat (first | exact hs_eq _ _ _ | refine hs_ne (by omega) ?_ | assumption))⟩, Fr.tr (Fr.tr (fun aaa haa => by repeat (first | rfl | refine hs_ne (by omega) ?_)) hF1) (fun aaa haa => by repeat (first | rfl | refine hs_ne (by omega) ?_))⟩
                    | exact Or.inr (Or.inl ⟨by omega, rfl, ⟨(by repeat (first | exact hs_eq _ _ _ | refine hs_ne (by omega) ?_ | assumption)), (by repeat (first | exact hs_eq _ _ _ | refine hs_ne (by omega) ?_ | assumption)), (by repeat (first | exact hs_eq _ _ _ | refine hs_ne (by omega) ?_ | assumption)), (by repeat (first | exact hs_eq _ _ _ | refine hs_ne (by omega) ?_ | assumption)), (by repeat (first | exact hs_eq _ _ _ | refine hs_ne (by omega) ?_ | assumption)), (by repeat (first | exact hs_eq _ _ _ | refine hs_ne (by omega) ?_ | assumption))⟩, fun aaa haa => by repeat (first | rfl | refine hs_ne (by omega) ?_)⟩)
                    | exact Or.inr (Or.inr (⟨by omega, rfl, ⟨(by repeat (first | exact hs_eq _ _ _ | refine hs_ne (by omega) ?_ | assumption)), (by repeat (first | exact hs_eq _ _ _ | refine hs_ne (by omega) ?_ | assumption)), (by repeat (first | exact hs_eq _ _ _ | refine hs_ne (by omega) ?_ | assumption)), (by repeat (first | exact hs_eq _ _ _ | refine hs_ne (by omega) ?_ | assumption)), (by repeat (first | exact hs_eq _ _ _ | refine hs_ne (by omega) ?_ | assumption)), (by repeat (first | exact hs_eq _ _ _ | refine hs_ne (by omega) ?_ | assumption))⟩, fun aaa haa => by repeat (first | rfl | refine hs_ne (by omega) ?_)⟩))))
          · try (exfalso; omega)
            all_goals (
              refine k_iconst C dX8_wind_19 ?_
              refine k_goto (tgt := 24) C dX8_wind_20 (by decide) ?_
              refine k_put C (k := 5) inX8 tyX8_ok nmX8 (ci := 8) rfl (by decide) fl_X8_25 rfl (Nat.le_of_ble_eq_true rfl) dX8_wind_24 (by repeat (first | exact hs_eq _ _ _ | refine hs_ne (by omega) ?_ | assumption)) ?_
              refine k_aload_n C dX8_wind_27 rfl ?_
              refine k_get C (k := 5) inX8 (ci := 8) rfl (by decide) fl_X8_25 dX8_wind_28 (by repeat (first | exact hs_eq _ _ _ | refine hs_ne (by omega) ?_ | assumption)) rfl ?_
              refine k_if_le (tgt := 36) C dX8_wind_31 (by decide) ⟨by omega, by omega⟩ (fun c31 => ?_) (fun c31 => ?_)
              · try (exfalso; omega)
                all_goals (
                  refine k_aload_n C dX8_wind_36 rfl ?_
                  refine k_callV C (n := 0) (as := []) (ct_X8_save l D tc base oo zrr hhi htx has hro st ln (0) re du hsh _ ⟨(by repeat (first | exact hs_eq _ _ _ | refine hs_ne (by omega) ?_ | assumption)), (by repeat (first | exact hs_eq _ _ _ | refine hs_ne (by omega) ?_ | assumption)), (by repeat (first | exact hs_eq _ _ _ | refine hs_ne (by omega) ?_ | assumption)), (by repeat (first | exact hs_eq _ _ _ | refine hs_ne (by omega) ?_ | assumption)), (by repeat (first | exact hs_eq _ _ _ | refine hs_ne (by omega) ?_ | assumption)), (by repeat (first | exact hs_eq _ _ _ | refine hs_ne (by omega) ?_ | assumption))⟩ hst) ml_X8_102 im_X8_save se_X8_save ini_X8 co_X8_save ⟨rfl, by decide, by decide, by decide +kernel⟩ rfl (ci := 8) rfl (by repeat (first | exact hs_eq _ _ _ | refine hs_ne (by omega) ?_ | assumption)) ⟨by decide, by decide⟩ rfl (Nat.le_of_ble_eq_true rfl) ⟨Nat.zero_le _, Nat.zero_le _⟩ dX8_wind_37 ?_
                  rintro _ _ ⟨rfl, hM1, hF1⟩
                  obtain ⟨k0, k1, k2, k3, k4, k5⟩ := id hM1
                  refine k_aload_n C dX8_wind_40 rfl ?_
                  refine k_iload_n C dX8_wind_41 rfl ?_
                  refine k_iload_n C dX8_wind_42 rfl ?_
                  refine k_callV C (n := 2) (as := [_, _]) (ct_X8_winds l D tc base oo (oo + 1) _ _ _ (by repeat (first | exact hs_eq _ _ _ | refine hs_ne (by omega) ?_ | assumption)) (by repeat (first | exact hs_eq _ _ _ | refine hs_ne (by omega) ?_ | assumption)) (by omega) _ _ (by omega) (by omega) hi (by omega) (by omega)) ml_X8_54 im_X8_winds se_X8_winds ini_X8 co_X8_winds ⟨rfl, by decide, by decide, by decide +kernel⟩ rfl (ci := 8) rfl (by repeat (first | exact hs_eq _ _ _ | refine hs_ne (by omega) ?_ | assumption)) ⟨by decide, by decide⟩ rfl (Nat.le_of_ble_eq_true rfl) ⟨Nat.zero_le _, Nat.zero_le _⟩ dX8_wind_43 ?_
                  rintro _ _ ⟨rfl, rfl⟩
                  refine k_iret C hr dX8_wind_46 ?_
                  first
                    | exact Or.inl ⟨by omega, rfl, ⟨(by repeat (first | exact hs_eq _ _ _ | refine hs_ne (by omega) ?_ | assumption)), (by repeat (first | exact hs_eq _ _ _ | refine hs_ne (by omega) ?_ | assumption)), (by repeat (first | exact hs_eq _ _ _ | refine hs_ne (by omega) ?_ | assumption)), (by repeat (first | exact hs_eq _ _ _ | refine hs_ne (by omega) ?_ | assumption)), (by repeat (first | exact hs_eq _ _ _ | refine hs_ne (by omega) ?_ | assumption)), (by repeat (first | exact hs_eq _ _ _ | refine hs_ne (by omega) ?_ | assumption))⟩, Fr.tr (Fr.tr (fun aaa haa => by repeat (first | rfl | refine hs_ne (by omega) ?_)) hF1) (fun aaa haa => by repeat (first | rfl | refine hs_ne (by omega) ?_))⟩
                    | exact Or.inr (Or.inl ⟨by omega, rfl, ⟨(by repeat (first | exact hs_eq _ _ _ | refine hs_ne (by omega) ?_ | assumption)), (by repeat (first | exact hs_eq _ _ _ | refine hs_ne (by omega) ?_ | assumption)), (by repeat (first | exact hs_eq _ _ _ | refine hs_ne (by omega) ?_ | assumption)), (by repeat (first | exact hs_eq _ _ _ | refine hs_ne (by omega) ?_ | assumption)), (by repeat (first | exact hs_eq _ _ _ | refine hs_ne (by omega) ?_ | assumption)), (by repeat (first | exact hs_eq _ _ _ | refine hs_ne (by omega) ?_ | assumption))⟩, fun aaa haa => by repeat (first | rfl | refine hs_ne (by omega) ?_)⟩)
                    | exact Or.inr (Or.inr (⟨by omega, rfl, ⟨(by repeat (first | exact hs_eq _ _ _ | refine hs_ne (by omega) ?_ | assumption)), (by repeat (first | exact hs_eq _ _ _ | refine hs_ne (by omega) ?_ | assumption)), (by repeat (first | exact hs_eq _ _ _ | refine hs_ne (by omega) ?_ | assumption)), (by repeat (first | exact hs_eq _ _ _ | refine hs_ne (by omega) ?_ | assumption)), (by repeat (first | exact hs_eq _ _ _ | refine hs_ne (by omega) ?_ | assumption)), (by repeat (first | exact hs_eq _ _ _ | refine hs_ne (by omega) ?_ | assumption))⟩, fun aaa haa => by repeat (first | rfl | refine hs_ne (by omega) ?_)⟩)))
              · try (exfalso; omega)
                all_goals (
                  refine k_iconst C dX8_wind_34 ?_
                  refine k_iret C hr dX8_wind_35 ?_
                  first
                    | exact Or.inl ⟨by omega, rfl, ⟨(by repeat (first | exact hs_eq _ _ _ | refine hs_ne (by omega) ?_ | assumption)), (by repeat (first | exact hs_eq _ _ _ | refine hs_ne (by omega) ?_ | assumption)), (by repeat (first | exact hs_eq _ _ _ | refine hs_ne (by omega) ?_ | assumption)), (by repeat (first | exact hs_eq _ _ _ | refine hs_ne (by omega) ?_ | assumption)), (by repeat (first | exact hs_eq _ _ _ | refine hs_ne (by omega) ?_ | assumption)), (by repeat (first | exact hs_eq _ _ _ | refine hs_ne (by omega) ?_ | assumption))⟩, Fr.tr (Fr.tr (fun aaa haa => by repeat (first | rfl | refine hs_ne (by omega) ?_)) hF1) (fun aaa haa => by repeat (first | rfl | refine hs_ne (by omega) ?_))⟩
                    | exact Or.inr (Or.inl ⟨by omega, rfl, ⟨(by repeat (first | exact hs_eq _ _ _ | refine hs_ne (by omega) ?_ | assumption)), (by repeat (first | exact hs_eq _ _ _ | refine hs_ne (by omega) ?_ | assumption)), (by repeat (first | exact hs_eq _ _ _ | refine hs_ne (by omega) ?_ | assumption)), (by repeat (first | exact hs_eq _ _ _ | refine hs_ne (by omega) ?_ | assumption)), (by repeat (first | exact hs_eq _ _ _ | refine hs_ne (by omega) ?_ | assumption)), (by repeat (first | exact hs_eq _ _ _ | refine hs_ne (by omega) ?_ | assumption))⟩, fun aaa haa => by repeat (first | rfl | refine hs_ne (by omega) ?_)⟩)
                    | exact Or.inr (Or.inr (⟨by omega, rfl, ⟨(by repeat (first | exact hs_eq _ _ _ | refine hs_ne (by omega) ?_ | assumption)), (by repeat (first | exact hs_eq _ _ _ | refine hs_ne (by omega) ?_ | assumption)), (by repeat (first | exact hs_eq _ _ _ | refine hs_ne (by omega) ?_ | assumption)), (by repeat (first | exact hs_eq _ _ _ | refine hs_ne (by omega) ?_ | assumption)), (by repeat (first | exact hs_eq _ _ _ | refine hs_ne (by omega) ?_ | assumption)), (by repeat (first | exact hs_eq _ _ _ | refine hs_ne (by omega) ?_ | assumption))⟩, fun aaa haa => by repeat (first | rfl | refine hs_ne (by omega) ?_)⟩))))
        · skip
          refine k_if_eq (tgt := 23) C dX8_wind_16 (by decide) ⟨by omega, by omega⟩ (fun c16 => ?_) (fun c16 => ?_)
          · try (exfalso; omega)
            all_goals (
              refine k_iconst C dX8_wind_23 ?_
              refine k_put C (k := 5) inX8 tyX8_ok nmX8 (ci := 8) rfl (by decide) fl_X8_25 rfl (Nat.le_of_ble_eq_true rfl) dX8_wind_24 (by repeat (first | exact hs_eq _ _ _ | refine hs_ne (by omega) ?_ | assumption)) ?_
              refine k_aload_n C dX8_wind_27 rfl ?_
              refine k_get C (k := 5) inX8 (ci := 8) rfl (by decide) fl_X8_25 dX8_wind_28 (by repeat (first | exact hs_eq _ _ _ | refine hs_ne (by omega) ?_ | assumption)) rfl ?_
              refine k_if_le (tgt := 36) C dX8_wind_31 (by decide) ⟨by omega, by omega⟩ (fun c31 => ?_) (fun c31 => ?_)
              · try (exfalso; omega)
                all_goals (
                  refine k_aload_n C dX8_wind_36 rfl ?_
                  refine k_callV C (n := 0) (as := []) (ct_X8_save l D tc base oo zrr hhi htx has hro st ln (0) re du hsh _ ⟨(by repeat (first | exact hs_eq _ _ _ | refine hs_ne (by omega) ?_ | assumption)), (by repeat (first | exact hs_eq _ _ _ | refine hs_ne (by omega) ?_ | assumption)), (by repeat (first | exact hs_eq _ _ _ | refine hs_ne (by omega) ?_ | assumption)), (by repeat (first | exact hs_eq _ _ _ | refine hs_ne (by omega) ?_ | assumption)), (by repeat (first | exact hs_eq _ _ _ | refine hs_ne (by omega) ?_ | assumption)), (by repeat (first | exact hs_eq _ _ _ | refine hs_ne (by omega) ?_ | assumption))⟩ hst) ml_X8_102 im_X8_save se_X8_save ini_X8 co_X8_save ⟨rfl, by decide, by decide, by decide +kernel⟩ rfl (ci := 8) rfl (by repeat (first | exact hs_eq _ _ _ | refine hs_ne (by omega) ?_ | assumption)) ⟨by decide, by decide⟩ rfl (Nat.le_of_ble_eq_true rfl) ⟨Nat.zero_le _, Nat.zero_le _⟩ dX8_wind_37 ?_
                  rintro _ _ ⟨rfl, hM1, hF1⟩
                  obtain ⟨k0, k1, k2, k3, k4, k5⟩ := id hM1
                  refine k_aload_n C dX8_wind_40 rfl ?_
                  refine k_iload_n C dX8_wind_41 rfl ?_
                  refine k_iload_n C dX8_wind_42 rfl ?_
                  refine k_callV C (n := 2) (as := [_, _]) (ct_X8_winds l D tc base oo (oo + 1) _ _ _ (by repeat (first | exact hs_eq _ _ _ | refine hs_ne (by omega) ?_ | assumption)) (by repeat (first | exact hs_eq _ _ _ | refine hs_ne (by omega) ?_ | assumption)) (by omega) _ _ (by omega) (by omega) hi (by omega) (by omega)) ml_X8_54 im_X8_winds se_X8_winds ini_X8 co_X8_winds ⟨rfl, by decide, by decide, by decide +kernel⟩ rfl (ci := 8) rfl (by repeat (first | exact hs_eq _ _ _ | refine hs_ne (by omega) ?_ | assumption)) ⟨by decide, by decide⟩ rfl (Nat.le_of_ble_eq_true rfl) ⟨Nat.zero_le _, Nat.zero_le _⟩ dX8_wind_43 ?_
                  rintro _ _ ⟨rfl, rfl⟩
                  refine k_iret C hr dX8_wind_46 ?_
                  first
                    | exact Or.inl ⟨by omega, rfl, ⟨(by repeat (first | exact hs_eq _ _ _ | refine hs_ne (by omega) ?_ | assumption)), (by repeat (first | exact hs_eq _ _ _ | refine hs_ne (by omega) ?_ | assumption)), (by repeat (first | exact hs_eq _ _ _ | refine hs_ne (by omega) ?_ | assumption)), (by repeat (first | exact hs_eq _ _ _ | refine hs_ne (by omega) ?_ | assumption)), (by repeat (first | exact hs_eq _ _ _ | refine hs_ne (by omega) ?_ | assumption)), (by repeat (first | exact hs_eq _ _ _ | refine hs_ne (by omega) ?_ | assumption))⟩, Fr.tr (Fr.tr (fun aaa haa => by repeat (first | rfl | refine hs_ne (by omega) ?_)) hF1) (fun aaa haa => by repeat (first | rfl | refine hs_ne (by omega) ?_))⟩
                    | exact Or.inr (Or.inl ⟨by omega, rfl, ⟨(by repeat (first | exact hs_eq _ _ _ | refine hs_ne (by omega) ?_ | assumption)), (by repeat (first | exact hs_eq _ _ _ | refine hs_ne (by omega) ?_ | assumption)), (by repeat (first | exact hs_eq _ _ _ | refine hs_ne (by omega) ?_ | assumption)), (by repeat (first | exact hs_eq _ _ _ | refine hs_ne (by omega) ?_ | assumption)), (by repeat (first | exact hs_eq _ _ _ | refine hs_ne (by omega) ?_ | assumption)), (by repeat (first | exact hs_eq _ _ _ | refine hs_ne (by omega) ?_ | assumption))⟩, fun aaa haa => by repeat (first | rfl | refine hs_ne (by omega) ?_)⟩)
                    | exact Or.inr (Or.inr (⟨by omega, rfl, ⟨(by repeat (first | exact hs_eq _ _ _ | refine hs_ne (by omega) ?_ | assumption)), (by repeat (first | exact hs_eq _ _ _ | refine hs_ne (by omega) ?_ | assumption)), (by repeat (first | exact hs_eq _ _ _ | refine hs_ne (by omega) ?_ | assumption)), (by repeat (first | exact hs_eq _ _ _ | refine hs_ne (by omega) ?_ | assumption)), (by repeat (first | exact hs_eq _ _ _ | refine hs_ne (by omega) ?_ | assumption)), (by repeat (first | exact hs_eq _ _ _ | refine hs_ne (by omega) ?_ | assumption))⟩, fun aaa haa => by repeat (first | rfl | refine hs_ne (by omega) ?_)⟩)))
              · try (exfalso; omega)
                all_goals (
                  refine k_iconst C dX8_wind_34 ?_
                  refine k_iret C hr dX8_wind_35 ?_
                  first
                    | exact Or.inl ⟨by omega, rfl, ⟨(by repeat (first | exact hs_eq _ _ _ | refine hs_ne (by omega) ?_ | assumption)), (by repeat (first | exact hs_eq _ _ _ | refine hs_ne (by omega) ?_ | assumption)), (by repeat (first | exact hs_eq _ _ _ | refine hs_ne (by omega) ?_ | assumption)), (by repeat (first | exact hs_eq _ _ _ | refine hs_ne (by omega) ?_ | assumption)), (by repeat (first | exact hs_eq _ _ _ | refine hs_ne (by omega) ?_ | assumption)), (by repeat (first | exact hs_eq _ _ _ | refine hs_ne (by omega) ?_ | assumption))⟩, Fr.tr (Fr.tr (fun aaa haa => by repeat (first | rfl | refine hs_ne (by omega) ?_)) hF1) (fun aaa haa => by repeat (first | rfl | refine hs_ne (by omega) ?_))⟩
                    | exact Or.inr (Or.inl ⟨by omega, rfl, ⟨(by repeat (first | exact hs_eq _ _ _ | refine hs_ne (by omega) ?_ | assumption)), (by repeat (first | exact hs_eq _ _ _ | refine hs_ne (by omega) ?_ | assumption)), (by repeat (first | exact hs_eq _ _ _ | refine hs_ne (by omega) ?_ | assumption)), (by repeat (first | exact hs_eq _ _ _ | refine hs_ne (by omega) ?_ | assumption)), (by repeat (first | exact hs_eq _ _ _ | refine hs_ne (by omega) ?_ | assumption)), (by repeat (first | exact hs_eq _ _ _ | refine hs_ne (by omega) ?_ | assumption))⟩, fun aaa haa => by repeat (first | rfl | refine hs_ne (by omega) ?_)⟩)
                    | exact Or.inr (Or.inr (⟨by omega, rfl, ⟨(by repeat (first | exact hs_eq _ _ _ | refine hs_ne (by omega) ?_ | assumption)), (by repeat (first | exact hs_eq _ _ _ | refine hs_ne (by omega) ?_ | assumption)), (by repeat (first | exact hs_eq _ _ _ | refine hs_ne (by omega) ?_ | assumption)), (by repeat (first | exact hs_eq _ _ _ | refine hs_ne (by omega) ?_ | assumption)), (by repeat (first | exact hs_eq _ _ _ | refine hs_ne (by omega) ?_ | assumption)), (by repeat (first | exact hs_eq _ _ _ | refine hs_ne (by omega) ?_ | assumption))⟩, fun aaa haa => by repeat (first | rfl | refine hs_ne (by omega) ?_)⟩))))
          · try (exfalso; omega)
            all_goals (
              refine k_iconst C dX8_wind_19 ?_
              refine k_goto (tgt := 24) C dX8_wind_20 (by decide) ?_
              refine k_put C (k := 5) inX8 tyX8_ok nmX8 (ci := 8) rfl (by decide) fl_X8_25 rfl (Nat.le_of_ble_eq_true rfl) dX8_wind_24 (by repeat (first | exact hs_eq _ _ _ | refine hs_ne (by omega) ?_ | assumption)) ?_
              refine k_aload_n C dX8_wind_27 rfl ?_
              refine k_get C (k := 5) inX8 (ci := 8) rfl (by decide) fl_X8_25 dX8_wind_28 (by repeat (first | exact hs_eq _ _ _ | refine hs_ne (by omega) ?_ | assumption)) rfl ?_
              refine k_if_le (tgt := 36) C dX8_wind_31 (by decide) ⟨by omega, by omega⟩ (fun c31 => ?_) (fun c31 => ?_)
              · try (exfalso; omega)
                all_goals (
                  refine k_aload_n C dX8_wind_36 rfl ?_
                  refine k_callV C (n := 0) (as := []) (ct_X8_save l D tc base oo zrr hhi htx has hro st ln (0) re du hsh _ ⟨(by repeat (first | exact hs_eq _ _ _ | refine hs_ne (by omega) ?_ | assumption)), (by repeat (first | exact hs_eq _ _ _ | refine hs_ne (by omega) ?_ | assumption)), (by repeat (first | exact hs_eq _ _ _ | refine hs_ne (by omega) ?_ | assumption)), (by repeat (first | exact hs_eq _ _ _ | refine hs_ne (by omega) ?_ | assumption)), (by repeat (first | exact hs_eq _ _ _ | refine hs_ne (by omega) ?_ | assumption)), (by repeat (first | exact hs_eq _ _ _ | refine hs_ne (by omega) ?_ | assumption))⟩ hst) ml_X8_102 im_X8_save se_X8_save ini_X8 co_X8_save ⟨rfl, by decide, by decide, by decide +kernel⟩ rfl (ci := 8) rfl (by repeat (first | exact hs_eq _ _ _ | refine hs_ne (by omega) ?_ | assumption)) ⟨by decide, by decide⟩ rfl (Nat.le_of_ble_eq_true rfl) ⟨Nat.zero_le _, Nat.zero_le _⟩ dX8_wind_37 ?_
                  rintro _ _ ⟨rfl, hM1, hF1⟩
                  obtain ⟨k0, k1, k2, k3, k4, k5⟩ := id hM1
                  refine k_aload_n C dX8_wind_40 rfl ?_
                  refine k_iload_n C dX8_wind_41 rfl ?_
                  refine k_iload_n C dX8_wind_42 rfl ?_
                  refine k_callV C (n := 2) (as := [_, _]) (ct_X8_winds l D tc base oo (oo + 1) _ _ _ (by repeat (first | exact hs_eq _ _ _ | refine hs_ne (by omega) ?_ | assumption)) (by repeat (first | exact hs_eq _ _ _ | refine hs_ne (by omega) ?_ | assumption)) (by omega) _ _ (by omega) (by omega) hi (by omega) (by omega)) ml_X8_54 im_X8_winds se_X8_winds ini_X8 co_X8_winds ⟨rfl, by decide, by decide, by decide +kernel⟩ rfl (ci := 8) rfl (by repeat (first | exact hs_eq _ _ _ | refine hs_ne (by omega) ?_ | assumption)) ⟨by decide, by decide⟩ rfl (Nat.le_of_ble_eq_true rfl) ⟨Nat.zero_le _, Nat.zero_le _⟩ dX8_wind_43 ?_
                  rintro _ _ ⟨rfl, rfl⟩
                  refine k_iret C hr dX8_wind_46 ?_
                  first
                    | exact Or.inl ⟨by omega, rfl, ⟨(by repeat (first | exact hs_eq _ _ _ | refine hs_ne (by omega) ?_ | assumption)), (by repeat (first | exact hs_eq _ _ _ | refine hs_ne (by omega) ?_ | assumption)), (by repeat (first | exact hs_eq _ _ _ | refine hs_ne (by omega) ?_ | assumption)), (by repeat (first | exact hs_eq _ _ _ | refine hs_ne (by omega) ?_ | assumption)), (by repeat (first | exact hs_eq _ _ _ | refine hs_ne (by omega) ?_ | assumption)), (by repeat (first | exact hs_eq _ _ _ | refine hs_ne (by omega) ?_ | assumption))⟩, Fr.tr (Fr.tr (fun aaa haa => by repeat (first | rfl | refine hs_ne (by omega) ?_)) hF1) (fun aaa haa => by repeat (first | rfl | refine hs_ne (by omega) ?_))⟩
                    | exact Or.inr (Or.inl ⟨by omega, rfl, ⟨(by repeat (first | exact hs_eq _ _ _ | refine hs_ne (by omega) ?_ | assumption)), (by repeat (first | exact hs_eq _ _ _ | refine hs_ne (by omega) ?_ | assumption)), (by repeat (first | exact hs_eq _ _ _ | refine hs_ne (by omega) ?_ | assumption)), (by repeat (first | exact hs_eq _ _ _ | refine hs_ne (by omega) ?_ | assumption)), (by repeat (first | exact hs_eq _ _ _ | refine hs_ne (by omega) ?_ | assumption)), (by repeat (first | exact hs_eq _ _ _ | refine hs_ne (by omega) ?_ | assumption))⟩, fun aaa haa => by repeat (first | rfl | refine hs_ne (by omega) ?_)⟩)
                    | exact Or.inr (Or.inr (⟨by omega, rfl, ⟨(by repeat (first | exact hs_eq _ _ _ | refine hs_ne (by omega) ?_ | assumption)), (by repeat (first | exact hs_eq _ _ _ | refine hs_ne (by omega) ?_ | assumption)), (by repeat (first | exact hs_eq _ _ _ | refine hs_ne (by omega) ?_ | assumption)), (by repeat (first | exact hs_eq _ _ _ | refine hs_ne (by omega) ?_ | assumption)), (by repeat (first | exact hs_eq _ _ _ | refine hs_ne (by omega) ?_ | assumption)), (by repeat (first | exact hs_eq _ _ _ | refine hs_ne (by omega) ?_ | assumption))⟩, fun aaa haa => by repeat (first | rfl | refine hs_ne (by omega) ?_)⟩)))
              · try (exfalso; omega)
                all_goals (
                  refine k_iconst C dX8_wind_34 ?_
                  refine k_iret C hr dX8_wind_35 ?_
                  first
                    | exact Or.inl ⟨by omega, rfl, ⟨(by repeat (first | exact hs_eq _ _ _ | refine hs_ne (by omega) ?_ | assumption)), (by repeat (first | exact hs_eq _ _ _ | refine hs_ne (by omega) ?_ | assumption)), (by repeat (first | exact hs_eq _ _ _ | refine hs_ne (by omega) ?_ | assumption)), (by repeat (first | exact hs_eq _ _ _ | refine hs_ne (by omega) ?_ | assumption)), (by repeat (first | exact hs_eq _ _ _ | refine hs_ne (by omega) ?_ | assumption)), (by repeat (first | exact hs_eq _ _ _ | refine hs_ne (by omega) ?_ | assumption))⟩, Fr.tr (Fr.tr (fun aaa haa => by repeat (first | rfl | refine hs_ne (by omega) ?_)) hF1) (fun aaa haa => by repeat (first | rfl | refine hs_ne (by omega) ?_))⟩
                    | exact Or.inr (Or.inl ⟨by omega, rfl, ⟨(by repeat (first | exact hs_eq _ _ _ | refine hs_ne (by omega) ?_ | assumption)), (by repeat (first | exact hs_eq _ _ _ | refine hs_ne (by omega) ?_ | assumption)), (by repeat (first | exact hs_eq _ _ _ | refine hs_ne (by omega) ?_ | assumption)), (by repeat (first | exact hs_eq _ _ _ | refine hs_ne (by omega) ?_ | assumption)), (by repeat (first | exact hs_eq _ _ _ | refine hs_ne (by omega) ?_ | assumption)), (by repeat (first | exact hs_eq _ _ _ | refine hs_ne (by omega) ?_ | assumption))⟩, fun aaa haa => by repeat (first | rfl | refine hs_ne (by omega) ?_)⟩)
                    | exact Or.inr (Or.inr (⟨by omega, rfl, ⟨(by repeat (first | exact hs_eq _ _ _ | refine hs_ne (by omega) ?_ | assumption)), (by repeat (first | exact hs_eq _ _ _ | refine hs_ne (by omega) ?_ | assumption)), (by repeat (first | exact hs_eq _ _ _ | refine hs_ne (by omega) ?_ | assumption)), (by repeat (first | exact hs_eq _ _ _ | refine hs_ne (by omega) ?_ | assumption)), (by repeat (first | exact hs_eq _ _ _ | refine hs_ne (by omega) ?_ | assumption)), (by repeat (first | exact hs_eq _ _ _ | refine hs_ne (by omega) ?_ | assumption))⟩, fun aaa haa => by repeat (first | rfl | refine hs_ne (by omega) ?_)⟩)))))
    · try (exfalso; omega)
      all_goals (
        refine k_iconst C dX8_wind_8 ?_
        refine k_goto (tgt := 24) C dX8_wind_9 (by decide) ?_
        refine k_put C (k := 5) inX8 tyX8_ok nmX8 (ci := 8) rfl (by decide) fl_X8_25 rfl (Nat.le_of_ble_eq_true rfl) dX8_wind_24 (by repeat (first | exact hs_eq _ _ _ | refine hs_ne (by omega) ?_ | assumption)) ?_
        refine k_aload_n C dX8_wind_27 rfl ?_
        refine k_get C (k := 5) inX8 (ci := 8) rfl (by decide) fl_X8_25 dX8_wind_28 (by repeat (first | exact hs_eq _ _ _ | refine hs_ne (by omega) ?_ | assumption)) rfl ?_
        refine k_if_le (tgt := 36) C dX8_wind_31 (by decide) ⟨by omega, by omega⟩ (fun c31 => ?_) (fun c31 => ?_)
        · try (exfalso; omega)
          all_goals (
            refine k_aload_n C dX8_wind_36 rfl ?_
            refine k_callV C (n := 0) (as := []) (ct_X8_save l D tc base oo zrr hhi htx has hro st ln (0) re du hsh _ ⟨(by repeat (first | exact hs_eq _ _ _ | refine hs_ne (by omega) ?_ | assumption)), (by repeat (first | exact hs_eq _ _ _ | refine hs_ne (by omega) ?_ | assumption)), (by repeat (first | exact hs_eq _ _ _ | refine hs_ne (by omega) ?_ | assumption)), (by repeat (first | exact hs_eq _ _ _ | refine hs_ne (by omega) ?_ | assumption)), (by repeat (first | exact hs_eq _ _ _ | refine hs_ne (by omega) ?_ | assumption)), (by repeat (first | exact hs_eq _ _ _ | refine hs_ne (by omega) ?_ | assumption))⟩ hst) ml_X8_102 im_X8_save se_X8_save ini_X8 co_X8_save ⟨rfl, by decide, by decide, by decide +kernel⟩ rfl (ci := 8) rfl (by repeat (first | exact hs_eq _ _ _ | refine hs_ne (by omega) ?_ | assumption)) ⟨by decide, by decide⟩ rfl (Nat.le_of_ble_eq_true rfl) ⟨Nat.zero_le _, Nat.zero_le _⟩ dX8_wind_37 ?_
            rintro _ _ ⟨rfl, hM1, hF1⟩
            obtain ⟨k0, k1, k2, k3, k4, k5⟩ := id hM1
            refine k_aload_n C dX8_wind_40 rfl ?_
            refine k_iload_n C dX8_wind_41 rfl ?_
            refine k_iload_n C dX8_wind_42 rfl ?_
            refine k_callV C (n := 2) (as := [_, _]) (ct_X8_winds l D tc base oo (oo + 1) _ _ _ (by repeat (first | exact hs_eq _ _ _ | refine hs_ne (by omega) ?_ | assumption)) (by repeat (first | exact hs_eq _ _ _ | refine hs_ne (by omega) ?_ | assumption)) (by omega) _ _ (by omega) (by omega) hi (by omega) (by omega)) ml_X8_54 im_X8_winds se_X8_winds ini_X8 co_X8_winds ⟨rfl, by decide, by decide, by decide +kernel⟩ rfl (ci := 8) rfl (by repeat (first | exact hs_eq _ _ _ | refine hs_ne (by omega) ?_ | assumption)) ⟨by decide, by decide⟩ rfl (Nat.le_of_ble_eq_true rfl) ⟨Nat.zero_le _, Nat.zero_le _⟩ dX8_wind_43 ?_
            rintro _ _ ⟨rfl, rfl⟩
            refine k_iret C hr dX8_wind_46 ?_
            first
              | exact Or.inl ⟨by omega, rfl, ⟨(by repeat (first | exact hs_eq _ _ _ | refine hs_ne (by omega) ?_ | assumption)), (by repeat (first | exact hs_eq _ _ _ | refine hs_ne (by omega) ?_ | assumption)), (by repeat (first | exact hs_eq _ _ _ | refine hs_ne (by omega) ?_ | assumption)), (by repeat (first | exact hs_eq _ _ _ | refine hs_ne (by omega) ?_ | assumption)), (by repeat (first | exact hs_eq _ _ _ | refine hs_ne (by omega) ?_ | assumption)), (by repeat (first | exact hs_eq _ _ _ | refine hs_ne (by omega) ?_ | assumption))⟩, Fr.tr (Fr.tr (fun aaa haa => by repeat (first | rfl | refine hs_ne (by omega) ?_)) hF1) (fun aaa haa => by repeat (first | rfl | refine hs_ne (by omega) ?_))⟩
              | exact Or.inr (Or.inl ⟨by omega, rfl, ⟨(by repeat (first | exact hs_eq _ _ _ | refine hs_ne (by omega) ?_ | assumption)), (by repeat (first | exact hs_eq _ _ _ | refine hs_ne (by omega) ?_ | assumption)), (by repeat (first | exact hs_eq _ _ _ | refine hs_ne (by omega) ?_ | assumption)), (by repeat (first | exact hs_eq _ _ _ | refine hs_ne (by omega) ?_ | assumption)), (by repeat (first | exact hs_eq _ _ _ | refine hs_ne (by omega) ?_ | assumption)), (by repeat (first | exact hs_eq _ _ _ | refine hs_ne (by omega) ?_ | assumption))⟩, fun aaa haa => by repeat (first | rfl | refine hs_ne (by omega) ?_)⟩)
              | exact Or.inr (Or.inr (⟨by omega, rfl, ⟨(by repeat (first | exact hs_eq _ _ _ | refine hs_ne (by omega) ?_ | assumption)), (by repeat (first | exact hs_eq _ _ _ | refine hs_ne (by omega) ?_ | assumption)), (by repeat (first | exact hs_eq _ _ _ | refine hs_ne (by omega) ?_ | assumption)), (by repeat (first | exact hs_eq _ _ _ | refine hs_ne (by omega) ?_ | assumption)), (by repeat (first | exact hs_eq _ _ _ | refine hs_ne (by omega) ?_ | assumption)), (by repeat (first | exact hs_eq _ _ _ | refine hs_ne (by omega) ?_ | assumption))⟩, fun aaa haa => by repeat (first | rfl | refine hs_ne (by omega) ?_)⟩)))
        · try (exfalso; omega)
          all_goals (
            refine k_iconst C dX8_wind_34 ?_
            refine k_iret C hr dX8_wind_35 ?_
            first
              | exact Or.inl ⟨by omega, rfl, ⟨(by repeat (first | exact hs_eq _ _ _ | refine hs_ne (by omega) ?_ | assumption)), (by repeat (first | exact hs_eq _ _ _ | refine hs_ne (by omega) ?_ | assumption)), (by repeat (first | exact hs_eq _ _ _ | refine hs_ne (by omega) ?_ | assumption)), (by repeat (first | exact hs_eq _ _ _ | refine hs_ne (by omega) ?_ | assumption)), (by repeat (first | exact hs_eq _ _ _ | refine hs_ne (by omega) ?_ | assumption)), (by repeat (first | exact hs_eq _ _ _ | refine hs_ne (by omega) ?_ | assumption))⟩, Fr.tr (Fr.tr (fun aaa haa => by repeat (first | rfl | refine hs_ne (by omega) ?_)) hF1) (fun aaa haa => by repeat (first | rfl | refine hs_ne (by omega) ?_))⟩
              | exact Or.inr (Or.inl ⟨by omega, rfl, ⟨(by repeat (first | exact hs_eq _ _ _ | refine hs_ne (by omega) ?_ | assumption)), (by repeat (first | exact hs_eq _ _ _ | refine hs_ne (by omega) ?_ | assumption)), (by repeat (first | exact hs_eq _ _ _ | refine hs_ne (by omega) ?_ | assumption)), (by repeat (first | exact hs_eq _ _ _ | refine hs_ne (by omega) ?_ | assumption)), (by repeat (first | exact hs_eq _ _ _ | refine hs_ne (by omega) ?_ | assumption)), (by repeat (first | exact hs_eq _ _ _ | refine hs_ne (by omega) ?_ | assumption))⟩, fun aaa haa => by repeat (first | rfl | refine hs_ne (by omega) ?_)⟩)
              | exact Or.inr (Or.inr (⟨by omega, rfl, ⟨(by repeat (first | exact hs_eq _ _ _ | refine hs_ne (by omega) ?_ | assumption)), (by repeat (first | exact hs_eq _ _ _ | refine hs_ne (by omega) ?_ | assumption)), (by repeat (first | exact hs_eq _ _ _ | refine hs_ne (by omega) ?_ | assumption)), (by repeat (first | exact hs_eq _ _ _ | refine hs_ne (by omega) ?_ | assumption)), (by repeat (first | exact hs_eq _ _ _ | refine hs_ne (by omega) ?_ | assumption)), (by repeat (first | exact hs_eq _ _ _ | refine hs_ne (by omega) ?_ | assumption))⟩, fun aaa haa => by repeat (first | rfl | refine hs_ne (by omega) ?_)⟩))))
  · skip
    refine k_if_ne (tgt := 12) C dX8_wind_5 (by decide) ⟨by omega, by omega⟩ (fun c5 => ?_) (fun c5 => ?_)
    · try (exfalso; omega)
      all_goals (
        refine k_iload_n C dX8_wind_12 rfl ?_
        refine k_callS C (n := 1) (as := [_]) (ct_X8_areTurns l D tc base _ _ ht) ml_X8_99 sm_X8_areTurns ini_X8 co_X8_areTurns ⟨by decide, by decide, by decide +kernel⟩ rfl ⟨by decide, by decide⟩ rfl (Nat.le_of_ble_eq_true rfl) ⟨Nat.zero_le _, Nat.zero_le _⟩ dX8_wind_13 ?_
        rintro _ _ (⟨rfl, rfl, hq13⟩ | ⟨rfl, rfl, hq13⟩)
        · skip
          refine k_if_eq (tgt := 23) C dX8_wind_16 (by decide) ⟨by omega, by omega⟩ (fun c16 => ?_) (fun c16 => ?_)
          · try (exfalso; omega)
            all_goals (
              refine k_iconst C dX8_wind_23 ?_
              refine k_put C (k := 5) inX8 tyX8_ok nmX8 (ci := 8) rfl (by decide) fl_X8_25 rfl (Nat.le_of_ble_eq_true rfl) dX8_wind_24 (by repeat (first | exact hs_eq _ _ _ | refine hs_ne (by omega) ?_ | assumption)) ?_
              refine k_aload_n C dX8_wind_27 rfl ?_
              refine k_get C (k := 5) inX8 (ci := 8) rfl (by decide) fl_X8_25 dX8_wind_28 (by repeat (first | exact hs_eq _ _ _ | refine hs_ne (by omega) ?_ | assumption)) rfl ?_
              refine k_if_le (tgt := 36) C dX8_wind_31 (by decide) ⟨by omega, by omega⟩ (fun c31 => ?_) (fun c31 => ?_)
              · try (exfalso; omega)
                all_goals (
                  refine k_aload_n C dX8_wind_36 rfl ?_
                  refine k_callV C (n := 0) (as := []) (ct_X8_save l D tc base oo zrr hhi htx has hro st ln (0) re du hsh _ ⟨(by repeat (first | exact hs_eq _ _ _ | refine hs_ne (by omega) ?_ | assumption)), (by repeat (first | exact hs_eq _ _ _ | refine hs_ne (by omega) ?_ | assumption)), (by repeat (first | exact hs_eq _ _ _ | refine hs_ne (by omega) ?_ | assumption)), (by repeat (first | exact hs_eq _ _ _ | refine hs_ne (by omega) ?_ | assumption)), (by repeat (first | exact hs_eq _ _ _ | refine hs_ne (by omega) ?_ | assumption)), (by repeat (first | exact hs_eq _ _ _ | refine hs_ne (by omega) ?_ | assumption))⟩ hst) ml_X8_102 im_X8_save se_X8_save ini_X8 co_X8_save ⟨rfl, by decide, by decide, by decide +kernel⟩ rfl (ci := 8) rfl (by repeat (first | exact hs_eq _ _ _ | refine hs_ne (by omega) ?_ | assumption)) ⟨by decide, by decide⟩ rfl (Nat.le_of_ble_eq_true rfl) ⟨Nat.zero_le _, Nat.zero_le _⟩ dX8_wind_37 ?_
                  rintro _ _ ⟨rfl, hM1, hF1⟩
                  obtain ⟨k0, k1, k2, k3, k4, k5⟩ := id hM1
                  refine k_aload_n C dX8_wind_40 rfl ?_
                  refine k_iload_n C dX8_wind_41 rfl ?_
                  refine k_iload_n C dX8_wind_42 rfl ?_
                  refine k_callV C (n := 2) (as := [_, _]) (ct_X8_winds l D tc base oo (oo + 1) _ _ _ (by repeat (first | exact hs_eq _ _ _ | refine hs_ne (by omega) ?_ | assumption)) (by repeat (first | exact hs_eq _ _ _ | refine hs_ne (by omega) ?_ | assumption)) (by omega) _ _ (by omega) (by omega) hi (by omega) (by omega)) ml_X8_54 im_X8_winds se_X8_winds ini_X8 co_X8_winds ⟨rfl, by decide, by decide, by decide +kernel⟩ rfl (ci := 8) rfl (by repeat (first | exact hs_eq _ _ _ | refine hs_ne (by omega) ?_ | assumption)) ⟨by decide, by decide⟩ rfl (Nat.le_of_ble_eq_true rfl) ⟨Nat.zero_le _, Nat.zero_le _⟩ dX8_wind_43 ?_
                  rintro _ _ ⟨rfl, rfl⟩
                  refine k_iret C hr dX8_wind_46 ?_
                  first
                    | exact Or.inl ⟨by omega, rfl, ⟨(by repeat (first | exact hs_eq _ _ _ | refine hs_ne (by omega) ?_ | assumption)), (by repeat (first | exact hs_eq _ _ _ | refine hs_ne (by omega) ?_ | assumption)), (by repeat (first | exact hs_eq _ _ _ | refine hs_ne (by omega) ?_ | assumption)), (by repeat (first | exact hs_eq _ _ _ | refine hs_ne (by omega) ?_ | assumption)), (by repeat (first | exact hs_eq _ _ _ | refine hs_ne (by omega) ?_ | assumption)), (by repeat (first | exact hs_eq _ _ _ | refine hs_ne (by omega) ?_ | assumption))⟩, Fr.tr (Fr.tr (fun aaa haa => by repeat (first | rfl | refine hs_ne (by omega) ?_)) hF1) (fun aaa haa => by repeat (first | rfl | refine hs_ne (by omega) ?_))⟩
                    | exact Or.inr (Or.inl ⟨by omega, rfl, ⟨(by repeat (first | exact hs_eq _ _ _ | refine hs_ne (by omega) ?_ | assumption)), (by repeat (first | exact hs_eq _ _ _ | refine hs_ne (by omega) ?_ | assumption)), (by repeat (first | exact hs_eq _ _ _ | refine hs_ne (by omega) ?_ | assumption)), (by repeat (first | exact hs_eq _ _ _ | refine hs_ne (by omega) ?_ | assumption)), (by repeat (first | exact hs_eq _ _ _ | refine hs_ne (by omega) ?_ | assumption)), (by repeat (first | exact hs_eq _ _ _ | refine hs_ne (by omega) ?_ | assumption))⟩, fun aaa haa => by repeat (first | rfl | refine hs_ne (by omega) ?_)⟩)
                    | exact Or.inr (Or.inr (⟨by omega, rfl, ⟨(by repeat (first | exact hs_eq _ _ _ | refine hs_ne (by omega) ?_ | assumption)), (by repeat (first | exact hs_eq _ _ _ | refine hs_ne (by omega) ?_ | assumption)), (by repeat (first | exact hs_eq _ _ _ | refine hs_ne (by omega) ?_ | assumption)), (by repeat (first | exact hs_eq _ _ _ | refine hs_ne (by omega) ?_ | assumption)), (by repeat (first | exact hs_eq _ _ _ | refine hs_ne (by omega) ?_ | assumption)), (by repeat (first | exact hs_eq _ _ _ | refine hs_ne (by omega) ?_ | assumption))⟩, fun aaa haa => by repeat (first | rfl | refine hs_ne (by omega) ?_)⟩)))
              · try (exfalso; omega)
                all_goals (
                  refine k_iconst C dX8_wind_34 ?_
                  refine k_iret C hr dX8_wind_35 ?_
                  first
                    | exact Or.inl ⟨by omega, rfl, ⟨(by repeat (first | exact hs_eq _ _ _ | refine hs_ne (by omega) ?_ | assumption)), (by repeat (first | exact hs_eq _ _ _ | refine hs_ne (by omega) ?_ | assumption)), (by repeat (first | exact hs_eq _ _ _ | refine hs_ne (by omega) ?_ | assumption)), (by repeat (first | exact hs_eq _ _ _ | refine hs_ne (by omega) ?_ | assumption)), (by repeat (first | exact hs_eq _ _ _ | refine hs_ne (by omega) ?_ | assumption)), (by repeat (first | exact hs_eq _ _ _ | refine hs_ne (by omega) ?_ | assumption))⟩, Fr.tr (Fr.tr (fun aaa haa => by repeat (first | rfl | refine hs_ne (by omega) ?_)) hF1) (fun aaa haa => by repeat (first | rfl | refine hs_ne (by omega) ?_))⟩
                    | exact Or.inr (Or.inl ⟨by omega, rfl, ⟨(by repeat (first | exact hs_eq _ _ _ | refine hs_ne (by omega) ?_ | assumption)), (by repeat (first | exact hs_eq _ _ _ | refine hs_ne (by omega) ?_ | assumption)), (by repeat (first | exact hs_eq _ _ _ | refine hs_ne (by omega) ?_ | assumption)), (by repeat (first | exact hs_eq _ _ _ | refine hs_ne (by omega) ?_ | assumption)), (by repeat (first | exact hs_eq _ _ _ | refine hs_ne (by omega) ?_ | assumption)), (by repeat (first | exact hs_eq _ _ _ | refine hs_ne (by omega) ?_ | assumption))⟩, fun aaa haa => by repeat (first | rfl | refine hs_ne (by omega) ?_)⟩)
                    | exact Or.inr (Or.inr (⟨by omega, rfl, ⟨(by repeat (first | exact hs_eq _ _ _ | refine hs_ne (by omega) ?_ | assumption)), (by repeat (first | exact hs_eq _ _ _ | refine hs_ne (by omega) ?_ | assumption)), (by repeat (first | exact hs_eq _ _ _ | refine hs_ne (by omega) ?_ | assumption)), (by repeat (first | exact hs_eq _ _ _ | refine hs_ne (by omega) ?_ | assumption)), (by repeat (first | exact hs_eq _ _ _ | refine hs_ne (by omega) ?_ | assumption)), (by repeat (first | exact hs_eq _ _ _ | refine hs_ne (by omega) ?_ | assumption))⟩, fun aaa haa => by repeat (first | rfl | refine hs_ne (by omega) ?_)⟩))))
          · try (exfalso; omega)
            all_goals (
              refine k_iconst C dX8_wind_19 ?_
              refine k_goto (tgt := 24) C dX8_wind_20 (by decide) ?_
              refine k_put C (k := 5) inX8 tyX8_ok nmX8 (ci := 8) rfl (by decide) fl_X8_25 rfl (Nat.le_of_ble_eq_true rfl) dX8_wind_24 (by repeat (first | exact hs_eq _ _ _ | refine hs_ne (by omega) ?_ | assumption)) ?_
              refine k_aload_n C dX8_wind_27 rfl ?_
              refine k_get C (k := 5) inX8 (ci := 8) rfl (by decide) fl_X8_25 dX8_wind_28 (by repeat (first | exact hs_eq _ _ _ | refine hs_ne (by omega) ?_ | assumption)) rfl ?_
              refine k_if_le (tgt := 36) C dX8_wind_31 (by decide) ⟨by omega, by omega⟩ (fun c31 => ?_) (fun c31 => ?_)
              · try (exfalso; omega)
                all_goals (
                  refine k_aload_n C dX8_wind_36 rfl ?_
                  refine k_callV C (n := 0) (as := []) (ct_X8_save l D tc base oo zrr hhi htx has hro st ln (0) re du hsh _ ⟨(by repeat (first | exact hs_eq _ _ _ | refine hs_ne (by omega) ?_ | assumption)), (by repeat (first | exact hs_eq _ _ _ | refine hs_ne (by omega) ?_ | assumption)), (by repeat (first | exact hs_eq _ _ _ | refine hs_ne (by omega) ?_ | assumption)), (by repeat (first | exact hs_eq _ _ _ | refine hs_ne (by omega) ?_ | assumption)), (by repeat (first | exact hs_eq _ _ _ | refine hs_ne (by omega) ?_ | assumption)), (by repeat (first | exact hs_eq _ _ _ | refine hs_ne (by omega) ?_ | assumption))⟩ hst) ml_X8_102 im_X8_save se_X8_save ini_X8 co_X8_save ⟨rfl, by decide, by decide, by decide +kernel⟩ rfl (ci := 8) rfl (by repeat (first | exact hs_eq _ _ _ | refine hs_ne (by omega) ?_ | assumption)) ⟨by decide, by decide⟩ rfl (Nat.le_of_ble_eq_true rfl) ⟨Nat.zero_le _, Nat.zero_le _⟩ dX8_wind_37 ?_
                  rintro _ _ ⟨rfl, hM1, hF1⟩
                  obtain ⟨k0, k1, k2, k3, k4, k5⟩ := id hM1
                  refine k_aload_n C dX8_wind_40 rfl ?_
                  refine k_iload_n C dX8_wind_41 rfl ?_
                  refine k_iload_n C dX8_wind_42 rfl ?_
                  refine k_callV C (n := 2) (as := [_, _]) (ct_X8_winds l D tc base oo (oo + 1) _ _ _ (by repeat (first | exact hs_eq _ _ _ | refine hs_ne (by omega) ?_ | assumption)) (by repeat (first | exact hs_eq _ _ _ | refine hs_ne (by omega) ?_ | assumption)) (by omega) _ _ (by omega) (by omega) hi (by omega) (by omega)) ml_X8_54 im_X8_winds se_X8_winds ini_X8 co_X8_winds ⟨rfl, by decide, by decide, by decide +kernel⟩ rfl (ci := 8) rfl (by repeat (first | exact hs_eq _ _ _ | refine hs_ne (by omega) ?_ | assumption)) ⟨by decide, by decide⟩ rfl (Nat.le_of_ble_eq_true rfl) ⟨Nat.zero_le _, Nat.zero_le _⟩ dX8_wind_43 ?_
                  rintro _ _ ⟨rfl, rfl⟩
                  refine k_iret C hr dX8_wind_46 ?_
                  first
                    | exact Or.inl ⟨by omega, rfl, ⟨(by repeat (first | exact hs_eq _ _ _ | refine hs_ne (by omega) ?_ | assumption)), (by repeat (first | exact hs_eq _ _ _ | refine hs_ne (by omega) ?_ | assumption)), (by repeat (first | exact hs_eq _ _ _ | refine hs_ne (by omega) ?_ | assumption)), (by repeat (first | exact hs_eq _ _ _ | refine hs_ne (by omega) ?_ | assumption)), (by repeat (first | exact hs_eq _ _ _ | refine hs_ne (by omega) ?_ | assumption)), (by repeat (first | exact hs_eq _ _ _ | refine hs_ne (by omega) ?_ | assumption))⟩, Fr.tr (Fr.tr (fun aaa haa => by repeat (first | rfl | refine hs_ne (by omega) ?_)) hF1) (fun aaa haa => by repeat (first | rfl | refine hs_ne (by omega) ?_))⟩
                    | exact Or.inr (Or.inl ⟨by omega, rfl, ⟨(by repeat (first | exact hs_eq _ _ _ | refine hs_ne (by omega) ?_ | assumption)), (by repeat (first | exact hs_eq _ _ _ | refine hs_ne (by omega) ?_ | assumption)), (by repeat (first | exact hs_eq _ _ _ | refine hs_ne (by omega) ?_ | assumption)), (by repeat (first | exact hs_eq _ _ _ | refine hs_ne (by omega) ?_ | assumption)), (by repeat (first | exact hs_eq _ _ _ | refine hs_ne (by omega) ?_ | assumption)), (by repeat (first | exact hs_eq _ _ _ | refine hs_ne (by omega) ?_ | assumption))⟩, fun aaa haa => by repeat (first | rfl | refine hs_ne (by omega) ?_)⟩)
                    | exact Or.inr (Or.inr (⟨by omega, rfl, ⟨(by repeat (first | exact hs_eq _ _ _ | refine hs_ne (by omega) ?_ | assumption)), (by repeat (first | exact hs_eq _ _ _ | refine hs_ne (by omega) ?_ | assumption)), (by repeat (first | exact hs_eq _ _ _ | refine hs_ne (by omega) ?_ | assumption)), (by repeat (first | exact hs_eq _ _ _ | refine hs_ne (by omega) ?_ | assumption)), (by repeat (first | exact hs_eq _ _ _ | refine hs_ne (by omega) ?_ | assumption)), (by repeat (first | exact hs_eq _ _ _ | refine hs_ne (by omega) ?_ | assumption))⟩, fun aaa haa => by repeat (first | rfl | refine hs_ne (by omega) ?_)⟩)))
              · try (exfalso; omega)
                all_goals (
                  refine k_iconst C dX8_wind_34 ?_
                  refine k_iret C hr dX8_wind_35 ?_
                  first
                    | exact Or.inl ⟨by omega, rfl, ⟨(by repeat (first | exact hs_eq _ _ _ | refine hs_ne (by omega) ?_ | assumption)), (by repeat (first | exact hs_eq _ _ _ | refine hs_ne (by omega) ?_ | assumption)), (by repeat (first | exact hs_eq _ _ _ | refine hs_ne (by omega) ?_ | assumption)), (by repeat (first | exact hs_eq _ _ _ | refine hs_ne (by omega) ?_ | assumption)), (by repeat (first | exact hs_eq _ _ _ | refine hs_ne (by omega) ?_ | assumption)), (by repeat (first | exact hs_eq _ _ _ | refine hs_ne (by omega) ?_ | assumption))⟩, Fr.tr (Fr.tr (fun aaa haa => by repeat (first | rfl | refine hs_ne (by omega) ?_)) hF1) (fun aaa haa => by repeat (first | rfl | refine hs_ne (by omega) ?_))⟩
                    | exact Or.inr (Or.inl ⟨by omega, rfl, ⟨(by repeat (first | exact hs_eq _ _ _ | refine hs_ne (by omega) ?_ | assumption)), (by repeat (first | exact hs_eq _ _ _ | refine hs_ne (by omega) ?_ | assumption)), (by repeat (first | exact hs_eq _ _ _ | refine hs_ne (by omega) ?_ | assumption)), (by repeat (first | exact hs_eq _ _ _ | refine hs_ne (by omega) ?_ | assumption)), (by repeat (first | exact hs_eq _ _ _ | refine hs_ne (by omega) ?_ | assumption)), (by repeat (first | exact hs_eq _ _ _ | refine hs_ne (by omega) ?_ | assumption))⟩, fun aaa haa => by repeat (first | rfl | refine hs_ne (by omega) ?_)⟩)
                    | exact Or.inr (Or.inr (⟨by omega, rfl, ⟨(by repeat (first | exact hs_eq _ _ _ | refine hs_ne (by omega) ?_ | assumption)), (by repeat (first | exact hs_eq _ _ _ | refine hs_ne (by omega) ?_ | assumption)), (by repeat (first | exact hs_eq _ _ _ | refine hs_ne (by omega) ?_ | assumption)), (by repeat (first | exact hs_eq _ _ _ | refine hs_ne (by omega) ?_ | assumption)), (by repeat (first | exact hs_eq _ _ _ | refine hs_ne (by omega) ?_ | assumption)), (by repeat (first | exact hs_eq _ _ _ | refine hs_ne (by omega) ?_ | assumption))⟩, fun aaa haa => by repeat (first | rfl | refine hs_ne (by omega) ?_)⟩))))
        · skip
          refine k_if_eq (tgt := 23) C dX8_wind_16 (by decide) ⟨by omega, by omega⟩ (fun c16 => ?_) (fun c16 => ?_)
          · try (exfalso; omega)
            all_goals (
              refine k_iconst C dX8_wind_23 ?_
              refine k_put C (k := 5) inX8 tyX8_ok nmX8 (ci := 8) rfl (by decide) fl_X8_25 rfl (Nat.le_of_ble_eq_true rfl) dX8_wind_24 (by repeat (first | exact hs_eq _ _ _ | refine hs_ne (by omega) ?_ | assumption)) ?_
              refine k_aload_n C dX8_wind_27 rfl ?_
              refine k_get C (k := 5) inX8 (ci := 8) rfl (by decide) fl_X8_25 dX8_wind_28 (by repeat (first | exact hs_eq _ _ _ | refine hs_ne (by omega) ?_ | assumption)) rfl ?_
              refine k_if_le (tgt := 36) C dX8_wind_31 (by decide) ⟨by omega, by omega⟩ (fun c31 => ?_) (fun c31 => ?_)
              · try (exfalso; omega)
                all_goals (
                  refine k_aload_n C dX8_wind_36 rfl ?_
                  refine k_callV C (n := 0) (as := []) (ct_X8_save l D tc base oo zrr hhi htx has hro st ln (0) re du hsh _ ⟨(by repeat (first | exact hs_eq _ _ _ | refine hs_ne (by omega) ?_ | assumption)), (by repeat (first | exact hs_eq _ _ _ | refine hs_ne (by omega) ?_ | assumption)), (by repeat (first | exact hs_eq _ _ _ | refine hs_ne (by omega) ?_ | assumption)), (by repeat (first | exact hs_eq _ _ _ | refine hs_ne (by omega) ?_ | assumption)), (by repeat (first | exact hs_eq _ _ _ | refine hs_ne (by omega) ?_ | assumption)), (by repeat (first | exact hs_eq _ _ _ | refine hs_ne (by omega) ?_ | assumption))⟩ hst) ml_X8_102 im_X8_save se_X8_save ini_X8 co_X8_save ⟨rfl, by decide, by decide, by decide +kernel⟩ rfl (ci := 8) rfl (by repeat (first | exact hs_eq _ _ _ | refine hs_ne (by omega) ?_ | assumption)) ⟨by decide, by decide⟩ rfl (Nat.le_of_ble_eq_true rfl) ⟨Nat.zero_le _, Nat.zero_le _⟩ dX8_wind_37 ?_
                  rintro _ _ ⟨rfl, hM1, hF1⟩
                  obtain ⟨k0, k1, k2, k3, k4, k5⟩ := id hM1
                  refine k_aload_n C dX8_wind_40 rfl ?_
                  refine k_iload_n C dX8_wind_41 rfl ?_
                  refine k_iload_n C dX8_wind_42 rfl ?_
                  refine k_callV C (n := 2) (as := [_, _]) (ct_X8_winds l D tc base oo (oo + 1) _ _ _ (by repeat (first | exact hs_eq _ _ _ | refine hs_ne (by omega) ?_ | assumption)) (by repeat (first | exact hs_eq _ _ _ | refine hs_ne (by omega) ?_ | assumption)) (by omega) _ _ (by omega) (by omega) hi (by omega) (by omega)) ml_X8_54 im_X8_winds se_X8_winds ini_X8 co_X8_winds ⟨rfl, by decide, by decide, by decide +kernel⟩ rfl (ci := 8) rfl (by repeat (first | exact hs_eq _ _ _ | refine hs_ne (by omega) ?_ | assumption)) ⟨by decide, by decide⟩ rfl (Nat.le_of_ble_eq_true rfl) ⟨Nat.zero_le _, Nat.zero_le _⟩ dX8_wind_43 ?_
                  rintro _ _ ⟨rfl, rfl⟩
                  refine k_iret C hr dX8_wind_46 ?_
                  first
                    | exact Or.inl ⟨by omega, rfl, ⟨(by repeat (first | exact hs_eq _ _ _ | refine hs_ne (by omega) ?_ | assumption)), (by repeat (first | exact hs_eq _ _ _ | refine hs_ne (by omega) ?_ | assumption)), (by repeat (first | exact hs_eq _ _ _ | refine hs_ne (by omega) ?_ | assumption)), (by repeat (first | exact hs_eq _ _ _ | refine hs_ne (by omega) ?_ | assumption)), (by repeat (first | exact hs_eq _ _ _ | refine hs_ne (by omega) ?_ | assumption)), (by repeat (first | exact hs_eq _ _ _ | refine hs_ne (by omega) ?_ | assumption))⟩, Fr.tr (Fr.tr (fun aaa haa => by repeat (first | rfl | refine hs_ne (by omega) ?_)) hF1) (fun aaa haa => by repeat (first | rfl | refine hs_ne (by omega) ?_))⟩
                    | exact Or.inr (Or.inl ⟨by omega, rfl, ⟨(by repeat (first | exact hs_eq _ _ _ | refine hs_ne (by omega) ?_ | assumption)), (by repeat (first | exact hs_eq _ _ _ | refine hs_ne (by omega) ?_ | assumption)), (by repeat (first | exact hs_eq _ _ _ | refine hs_ne (by omega) ?_ | assumption)), (by repeat (first | exact hs_eq _ _ _ | refine hs_ne (by omega) ?_ | assumption)), (by repeat (first | exact hs_eq _ _ _ | refine hs_ne (by omega) ?_ | assumption)), (by repeat (first | exact hs_eq _ _ _ | refine hs_ne (by omega) ?_ | assumption))⟩, fun aaa haa => by repeat (first | rfl | refine hs_ne (by omega) ?_)⟩)
                    | exact Or.inr (Or.inr (⟨by omega, rfl, ⟨(by repeat (first | exact hs_eq _ _ _ | refine hs_ne (by omega) ?_ | assumption)), (by repeat (first | exact hs_eq _ _ _ | refine hs_ne (by omega) ?_ | assumption)), (by repeat (first | exact hs_eq _ _ _ | refine hs_ne (by omega) ?_ | assumption)), (by repeat (first | exact hs_eq _ _ _ | refine hs_ne (by omega) ?_ | assumption)), (by repeat (first | exact hs_eq _ _ _ | refine hs_ne (by omega) ?_ | assumption)), (by repeat (first | exact hs_eq _ _ _ | refine hs_ne (by omega) ?_ | assumption))⟩, fun aaa haa => by repeat (first | rfl | refine hs_ne (by omega) ?_)⟩)))
              · try (exfalso; omega)
                all_goals (
                  refine k_iconst C dX8_wind_34 ?_
                  refine k_iret C hr dX8_wind_35 ?_
                  first
                    | exact Or.inl ⟨by omega, rfl, ⟨(by repeat (first | exact hs_eq _ _ _ | refine hs_ne (by omega) ?_ | assumption)), (by repeat (first | exact hs_eq _ _ _ | refine hs_ne (by omega) ?_ | assumption)), (by repeat (first | exact hs_eq _ _ _ | refine hs_ne (by omega) ?_ | assumption)), (by repeat (first | exact hs_eq _ _ _ | refine hs_ne (by omega) ?_ | assumption)), (by repeat (first | exact hs_eq _ _ _ | refine hs_ne (by omega) ?_ | assumption)), (by repeat (first | exact hs_eq _ _ _ | refine hs_ne (by omega) ?_ | assumption))⟩, Fr.tr (Fr.tr (fun aaa haa => by repeat (first | rfl | refine hs_ne (by omega) ?_)) hF1) (fun aaa haa => by repeat (first | rfl | refine hs_ne (by omega) ?_))⟩
                    | exact Or.inr (Or.inl ⟨by omega, rfl, ⟨(by repeat (first | exact hs_eq _ _ _ | refine hs_ne (by omega) ?_ | assumption)), (by repeat (first | exact hs_eq _ _ _ | refine hs_ne (by omega) ?_ | assumption)), (by repeat (first | exact hs_eq _ _ _ | refine hs_ne (by omega) ?_ | assumption)), (by repeat (first | exact hs_eq _ _ _ | refine hs_ne (by omega) ?_ | assumption)), (by repeat (first | exact hs_eq _ _ _ | refine hs_ne (by omega) ?_ | assumption)), (by repeat (first | exact hs_eq _ _ _ | refine hs_ne (by omega) ?_ | assumption))⟩, fun aaa haa => by repeat (first | rfl | refine hs_ne (by omega) ?_)⟩)
                    | exact Or.inr (Or.inr (⟨by omega, rfl, ⟨(by repeat (first | exact hs_eq _ _ _ | refine hs_ne (by omega) ?_ | assumption)), (by repeat (first | exact hs_eq _ _ _ | refine hs_ne (by omega) ?_ | assumption)), (by repeat (first | exact hs_eq _ _ _ | refine hs_ne (by omega) ?_ | assumption)), (by repeat (first | exact hs_eq _ _ _ | refine hs_ne (by omega) ?_ | assumption)), (by repeat (first | exact hs_eq _ _ _ | refine hs_ne (by omega) ?_ | assumption)), (by repeat (first | exact hs_eq _ _ _ | refine hs_ne (by omega) ?_ | assumption))⟩, fun aaa haa => by repeat (first | rfl | refine hs_ne (by omega) ?_)⟩))))
          · try (exfalso; omega)
            all_goals (
              refine k_iconst C dX8_wind_19 ?_
              refine k_goto (tgt := 24) C dX8_wind_20 (by decide) ?_
              refine k_put C (k := 5) inX8 tyX8_ok nmX8 (ci := 8) rfl (by decide) fl_X8_25 rfl (Nat.le_of_ble_eq_true rfl) dX8_wind_24 (by repeat (first | exact hs_eq _ _ _ | refine hs_ne (by omega) ?_ | assumption)) ?_
              refine k_aload_n C dX8_wind_27 rfl ?_
              refine k_get C (k := 5) inX8 (ci := 8) rfl (by decide) fl_X8_25 dX8_wind_28 (by repeat (first | exact hs_eq _ _ _ | refine hs_ne (by omega) ?_ | assumption)) rfl ?_
              refine k_if_le (tgt := 36) C dX8_wind_31 (by decide) ⟨by omega, by omega⟩ (fun c31 => ?_) (fun c31 => ?_)
              · try (exfalso; omega)
                all_goals (
                  refine k_aload_n C dX8_wind_36 rfl ?_
                  refine k_callV C (n := 0) (as := []) (ct_X8_save l D tc base oo zrr hhi htx has hro st ln (0) re du hsh _ ⟨(by repeat (first | exact hs_eq _ _ _ | refine hs_ne (by omega) ?_ | assumption)), (by repeat (first | exact hs_eq _ _ _ | refine hs_ne (by omega) ?_ | assumption)), (by repeat (first | exact hs_eq _ _ _ | refine hs_ne (by omega) ?_ | assumption)), (by repeat (first | exact hs_eq _ _ _ | refine hs_ne (by omega) ?_ | assumption)), (by repeat (first | exact hs_eq _ _ _ | refine hs_ne (by omega) ?_ | assumption)), (by repeat (first | exact hs_eq _ _ _ | refine hs_ne (by omega) ?_ | assumption))⟩ hst) ml_X8_102 im_X8_save se_X8_save ini_X8 co_X8_save ⟨rfl, by decide, by decide, by decide +kernel⟩ rfl (ci := 8) rfl (by repeat (first | exact hs_eq _ _ _ | refine hs_ne (by omega) ?_ | assumption)) ⟨by decide, by decide⟩ rfl (Nat.le_of_ble_eq_true rfl) ⟨Nat.zero_le _, Nat.zero_le _⟩ dX8_wind_37 ?_
                  rintro _ _ ⟨rfl, hM1, hF1⟩
                  obtain ⟨k0, k1, k2, k3, k4, k5⟩ := id hM1
                  refine k_aload_n C dX8_wind_40 rfl ?_
                  refine k_iload_n C dX8_wind_41 rfl ?_
                  refine k_iload_n C dX8_wind_42 rfl ?_
                  refine k_callV C (n := 2) (as := [_, _]) (ct_X8_winds l D tc base oo (oo + 1) _ _ _ (by repeat (first | exact hs_eq _ _ _ | refine hs_ne (by omega) ?_ | assumption)) (by repeat (first | exact hs_eq _ _ _ | refine hs_ne (by omega) ?_ | assumption)) (by omega) _ _ (by omega) (by omega) hi (by omega) (by omega)) ml_X8_54 im_X8_winds se_X8_winds ini_X8 co_X8_winds ⟨rfl, by decide, by decide, by decide +kernel⟩ rfl (ci := 8) rfl (by repeat (first | exact hs_eq _ _ _ | refine hs_ne (by omega) ?_ | assumption)) ⟨by decide, by decide⟩ rfl (Nat.le_of_ble_eq_true rfl) ⟨Nat.zero_le _, Nat.zero_le _⟩ dX8_wind_43 ?_
                  rintro _ _ ⟨rfl, rfl⟩
                  refine k_iret C hr dX8_wind_46 ?_
                  first
                    | exact Or.inl ⟨by omega, rfl, ⟨(by repeat (first | exact hs_eq _ _ _ | refine hs_ne (by omega) ?_ | assumption)), (by repeat (first | exact hs_eq _ _ _ | refine hs_ne (by omega) ?_ | assumption)), (by repeat (first | exact hs_eq _ _ _ | refine hs_ne (by omega) ?_ | assumption)), (by repeat (first | exact hs_eq _ _ _ | refine hs_ne (by omega) ?_ | assumption)), (by repeat (first | exact hs_eq _ _ _ | refine hs_ne (by omega) ?_ | assumption)), (by repeat (first | exact hs_eq _ _ _ | refine hs_ne (by omega) ?_ | assumption))⟩, Fr.tr (Fr.tr (fun aaa haa => by repeat (first | rfl | refine hs_ne (by omega) ?_)) hF1) (fun aaa haa => by repeat (first | rfl | refine hs_ne (by omega) ?_))⟩
                    | exact Or.inr (Or.inl ⟨by omega, rfl, ⟨(by repeat (first | exact hs_eq _ _ _ | refine hs_ne (by omega) ?_ | assumption)), (by repeat (first | exact hs_eq _ _ _ | refine hs_ne (by omega) ?_ | assumption)), (by repeat (first | exact hs_eq _ _ _ | refine hs_ne (by omega) ?_ | assumption)), (by repeat (first | exact hs_eq _ _ _ | refine hs_ne (by omega) ?_ | assumption)), (by repeat (first | exact hs_eq _ _ _ | refine hs_ne (by omega) ?_ | assumption)), (by repeat (first | exact hs_eq _ _ _ | refine hs_ne (by omega) ?_ | assumption))⟩, fun aaa haa => by repeat (first | rfl | refine hs_ne (by omega) ?_)⟩)
                    | exact Or.inr (Or.inr (⟨by omega, rfl, ⟨(by repeat (first | exact hs_eq _ _ _ | refine hs_ne (by omega) ?_ | assumption)), (by repeat (first | exact hs_eq _ _ _ | refine hs_ne (by omega) ?_ | assumption)), (by repeat (first | exact hs_eq _ _ _ | refine hs_ne (by omega) ?_ | assumption)), (by repeat (first | exact hs_eq _ _ _ | refine hs_ne (by omega) ?_ | assumption)), (by repeat (first | exact hs_eq _ _ _ | refine hs_ne (by omega) ?_ | assumption)), (by repeat (first | exact hs_eq _ _ _ | refine hs_ne (by omega) ?_ | assumption))⟩, fun aaa haa => by repeat (first | rfl | refine hs_ne (by omega) ?_)⟩)))
              · try (exfalso; omega)
                all_goals (
                  refine k_iconst C dX8_wind_34 ?_
                  refine k_iret C hr dX8_wind_35 ?_
                  first
                    | exact Or.inl ⟨by omega, rfl, ⟨(by repeat (first | exact hs_eq _ _ _ | refine hs_ne (by omega) ?_ | assumption)), (by repeat (first | exact hs_eq _ _ _ | refine hs_ne (by omega) ?_ | assumption)), (by repeat (first | exact hs_eq _ _ _ | refine hs_ne (by omega) ?_ | assumption)), (by repeat (first | exact hs_eq _ _ _ | refine hs_ne (by omega) ?_ | assumption)), (by repeat (first | exact hs_eq _ _ _ | refine hs_ne (by omega) ?_ | assumption)), (by repeat (first | exact hs_eq _ _ _ | refine hs_ne (by omega) ?_ | assumption))⟩, Fr.tr (Fr.tr (fun aaa haa => by repeat (first | rfl | refine hs_ne (by omega) ?_)) hF1) (fun aaa haa => by repeat (first | rfl | refine hs_ne (by omega) ?_))⟩
                    | exact Or.inr (Or.inl ⟨by omega, rfl, ⟨(by repeat (first | exact hs_eq _ _ _ | refine hs_ne (by omega) ?_ | assumption)), (by repeat (first | exact hs_eq _ _ _ | refine hs_ne (by omega) ?_ | assumption)), (by repeat (first | exact hs_eq _ _ _ | refine hs_ne (by omega) ?_ | assumption)), (by repeat (first | exact hs_eq _ _ _ | refine hs_ne (by omega) ?_ | assumption)), (by repeat (first | exact hs_eq _ _ _ | refine hs_ne (by omega) ?_ | assumption)), (by repeat (first | exact hs_eq _ _ _ | refine hs_ne (by omega) ?_ | assumption))⟩, fun aaa haa => by repeat (first | rfl | refine hs_ne (by omega) ?_)⟩)
                    | exact Or.inr (Or.inr (⟨by omega, rfl, ⟨(by repeat (first | exact hs_eq _ _ _ | refine hs_ne (by omega) ?_ | assumption)), (by repeat (first | exact hs_eq _ _ _ | refine hs_ne (by omega) ?_ | assumption)), (by repeat (first | exact hs_eq _ _ _ | refine hs_ne (by omega) ?_ | assumption)), (by repeat (first | exact hs_eq _ _ _ | refine hs_ne (by omega) ?_ | assumption)), (by repeat (first | exact hs_eq _ _ _ | refine hs_ne (by omega) ?_ | assumption)), (by repeat (first | exact hs_eq _ _ _ | refine hs_ne (by omega) ?_ | assumption))⟩, fun aaa haa => by repeat (first | rfl | refine hs_ne (by omega) ?_)⟩)))))
    · try (exfalso; omega)
      all_goals (
        refine k_iconst C dX8_wind_8 ?_
        refine k_goto (tgt := 24) C dX8_wind_9 (by decide) ?_
        refine k_put C (k := 5) inX8 tyX8_ok nmX8 (ci := 8) rfl (by decide) fl_X8_25 rfl (Nat.le_of_ble_eq_true rfl) dX8_wind_24 (by repeat (first | exact hs_eq _ _ _ | refine hs_ne (by omega) ?_ | assumption)) ?_
        refine k_aload_n C dX8_wind_27 rfl ?_
        refine k_get C (k := 5) inX8 (ci := 8) rfl (by decide) fl_X8_25 dX8_wind_28 (by repeat (first | exact hs_eq _ _ _ | refine hs_ne (by omega) ?_ | assumption)) rfl ?_
        refine k_if_le (tgt := 36) C dX8_wind_31 (by decide) ⟨by omega, by omega⟩ (fun c31 => ?_) (fun c31 => ?_)
        · try (exfalso; omega)
          all_goals (
            refine k_aload_n C dX8_wind_36 rfl ?_
            refine k_callV C (n := 0) (as := []) (ct_X8_save l D tc base oo zrr hhi htx has hro st ln (0) re du hsh _ ⟨(by repeat (first | exact hs_eq _ _ _ | refine hs_ne (by omega) ?_ | assumption)), (by repeat (first | exact hs_eq _ _ _ | refine hs_ne (by omega) ?_ | assumption)), (by repeat (first | exact hs_eq _ _ _ | refine hs_ne (by omega) ?_ | assumption)), (by repeat (first | exact hs_eq _ _ _ | refine hs_ne (by omega) ?_ | assumption)), (by repeat (first | exact hs_eq _ _ _ | refine hs_ne (by omega) ?_ | assumption)), (by repeat (first | exact hs_eq _ _ _ | refine hs_ne (by omega) ?_ | assumption))⟩ hst) ml_X8_102 im_X8_save se_X8_save ini_X8 co_X8_save ⟨rfl, by decide, by decide, by decide +kernel⟩ rfl (ci := 8) rfl (by repeat (first | exact hs_eq _ _ _ | refine hs_ne (by omega) ?_ | assumption)) ⟨by decide, by decide⟩ rfl (Nat.le_of_ble_eq_true rfl) ⟨Nat.zero_le _, Nat.zero_le _⟩ dX8_wind_37 ?_
            rintro _ _ ⟨rfl, hM1, hF1⟩
            obtain ⟨k0, k1, k2, k3, k4, k5⟩ := id hM1
            refine k_aload_n C dX8_wind_40 rfl ?_
            refine k_iload_n C dX8_wind_41 rfl ?_
            refine k_iload_n C dX8_wind_42 rfl ?_
            refine k_callV C (n := 2) (as := [_, _]) (ct_X8_winds l D tc base oo (oo + 1) _ _ _ (by repeat (first | exact hs_eq _ _ _ | refine hs_ne (by omega) ?_ | assumption)) (by repeat (first | exact hs_eq _ _ _ | refine hs_ne (by omega) ?_ | assumption)) (by omega) _ _ (by omega) (by omega) hi (by omega) (by omega)) ml_X8_54 im_X8_winds se_X8_winds ini_X8 co_X8_winds ⟨rfl, by decide, by decide, by decide +kernel⟩ rfl (ci := 8) rfl (by repeat (first | exact hs_eq _ _ _ | refine hs_ne (by omega) ?_ | assumption)) ⟨by decide, by decide⟩ rfl (Nat.le_of_ble_eq_true rfl) ⟨Nat.zero_le _, Nat.zero_le _⟩ dX8_wind_43 ?_
            rintro _ _ ⟨rfl, rfl⟩
            refine k_iret C hr dX8_wind_46 ?_
            first
              | exact Or.inl ⟨by omega, rfl, ⟨(by repeat (first | exact hs_eq _ _ _ | refine hs_ne (by omega) ?_ | assumption)), (by repeat (first | exact hs_eq _ _ _ | refine hs_ne (by omega) ?_ | assumption)), (by repeat (first | exact hs_eq _ _ _ | refine hs_ne (by omega) ?_ | assumption)), (by repeat (first | exact hs_eq _ _ _ | refine hs_ne (by omega) ?_ | assumption)), (by repeat (first | exact hs_eq _ _ _ | refine hs_ne (by omega) ?_ | assumption)), (by repeat (first | exact hs_eq _ _ _ | refine hs_ne (by omega) ?_ | assumption))⟩, Fr.tr (Fr.tr (fun aaa haa => by repeat (first | rfl | refine hs_ne (by omega) ?_)) hF1) (fun aaa haa => by repeat (first | rfl | refine hs_ne (by omega) ?_))⟩
              | exact Or.inr (Or.inl ⟨by omega, rfl, ⟨(by repeat (first | exact hs_eq _ _ _ | refine hs_ne (by omega) ?_ | assumption)), (by repeat (first | exact hs_eq _ _ _ | refine hs_ne (by omega) ?_ | assumption)), (by repeat (first | exact hs_eq _ _ _ | refine hs_ne (by omega) ?_ | assumption)), (by repeat (first | exact hs_eq _ _ _ | refine hs_ne (by omega) ?_ | assumption)), (by repeat (first | exact hs_eq _ _ _ | refine hs_ne (by omega) ?_ | assumption)), (by repeat (first | exact hs_eq _ _ _ | refine hs_ne (by omega) ?_ | assumption))⟩, fun aaa haa => by repeat (first | rfl | refine hs_ne (by omega) ?_)⟩)
              | exact Or.inr (Or.inr (⟨by omega, rfl, ⟨(by repeat (first | exact hs_eq _ _ _ | refine hs_ne (by omega) ?_ | assumption)), (by repeat (first | exact hs_eq _ _ _ | refine hs_ne (by omega) ?_ | assumption)), (by repeat (first | exact hs_eq _ _ _ | refine hs_ne (by omega) ?_ | assumption)), (by repeat (first | exact hs_eq _ _ _ | refine hs_ne (by omega) ?_ | assumption)), (by repeat (first | exact hs_eq _ _ _ | refine hs_ne (by omega) ?_ | assumption)), (by repeat (first | exact hs_eq _ _ _ | refine hs_ne (by omega) ?_ | assumption))⟩, fun aaa haa => by repeat (first | rfl | refine hs_ne (by omega) ?_)⟩)))
        · try (exfalso; omega)
          all_goals (
            refine k_iconst C dX8_wind_34 ?_
            refine k_iret C hr dX8_wind_35 ?_
            first
              | exact Or.inl ⟨by omega, rfl, ⟨(by repeat (first | exact hs_eq _ _ _ | refine hs_ne (by omega) ?_ | assumption)), (by repeat (first | exact hs_eq _ _ _ | refine hs_ne (by omega) ?_ | assumption)), (by repeat (first | exact hs_eq _ _ _ | refine hs_ne (by omega) ?_ | assumption)), (by repeat (first | exact hs_eq _ _ _ | refine hs_ne (by omega) ?_ | assumption)), (by repeat (first | exact hs_eq _ _ _ | refine hs_ne (by omega) ?_ | assumption)), (by repeat (first | exact hs_eq _ _ _ | refine hs_ne (by omega) ?_ | assumption))⟩, Fr.tr (Fr.tr (fun aaa haa => by repeat (first | rfl | refine hs_ne (by omega) ?_)) hF1) (fun aaa haa => by repeat (first | rfl | refine hs_ne (by omega) ?_))⟩
              | exact Or.inr (Or.inl ⟨by omega, rfl, ⟨(by repeat (first | exact hs_eq _ _ _ | refine hs_ne (by omega) ?_ | assumption)), (by repeat (first | exact hs_eq _ _ _ | refine hs_ne (by omega) ?_ | assumption)), (by repeat (first | exact hs_eq _ _ _ | refine hs_ne (by omega) ?_ | assumption)), (by repeat (first | exact hs_eq _ _ _ | refine hs_ne (by omega) ?_ | assumption)), (by repeat (first | exact hs_eq _ _ _ | refine hs_ne (by omega) ?_ | assumption)), (by repeat (first | exact hs_eq _ _ _ | refine hs_ne (by omega) ?_ | assumption))⟩, fun aaa haa => by repeat (first | rfl | refine hs_ne (by omega) ?_)⟩)
              | exact Or.inr (Or.inr (⟨by omega, rfl, ⟨(by repeat (first | exact hs_eq _ _ _ | refine hs_ne (by omega) ?_ | assumption)), (by repeat (first | exact hs_eq _ _ _ | refine hs_ne (by omega) ?_ | assumption)), (by repeat (first | exact hs_eq _ _ _ | refine hs_ne (by omega) ?_ | assumption)), (by repeat (first | exact hs_eq _ _ _ | refine hs_ne (by omega) ?_ | assumption)), (by repeat (first | exact hs_eq _ _ _ | refine hs_ne (by omega) ?_ | assumption)), (by repeat (first | exact hs_eq _ _ _ | refine hs_ne (by omega) ?_ | assumption))⟩, fun aaa haa => by repeat (first | rfl | refine hs_ne (by omega) ?_)⟩))))

set_option maxRecDepth 20000 in
set_option maxHeartbeats 1000000 in
theorem ct_X8_setSnow (l : Launch) (D : va_G) (tc : Nat → ClassId) (base : Nat) (oo : Nat) (zrr hhi htx has hro : Int → Int) (st ln th re du hsh : Int) (hpp : AH) (hM : MA hpp oo zrr hhi htx has hro st ln th re du hsh) (ww : Int) (hw : r32 ww) (hi : zInv zrr) (hst : 0 ≤ st ∧ st ≤ 6) : CT l D tc base yX8_setSnow cX8_setSnow 3 (some .int) 1 [aR oo, aI ww] hpp (fun r h' => ((0 ≤ ww ∧ ww ≤ 20) ∧ r = some (aI (zrr 11)) ∧ MA h' oo (iu zrr 11 ww) (sHi zrr hhi st) (htx) (has) (hro) (sSt st) (ln) (0) (re) (du) (hsh) ∧ Fr hpp h' oo 6) ∨ (¬ (0 ≤ ww ∧ ww ≤ 20) ∧ r = some (aI (0)) ∧ MA h' oo (zrr) (hhi) (htx) (has) (hro) (st) (ln) (1) (re) (du) (hsh) ∧ Fr hpp h' oo 6)) := by
  refine CT.of [some (aR oo), some (aI ww), none] (by decide +kernel) rfl (Nat.le_of_ble_eq_true rfl) ?_
  intro p e s m args below meth c C hr hnm
  obtain ⟨g0, g1, g2, g3, g4, g5⟩ := id hM
  refine k_aload_n C dX8_setSnow_0 rfl ?_
  refine k_iload_n C dX8_setSnow_1 rfl ?_
  refine k_iconst C dX8_setSnow_2 ?_
  refine k_bipush C dX8_setSnow_3 (by decide +kernel) ?_
  refine k_callS C (n := 3) (as := [_, _, _]) (ct_X8_within l D tc base _ _ _ _ hw ⟨by omega, by omega⟩ ⟨by omega, by omega⟩) ml_X8_92 sm_X8_within ini_X8 co_X8_within ⟨by decide, by decide, by decide +kernel⟩ rfl ⟨by decide, by decide⟩ rfl (Nat.le_of_ble_eq_true rfl) ⟨Nat.zero_le _, Nat.zero_le _⟩ dX8_setSnow_5 ?_
  rintro _ _ (⟨rfl, rfl, hq5⟩ | ⟨rfl, rfl, hq5⟩)
  · skip
    refine k_if_eq (tgt := 15) C dX8_setSnow_8 (by decide) ⟨by omega, by omega⟩ (fun c8 => ?_) (fun c8 => ?_)
    · try (exfalso; omega)
      all_goals (
        refine k_iconst C dX8_setSnow_15 ?_
        refine k_put C (k := 5) inX8 tyX8_ok nmX8 (ci := 8) rfl (by decide) fl_X8_25 rfl (Nat.le_of_ble_eq_true rfl) dX8_setSnow_16 (by repeat (first | exact hs_eq _ _ _ | refine hs_ne (by omega) ?_ | assumption)) ?_
        refine k_aload_n C dX8_setSnow_19 rfl ?_
        refine k_get C (k := 5) inX8 (ci := 8) rfl (by decide) fl_X8_25 dX8_setSnow_20 (by repeat (first | exact hs_eq _ _ _ | refine hs_ne (by omega) ?_ | assumption)) rfl ?_
        refine k_if_le (tgt := 28) C dX8_setSnow_23 (by decide) ⟨by omega, by omega⟩ (fun c23 => ?_) (fun c23 => ?_)
        · try (exfalso; omega)
          all_goals (
            refine k_aload_n C dX8_setSnow_28 rfl ?_
            refine k_callV C (n := 0) (as := []) (ct_X8_save l D tc base oo zrr hhi htx has hro st ln (0) re du hsh _ ⟨(by repeat (first | exact hs_eq _ _ _ | refine hs_ne (by omega) ?_ | assumption)), (by repeat (first | exact hs_eq _ _ _ | refine hs_ne (by omega) ?_ | assumption)), (by repeat (first | exact hs_eq _ _ _ | refine hs_ne (by omega) ?_ | assumption)), (by repeat (first | exact hs_eq _ _ _ | refine hs_ne (by omega) ?_ | assumption)), (by repeat (first | exact hs_eq _ _ _ | refine hs_ne (by omega) ?_ | assumption)), (by repeat (first | exact hs_eq _ _ _ | refine hs_ne (by omega) ?_ | assumption))⟩ hst) ml_X8_102 im_X8_save se_X8_save ini_X8 co_X8_save ⟨rfl, by decide, by decide, by decide +kernel⟩ rfl (ci := 8) rfl (by repeat (first | exact hs_eq _ _ _ | refine hs_ne (by omega) ?_ | assumption)) ⟨by decide, by decide⟩ rfl (Nat.le_of_ble_eq_true rfl) ⟨Nat.zero_le _, Nat.zero_le _⟩ dX8_setSnow_29 ?_
            rintro _ _ ⟨rfl, hM1, hF1⟩
            obtain ⟨k0, k1, k2, k3, k4, k5⟩ := id hM1
            refine k_aload_n C dX8_setSnow_32 rfl ?_
            refine k_get C (k := 0) inX8 (ci := 8) rfl (by decide) fl_X8_7 dX8_setSnow_33 (by repeat (first | exact hs_eq _ _ _ | refine hs_ne (by omega) ?_ | assumption)) rfl ?_
            refine k_bipush C dX8_setSnow_36 (by decide +kernel) ?_
            refine k_iaload C dX8_setSnow_38 (by repeat (first | exact hs_eq _ _ _ | refine hs_ne (by omega) ?_ | assumption)) (by omega) (by omega) (by omega) ?_
            refine k_istore_n C dX8_setSnow_39 (by decide) rfl ?_
            refine k_aload_n C dX8_setSnow_40 rfl ?_
            refine k_get C (k := 0) inX8 (ci := 8) rfl (by decide) fl_X8_7 dX8_setSnow_41 (by repeat (first | exact hs_eq _ _ _ | refine hs_ne (by omega) ?_ | assumption)) rfl ?_
            refine k_bipush C dX8_setSnow_44 (by decide +kernel) ?_
            refine k_iload_n C dX8_setSnow_46 rfl ?_
            refine k_iastore C dX8_setSnow_47 (by repeat (first | exact hs_eq _ _ _ | refine hs_ne (by omega) ?_ | assumption)) (by omega) (by omega) (by omega) ?_
            refine k_iload_n C dX8_setSnow_48 rfl ?_
            refine k_iret C hr dX8_setSnow_49 ?_
            first
              | exact Or.inl ⟨by omega, rfl, ⟨(by repeat (first | exact hs_eq _ _ _ | refine hs_ne (by omega) ?_ | assumption)), (by repeat (first | exact hs_eq _ _ _ | refine hs_ne (by omega) ?_ | assumption)), (by repeat (first | exact hs_eq _ _ _ | refine hs_ne (by omega) ?_ | assumption)), (by repeat (first | exact hs_eq _ _ _ | refine hs_ne (by omega) ?_ | assumption)), (by repeat (first | exact hs_eq _ _ _ | refine hs_ne (by omega) ?_ | assumption)), (by repeat (first | exact hs_eq _ _ _ | refine hs_ne (by omega) ?_ | assumption))⟩, Fr.tr (Fr.tr (fun aaa haa => by repeat (first | rfl | refine hs_ne (by omega) ?_)) hF1) (fun aaa haa => by repeat (first | rfl | refine hs_ne (by omega) ?_))⟩
              | exact Or.inr (⟨by omega, rfl, ⟨(by repeat (first | exact hs_eq _ _ _ | refine hs_ne (by omega) ?_ | assumption)), (by repeat (first | exact hs_eq _ _ _ | refine hs_ne (by omega) ?_ | assumption)), (by repeat (first | exact hs_eq _ _ _ | refine hs_ne (by omega) ?_ | assumption)), (by repeat (first | exact hs_eq _ _ _ | refine hs_ne (by omega) ?_ | assumption)), (by repeat (first | exact hs_eq _ _ _ | refine hs_ne (by omega) ?_ | assumption)), (by repeat (first | exact hs_eq _ _ _ | refine hs_ne (by omega) ?_ | assumption))⟩, fun aaa haa => by repeat (first | rfl | refine hs_ne (by omega) ?_)⟩))
        · try (exfalso; omega)
          all_goals (
            refine k_iconst C dX8_setSnow_26 ?_
            refine k_iret C hr dX8_setSnow_27 ?_
            first
              | exact Or.inl ⟨by omega, rfl, ⟨(by repeat (first | exact hs_eq _ _ _ | refine hs_ne (by omega) ?_ | assumption)), (by repeat (first | exact hs_eq _ _ _ | refine hs_ne (by omega) ?_ | assumption)), (by repeat (first | exact hs_eq _ _ _ | refine hs_ne (by omega) ?_ | assumption)), (by repeat (first | exact hs_eq _ _ _ | refine hs_ne (by omega) ?_ | assumption)), (by repeat (first | exact hs_eq _ _ _ | refine hs_ne (by omega) ?_ | assumption)), (by repeat (first | exact hs_eq _ _ _ | refine hs_ne (by omega) ?_ | assumption))⟩, Fr.tr (Fr.tr (fun aaa haa => by repeat (first | rfl | refine hs_ne (by omega) ?_)) hF1) (fun aaa haa => by repeat (first | rfl | refine hs_ne (by omega) ?_))⟩
              | exact Or.inr (⟨by omega, rfl, ⟨(by repeat (first | exact hs_eq _ _ _ | refine hs_ne (by omega) ?_ | assumption)), (by repeat (first | exact hs_eq _ _ _ | refine hs_ne (by omega) ?_ | assumption)), (by repeat (first | exact hs_eq _ _ _ | refine hs_ne (by omega) ?_ | assumption)), (by repeat (first | exact hs_eq _ _ _ | refine hs_ne (by omega) ?_ | assumption)), (by repeat (first | exact hs_eq _ _ _ | refine hs_ne (by omega) ?_ | assumption)), (by repeat (first | exact hs_eq _ _ _ | refine hs_ne (by omega) ?_ | assumption))⟩, fun aaa haa => by repeat (first | rfl | refine hs_ne (by omega) ?_)⟩)))
    · try (exfalso; omega)
      all_goals (
        refine k_iconst C dX8_setSnow_11 ?_
        refine k_goto (tgt := 16) C dX8_setSnow_12 (by decide) ?_
        refine k_put C (k := 5) inX8 tyX8_ok nmX8 (ci := 8) rfl (by decide) fl_X8_25 rfl (Nat.le_of_ble_eq_true rfl) dX8_setSnow_16 (by repeat (first | exact hs_eq _ _ _ | refine hs_ne (by omega) ?_ | assumption)) ?_
        refine k_aload_n C dX8_setSnow_19 rfl ?_
        refine k_get C (k := 5) inX8 (ci := 8) rfl (by decide) fl_X8_25 dX8_setSnow_20 (by repeat (first | exact hs_eq _ _ _ | refine hs_ne (by omega) ?_ | assumption)) rfl ?_
        refine k_if_le (tgt := 28) C dX8_setSnow_23 (by decide) ⟨by omega, by omega⟩ (fun c23 => ?_) (fun c23 => ?_)
        · try (exfalso; omega)
          all_goals (
            refine k_aload_n C dX8_setSnow_28 rfl ?_
            refine k_callV C (n := 0) (as := []) (ct_X8_save l D tc base oo zrr hhi htx has hro st ln (0) re du hsh _ ⟨(by repeat (first | exact hs_eq _ _ _ | refine hs_ne (by omega) ?_ | assumption)), (by repeat (first | exact hs_eq _ _ _ | refine hs_ne (by omega) ?_ | assumption)), (by repeat (first | exact hs_eq _ _ _ | refine hs_ne (by omega) ?_ | assumption)), (by repeat (first | exact hs_eq _ _ _ | refine hs_ne (by omega) ?_ | assumption)), (by repeat (first | exact hs_eq _ _ _ | refine hs_ne (by omega) ?_ | assumption)), (by repeat (first | exact hs_eq _ _ _ | refine hs_ne (by omega) ?_ | assumption))⟩ hst) ml_X8_102 im_X8_save se_X8_save ini_X8 co_X8_save ⟨rfl, by decide, by decide, by decide +kernel⟩ rfl (ci := 8) rfl (by repeat (first | exact hs_eq _ _ _ | refine hs_ne (by omega) ?_ | assumption)) ⟨by decide, by decide⟩ rfl (Nat.le_of_ble_eq_true rfl) ⟨Nat.zero_le _, Nat.zero_le _⟩ dX8_setSnow_29 ?_
            rintro _ _ ⟨rfl, hM1, hF1⟩
            obtain ⟨k0, k1, k2, k3, k4, k5⟩ := id hM1
            refine k_aload_n C dX8_setSnow_32 rfl ?_
            refine k_get C (k := 0) inX8 (ci := 8) rfl (by decide) fl_X8_7 dX8_setSnow_33 (by repeat (first | exact hs_eq _ _ _ | refine hs_ne (by omega) ?_ | assumption)) rfl ?_
            refine k_bipush C dX8_setSnow_36 (by decide +kernel) ?_
            refine k_iaload C dX8_setSnow_38 (by repeat (first | exact hs_eq _ _ _ | refine hs_ne (by omega) ?_ | assumption)) (by omega) (by omega) (by omega) ?_
            refine k_istore_n C dX8_setSnow_39 (by decide) rfl ?_
            refine k_aload_n C dX8_setSnow_40 rfl ?_
            refine k_get C (k := 0) inX8 (ci := 8) rfl (by decide) fl_X8_7 dX8_setSnow_41 (by repeat (first | exact hs_eq _ _ _ | refine hs_ne (by omega) ?_ | assumption)) rfl ?_
            refine k_bipush C dX8_setSnow_44 (by decide +kernel) ?_
            refine k_iload_n C dX8_setSnow_46 rfl ?_
            refine k_iastore C dX8_setSnow_47 (by repeat (first | exact hs_eq _ _ _ | refine hs_ne (by omega) ?_ | assumption)) (by omega) (by omega) (by omega) ?_
            refine k_iload_n C dX8_setSnow_48 rfl ?_
            refine k_iret C hr dX8_setSnow_49 ?_
            first
              | exact Or.inl ⟨by omega, rfl, ⟨(by repeat (first | exact hs_eq _ _ _ | refine hs_ne (by omega) ?_ | assumption)), (by repeat (first | exact hs_eq _ _ _ | refine hs_ne (by omega) ?_ | assumption)), (by repeat (first | exact hs_eq _ _ _ | refine hs_ne (by omega) ?_ | assumption)), (by repeat (first | exact hs_eq _ _ _ | refine hs_ne (by omega) ?_ | assumption)), (by repeat (first | exact hs_eq _ _ _ | refine hs_ne (by omega) ?_ | assumption)), (by repeat (first | exact hs_eq _ _ _ | refine hs_ne (by omega) ?_ | assumption))⟩, Fr.tr (Fr.tr (fun aaa haa => by repeat (first | rfl | refine hs_ne (by omega) ?_)) hF1) (fun aaa haa => by repeat (first | rfl | refine hs_ne (by omega) ?_))⟩
              | exact Or.inr (⟨by omega, rfl, ⟨(by repeat (first | exact hs_eq _ _ _ | refine hs_ne (by omega) ?_ | assumption)), (by repeat (first | exact hs_eq _ _ _ | refine hs_ne (by omega) ?_ | assumption)), (by repeat (first | exact hs_eq _ _ _ | refine hs_ne (by omega) ?_ | assumption)), (by repeat (first | exact hs_eq _ _ _ | refine hs_ne (by omega) ?_ | assumption)), (by repeat (first | exact hs_eq _ _ _ | refine hs_ne (by omega) ?_ | assumption)), (by repeat (first | exact hs_eq _ _ _ | refine hs_ne (by omega) ?_ | assumption))⟩, fun aaa haa => by repeat (first | rfl | refine hs_ne (by omega) ?_)⟩))
        · try (exfalso; omega)
          all_goals (
            refine k_iconst C dX8_setSnow_26 ?_
            refine k_iret C hr dX8_setSnow_27 ?_
            first
              | exact Or.inl ⟨by omega, rfl, ⟨(by repeat (first | exact hs_eq _ _ _ | refine hs_ne (by omega) ?_ | assumption)), (by repeat (first | exact hs_eq _ _ _ | refine hs_ne (by omega) ?_ | assumption)), (by repeat (first | exact hs_eq _ _ _ | refine hs_ne (by omega) ?_ | assumption)), (by repeat (first | exact hs_eq _ _ _ | refine hs_ne (by omega) ?_ | assumption)), (by repeat (first | exact hs_eq _ _ _ | refine hs_ne (by omega) ?_ | assumption)), (by repeat (first | exact hs_eq _ _ _ | refine hs_ne (by omega) ?_ | assumption))⟩, Fr.tr (Fr.tr (fun aaa haa => by repeat (first | rfl | refine hs_ne (by omega) ?_)) hF1) (fun aaa haa => by repeat (first | rfl | refine hs_ne (by omega) ?_))⟩
              | exact Or.inr (⟨by omega, rfl, ⟨(by repeat (first | exact hs_eq _ _ _ | refine hs_ne (by omega) ?_ | assumption)), (by repeat (first | exact hs_eq _ _ _ | refine hs_ne (by omega) ?_ | assumption)), (by repeat (first | exact hs_eq _ _ _ | refine hs_ne (by omega) ?_ | assumption)), (by repeat (first | exact hs_eq _ _ _ | refine hs_ne (by omega) ?_ | assumption)), (by repeat (first | exact hs_eq _ _ _ | refine hs_ne (by omega) ?_ | assumption)), (by repeat (first | exact hs_eq _ _ _ | refine hs_ne (by omega) ?_ | assumption))⟩, fun aaa haa => by repeat (first | rfl | refine hs_ne (by omega) ?_)⟩)))
  · skip
    refine k_if_eq (tgt := 15) C dX8_setSnow_8 (by decide) ⟨by omega, by omega⟩ (fun c8 => ?_) (fun c8 => ?_)
    · try (exfalso; omega)
      all_goals (
        refine k_iconst C dX8_setSnow_15 ?_
        refine k_put C (k := 5) inX8 tyX8_ok nmX8 (ci := 8) rfl (by decide) fl_X8_25 rfl (Nat.le_of_ble_eq_true rfl) dX8_setSnow_16 (by repeat (first | exact hs_eq _ _ _ | refine hs_ne (by omega) ?_ | assumption)) ?_
        refine k_aload_n C dX8_setSnow_19 rfl ?_
        refine k_get C (k := 5) inX8 (ci := 8) rfl (by decide) fl_X8_25 dX8_setSnow_20 (by repeat (first | exact hs_eq _ _ _ | refine hs_ne (by omega) ?_ | assumption)) rfl ?_
        refine k_if_le (tgt := 28) C dX8_setSnow_23 (by decide) ⟨by omega, by omega⟩ (fun c23 => ?_) (fun c23 => ?_)
        · try (exfalso; omega)
          all_goals (
            refine k_aload_n C dX8_setSnow_28 rfl ?_
            refine k_callV C (n := 0) (as := []) (ct_X8_save l D tc base oo zrr hhi htx has hro st ln (0) re du hsh _ ⟨(by repeat (first | exact hs_eq _ _ _ | refine hs_ne (by omega) ?_ | assumption)), (by repeat (first | exact hs_eq _ _ _ | refine hs_ne (by omega) ?_ | assumption)), (by repeat (first | exact hs_eq _ _ _ | refine hs_ne (by omega) ?_ | assumption)), (by repeat (first | exact hs_eq _ _ _ | refine hs_ne (by omega) ?_ | assumption)), (by repeat (first | exact hs_eq _ _ _ | refine hs_ne (by omega) ?_ | assumption)), (by repeat (first | exact hs_eq _ _ _ | refine hs_ne (by omega) ?_ | assumption))⟩ hst) ml_X8_102 im_X8_save se_X8_save ini_X8 co_X8_save ⟨rfl, by decide, by decide, by decide +kernel⟩ rfl (ci := 8) rfl (by repeat (first | exact hs_eq _ _ _ | refine hs_ne (by omega) ?_ | assumption)) ⟨by decide, by decide⟩ rfl (Nat.le_of_ble_eq_true rfl) ⟨Nat.zero_le _, Nat.zero_le _⟩ dX8_setSnow_29 ?_
            rintro _ _ ⟨rfl, hM1, hF1⟩
            obtain ⟨k0, k1, k2, k3, k4, k5⟩ := id hM1
            refine k_aload_n C dX8_setSnow_32 rfl ?_
            refine k_get C (k := 0) inX8 (ci := 8) rfl (by decide) fl_X8_7 dX8_setSnow_33 (by repeat (first | exact hs_eq _ _ _ | refine hs_ne (by omega) ?_ | assumption)) rfl ?_
            refine k_bipush C dX8_setSnow_36 (by decide +kernel) ?_
            refine k_iaload C dX8_setSnow_38 (by repeat (first | exact hs_eq _ _ _ | refine hs_ne (by omega) ?_ | assumption)) (by omega) (by omega) (by omega) ?_
            refine k_istore_n C dX8_setSnow_39 (by decide) rfl ?_
            refine k_aload_n C dX8_setSnow_40 rfl ?_
            refine k_get C (k := 0) inX8 (ci := 8) rfl (by decide) fl_X8_7 dX8_setSnow_41 (by repeat (first | exact hs_eq _ _ _ | refine hs_ne (by omega) ?_ | assumption)) rfl ?_
            refine k_bipush C dX8_setSnow_44 (by decide +kernel) ?_
            refine k_iload_n C dX8_setSnow_46 rfl ?_
            refine k_iastore C dX8_setSnow_47 (by repeat (first | exact hs_eq _ _ _ | refine hs_ne (by omega) ?_ | assumption)) (by omega) (by omega) (by omega) ?_
            refine k_iload_n C dX8_setSnow_48 rfl ?_
            refine k_iret C hr dX8_setSnow_49 ?_
            first
              | exact Or.inl ⟨by omega, rfl, ⟨(by repeat (first | exact hs_eq _ _ _ | refine hs_ne (by omega) ?_ | assumption)), (by repeat (first | exact hs_eq _ _ _ | refine hs_ne (by omega) ?_ | assumption)), (by repeat (first | exact hs_eq _ _ _ | refine hs_ne (by omega) ?_ | assumption)), (by repeat (first | exact hs_eq _ _ _ | refine hs_ne (by omega) ?_ | assumption)), (by repeat (first | exact hs_eq _ _ _ | refine hs_ne (by omega) ?_ | assumption)), (by repeat (first | exact hs_eq _ _ _ | refine hs_ne (by omega) ?_ | assumption))⟩, Fr.tr (Fr.tr (fun aaa haa => by repeat (first | rfl | refine hs_ne (by omega) ?_)) hF1) (fun aaa haa => by repeat (first | rfl | refine hs_ne (by omega) ?_))⟩
              | exact Or.inr (⟨by omega, rfl, ⟨(by repeat (first | exact hs_eq _ _ _ | refine hs_ne (by omega) ?_ | assumption)), (by repeat (first | exact hs_eq _ _ _ | refine hs_ne (by omega) ?_ | assumption)), (by repeat (first | exact hs_eq _ _ _ | refine hs_ne (by omega) ?_ | assumption)), (by repeat (first | exact hs_eq _ _ _ | refine hs_ne (by omega) ?_ | assumption)), (by repeat (first | exact hs_eq _ _ _ | refine hs_ne (by omega) ?_ | assumption)), (by repeat (first | exact hs_eq _ _ _ | refine hs_ne (by omega) ?_ | assumption))⟩, fun aaa haa => by repeat (first | rfl | refine hs_ne (by omega) ?_)⟩))
        · try (exfalso; omega)
          all_goals (
            refine k_iconst C dX8_setSnow_26 ?_
            refine k_iret C hr dX8_setSnow_27 ?_
            first
              | exact Or.inl ⟨by omega, rfl, ⟨(by repeat (first | exact hs_eq _ _ _ | refine hs_ne (by omega) ?_ | assumption)), (by repeat (first | exact hs_eq _ _ _ | refine hs_ne (by omega) ?_ | assumption)), (by repeat (first | exact hs_eq _ _ _ | refine hs_ne (by omega) ?_ | assumption)), (by repeat (first | exact hs_eq _ _ _ | refine hs_ne (by omega) ?_ | assumption)), (by repeat (first | exact hs_eq _ _ _ | refine hs_ne (by omega) ?_ | assumption)), (by repeat (first | exact hs_eq _ _ _ | refine hs_ne (by omega) ?_ | assumption))⟩, Fr.tr (Fr.tr (fun aaa haa => by repeat (first | rfl | refine hs_ne (by omega) ?_)) hF1) (fun aaa haa => by repeat (first | rfl | refine hs_ne (by omega) ?_))⟩
              | exact Or.inr (⟨by omega, rfl, ⟨(by repeat (first | exact hs_eq _ _ _ | refine hs_ne (by omega) ?_ | assumption)), (by repeat (first | exact hs_eq _ _ _ | refine hs_ne (by omega) ?_ | assumption)), (by repeat (first | exact hs_eq _ _ _ | refine hs_ne (by omega) ?_ | assumption)), (by repeat (first | exact hs_eq _ _ _ | refine hs_ne (by omega) ?_ | assumption)), (by repeat (first | exact hs_eq _ _ _ | refine hs_ne (by omega) ?_ | assumption)), (by repeat (first | exact hs_eq _ _ _ | refine hs_ne (by omega) ?_ | assumption))⟩, fun aaa haa => by repeat (first | rfl | refine hs_ne (by omega) ?_)⟩)))
    · try (exfalso; omega)
      all_goals (
        refine k_iconst C dX8_setSnow_11 ?_
        refine k_goto (tgt := 16) C dX8_setSnow_12 (by decide) ?_
        refine k_put C (k := 5) inX8 tyX8_ok nmX8 (ci := 8) rfl (by decide) fl_X8_25 rfl (Nat.le_of_ble_eq_true rfl) dX8_setSnow_16 (by repeat (first | exact hs_eq _ _ _ | refine hs_ne (by omega) ?_ | assumption)) ?_
        refine k_aload_n C dX8_setSnow_19 rfl ?_
        refine k_get C (k := 5) inX8 (ci := 8) rfl (by decide) fl_X8_25 dX8_setSnow_20 (by repeat (first | exact hs_eq _ _ _ | refine hs_ne (by omega) ?_ | assumption)) rfl ?_
        refine k_if_le (tgt := 28) C dX8_setSnow_23 (by decide) ⟨by omega, by omega⟩ (fun c23 => ?_) (fun c23 => ?_)
        · try (exfalso; omega)
          all_goals (
            refine k_aload_n C dX8_setSnow_28 rfl ?_
            refine k_callV C (n := 0) (as := []) (ct_X8_save l D tc base oo zrr hhi htx has hro st ln (0) re du hsh _ ⟨(by repeat (first | exact hs_eq _ _ _ | refine hs_ne (by omega) ?_ | assumption)), (by repeat (first | exact hs_eq _ _ _ | refine hs_ne (by omega) ?_ | assumption)), (by repeat (first | exact hs_eq _ _ _ | refine hs_ne (by omega) ?_ | assumption)), (by repeat (first | exact hs_eq _ _ _ | refine hs_ne (by omega) ?_ | assumption)), (by repeat (first | exact hs_eq _ _ _ | refine hs_ne (by omega) ?_ | assumption)), (by repeat (first | exact hs_eq _ _ _ | refine hs_ne (by omega) ?_ | assumption))⟩ hst) ml_X8_102 im_X8_save se_X8_save ini_X8 co_X8_save ⟨rfl, by decide, by decide, by decide +kernel⟩ rfl (ci := 8) rfl (by repeat (first | exact hs_eq _ _ _ | refine hs_ne (by omega) ?_ | assumption)) ⟨by decide, by decide⟩ rfl (Nat.le_of_ble_eq_true rfl) ⟨Nat.zero_le _, Nat.zero_le _⟩ dX8_setSnow_29 ?_
            rintro _ _ ⟨rfl, hM1, hF1⟩
            obtain ⟨k0, k1, k2, k3, k4, k5⟩ := id hM1
            refine k_aload_n C dX8_setSnow_32 rfl ?_
            refine k_get C (k := 0) inX8 (ci := 8) rfl (by decide) fl_X8_7 dX8_setSnow_33 (by repeat (first | exact hs_eq _ _ _ | refine hs_ne (by omega) ?_ | assumption)) rfl ?_
            refine k_bipush C dX8_setSnow_36 (by decide +kernel) ?_
            refine k_iaload C dX8_setSnow_38 (by repeat (first | exact hs_eq _ _ _ | refine hs_ne (by omega) ?_ | assumption)) (by omega) (by omega) (by omega) ?_
            refine k_istore_n C dX8_setSnow_39 (by decide) rfl ?_
            refine k_aload_n C dX8_setSnow_40 rfl ?_
            refine k_get C (k := 0) inX8 (ci := 8) rfl (by decide) fl_X8_7 dX8_setSnow_41 (by repeat (first | exact hs_eq _ _ _ | refine hs_ne (by omega) ?_ | assumption)) rfl ?_
            refine k_bipush C dX8_setSnow_44 (by decide +kernel) ?_
            refine k_iload_n C dX8_setSnow_46 rfl ?_
            refine k_iastore C dX8_setSnow_47 (by repeat (first | exact hs_eq _ _ _ | refine hs_ne (by omega) ?_ | assumption)) (by omega) (by omega) (by omega) ?_
            refine k_iload_n C dX8_setSnow_48 rfl ?_
            refine k_iret C hr dX8_setSnow_49 ?_
            first
              | exact Or.inl ⟨by omega, rfl, ⟨(by repeat (first | exact hs_eq _ _ _ | refine hs_ne (by omega) ?_ | assumption)), (by repeat (first | exact hs_eq _ _ _ | refine hs_ne (by omega) ?_ | assumption)), (by repeat (first | exact hs_eq _ _ _ | refine hs_ne (by omega) ?_ | assumption)), (by repeat (first | exact hs_eq _ _ _ | refine hs_ne (by omega) ?_ | assumption)), (by repeat (first | exact hs_eq _ _ _ | refine hs_ne (by omega) ?_ | assumption)), (by repeat (first | exact hs_eq _ _ _ | refine hs_ne (by omega) ?_ | assumption))⟩, Fr.tr (Fr.tr (fun aaa haa => by repeat (first | rfl | refine hs_ne (by omega) ?_)) hF1) (fun aaa haa => by repeat (first | rfl | refine hs_ne (by omega) ?_))⟩
              | exact Or.inr (⟨by omega, rfl, ⟨(by repeat (first | exact hs_eq _ _ _ | refine hs_ne (by omega) ?_ | assumption)), (by repeat (first | exact hs_eq _ _ _ | refine hs_ne (by omega) ?_ | assumption)), (by repeat (first | exact hs_eq _ _ _ | refine hs_ne (by omega) ?_ | assumption)), (by repeat (first | exact hs_eq _ _ _ | refine hs_ne (by omega) ?_ | assumption)), (by repeat (first | exact hs_eq _ _ _ | refine hs_ne (by omega) ?_ | assumption)), (by repeat (first | exact hs_eq _ _ _ | refine hs_ne (by omega) ?_ | assumption))⟩, fun aaa haa => by repeat (first | rfl | refine hs_ne (by omega) ?_)⟩))
        · try (exfalso; omega)
          all_goals (
            refine k_iconst C dX8_setSnow_26 ?_
            refine k_iret C hr dX8_setSnow_27 ?_
            first
              | exact Or.inl ⟨by omega, rfl, ⟨(by repeat (first | exact hs_eq _ _ _ | refine hs_ne (by omega) ?_ | assumption)), (by repeat (first | exact hs_eq _ _ _ | refine hs_ne (by omega) ?_ | assumption)), (by repeat (first | exact hs_eq _ _ _ | refine hs_ne (by omega) ?_ | assumption)), (by repeat (first | exact hs_eq _ _ _ | refine hs_ne (by omega) ?_ | assumption)), (by repeat (first | exact hs_eq _ _ _ | refine hs_ne (by omega) ?_ | assumption)), (by repeat (first | exact hs_eq _ _ _ | refine hs_ne (by omega) ?_ | assumption))⟩, Fr.tr (Fr.tr (fun aaa haa => by repeat (first | rfl | refine hs_ne (by omega) ?_)) hF1) (fun aaa haa => by repeat (first | rfl | refine hs_ne (by omega) ?_))⟩
              | exact Or.inr (⟨by omega, rfl, ⟨(by repeat (first | exact hs_eq _ _ _ | refine hs_ne (by omega) ?_ | assumption)), (by repeat (first | exact hs_eq _ _ _ | refine hs_ne (by omega) ?_ | assumption)), (by repeat (first | exact hs_eq _ _ _ | refine hs_ne (by omega) ?_ | assumption)), (by repeat (first | exact hs_eq _ _ _ | refine hs_ne (by omega) ?_ | assumption)), (by repeat (first | exact hs_eq _ _ _ | refine hs_ne (by omega) ?_ | assumption)), (by repeat (first | exact hs_eq _ _ _ | refine hs_ne (by omega) ?_ | assumption))⟩, fun aaa haa => by repeat (first | rfl | refine hs_ne (by omega) ?_)⟩)))

set_option maxRecDepth 20000 in
set_option maxHeartbeats 1000000 in
theorem ct_X8_setHands (l : Launch) (D : va_G) (tc : Nat → ClassId) (base : Nat) (oo : Nat) (zrr hhi htx has hro : Int → Int) (st ln th re du hsh : Int) (hpp : AH) (hM : MA hpp oo zrr hhi htx has hro st ln th re du hsh) (ww : Int) (hw : r32 ww) (hi : zInv zrr) (hst : 0 ≤ st ∧ st ≤ 6) : CT l D tc base yX8_setHands cX8_setHands 3 (some .int) 1 [aR oo, aI ww] hpp (fun r h' => ((0 ≤ ww ∧ ww ≤ 719) ∧ r = some (aI (zrr 10)) ∧ MA h' oo (iu zrr 10 ww) (sHi zrr hhi st) (htx) (has) (hro) (sSt st) (ln) (0) (re) (du) (hsh) ∧ Fr hpp h' oo 6) ∨ (¬ (0 ≤ ww ∧ ww ≤ 719) ∧ r = some (aI (0)) ∧ MA h' oo (zrr) (hhi) (htx) (has) (hro) (st) (ln) (1) (re) (du) (hsh) ∧ Fr hpp h' oo 6)) := by
  refine CT.of [some (aR oo), some (aI ww), none] (by decide +kernel) rfl (Nat.le_of_ble_eq_true rfl) ?_
  intro p e s m args below meth c C hr hnm
  obtain ⟨g0, g1, g2, g3, g4, g5⟩ := id hM
  refine k_aload_n C dX8_setHands_0 rfl ?_
  refine k_iload_n C dX8_setHands_1 rfl ?_
  refine k_iconst C dX8_setHands_2 ?_
  refine k_sipush C dX8_setHands_3 (by decide +kernel) ?_
  refine k_callS C (n := 3) (as := [_, _, _]) (ct_X8_within l D tc base _ _ _ _ hw ⟨by omega, by omega⟩ ⟨by omega, by omega⟩) ml_X8_92 sm_X8_within ini_X8 co_X8_within ⟨by decide, by decide, by decide +kernel⟩ rfl ⟨by decide, by decide⟩ rfl (Nat.le_of_ble_eq_true rfl) ⟨Nat.zero_le _, Nat.zero_le _⟩ dX8_setHands_6 ?_
  rintro _ _ (⟨rfl, rfl, hq6⟩ | ⟨rfl, rfl, hq6⟩)
  · skip
    refine k_if_eq (tgt := 16) C dX8_setHands_9 (by decide) ⟨by omega, by omega⟩ (fun c9 => ?_) (fun c9 => ?_)
    · try (exfalso; omega)
      all_goals (
        refine k_iconst C dX8_setHands_16 ?_
        refine k_put C (k := 5) inX8 tyX8_ok nmX8 (ci := 8) rfl (by decide) fl_X8_25 rfl (Nat.le_of_ble_eq_true rfl) dX8_setHands_17 (by repeat (first | exact hs_eq _ _ _ | refine hs_ne (by omega) ?_ | assumption)) ?_
        refine k_aload_n C dX8_setHands_20 rfl ?_
        refine k_get C (k := 5) inX8 (ci := 8) rfl (by decide) fl_X8_25 dX8_setHands_21 (by repeat (first | exact hs_eq _ _ _ | refine hs_ne (by omega) ?_ | assumption)) rfl ?_
        refine k_if_le (tgt := 29) C dX8_setHands_24 (by decide) ⟨by omega, by omega⟩ (fun c24 => ?_) (fun c24 => ?_)
        · try (exfalso; omega)
          all_goals (
            refine k_aload_n C dX8_setHands_29 rfl ?_
            refine k_callV C (n := 0) (as := []) (ct_X8_save l D tc base oo zrr hhi htx has hro st ln (0) re du hsh _ ⟨(by repeat (first | exact hs_eq _ _ _ | refine hs_ne (by omega) ?_ | assumption)), (by repeat (first | exact hs_eq _ _ _ | refine hs_ne (by omega) ?_ | assumption)), (by repeat (first | exact hs_eq _ _ _ | refine hs_ne (by omega) ?_ | assumption)), (by repeat (first | exact hs_eq _ _ _ | refine hs_ne (by omega) ?_ | assumption)), (by repeat (first | exact hs_eq _ _ _ | refine hs_ne (by omega) ?_ | assumption)), (by repeat (first | exact hs_eq _ _ _ | refine hs_ne (by omega) ?_ | assumption))⟩ hst) ml_X8_102 im_X8_save se_X8_save ini_X8 co_X8_save ⟨rfl, by decide, by decide, by decide +kernel⟩ rfl (ci := 8) rfl (by repeat (first | exact hs_eq _ _ _ | refine hs_ne (by omega) ?_ | assumption)) ⟨by decide, by decide⟩ rfl (Nat.le_of_ble_eq_true rfl) ⟨Nat.zero_le _, Nat.zero_le _⟩ dX8_setHands_30 ?_
            rintro _ _ ⟨rfl, hM1, hF1⟩
            obtain ⟨k0, k1, k2, k3, k4, k5⟩ := id hM1
            refine k_aload_n C dX8_setHands_33 rfl ?_
            refine k_get C (k := 0) inX8 (ci := 8) rfl (by decide) fl_X8_7 dX8_setHands_34 (by repeat (first | exact hs_eq _ _ _ | refine hs_ne (by omega) ?_ | assumption)) rfl ?_
            refine k_bipush C dX8_setHands_37 (by decide +kernel) ?_
            refine k_iaload C dX8_setHands_39 (by repeat (first | exact hs_eq _ _ _ | refine hs_ne (by omega) ?_ | assumption)) (by omega) (by omega) (by omega) ?_
            refine k_istore_n C dX8_setHands_40 (by decide) rfl ?_
            refine k_aload_n C dX8_setHands_41 rfl ?_
            refine k_get C (k := 0) inX8 (ci := 8) rfl (by decide) fl_X8_7 dX8_setHands_42 (by repeat (first | exact hs_eq _ _ _ | refine hs_ne (by omega) ?_ | assumption)) rfl ?_
            refine k_bipush C dX8_setHands_45 (by decide +kernel) ?_
            refine k_iload_n C dX8_setHands_47 rfl ?_
            refine k_iastore C dX8_setHands_48 (by repeat (first | exact hs_eq _ _ _ | refine hs_ne (by omega) ?_ | assumption)) (by omega) (by omega) (by omega) ?_
            refine k_iload_n C dX8_setHands_49 rfl ?_
            refine k_iret C hr dX8_setHands_50 ?_
            first
              | exact Or.inl ⟨by omega, rfl, ⟨(by repeat (first | exact hs_eq _ _ _ | refine hs_ne (by omega) ?_ | assumption)), (by repeat (first | exact hs_eq _ _ _ | refine hs_ne (by omega) ?_ | assumption)), (by repeat (first | exact hs_eq _ _ _ | refine hs_ne (by omega) ?_ | assumption)), (by repeat (first | exact hs_eq _ _ _ | refine hs_ne (by omega) ?_ | assumption)), (by repeat (first | exact hs_eq _ _ _ | refine hs_ne (by omega) ?_ | assumption)), (by repeat (first | exact hs_eq _ _ _ | refine hs_ne (by omega) ?_ | assumption))⟩, Fr.tr (Fr.tr (fun aaa haa => by repeat (first | rfl | refine hs_ne (by omega) ?_)) hF1) (fun aaa haa => by repeat (first | rfl | refine hs_ne (by omega) ?_))⟩
              | exact Or.inr (⟨by omega, rfl, ⟨(by repeat (first | exact hs_eq _ _ _ | refine hs_ne (by omega) ?_ | assumption)), (by repeat (first | exact hs_eq _ _ _ | refine hs_ne (by omega) ?_ | assumption)), (by repeat (first | exact hs_eq _ _ _ | refine hs_ne (by omega) ?_ | assumption)), (by repeat (first | exact hs_eq _ _ _ | refine hs_ne (by omega) ?_ | assumption)), (by repeat (first | exact hs_eq _ _ _ | refine hs_ne (by omega) ?_ | assumption)), (by repeat (first | exact hs_eq _ _ _ | refine hs_ne (by omega) ?_ | assumption))⟩, fun aaa haa => by repeat (first | rfl | refine hs_ne (by omega) ?_)⟩))
        · try (exfalso; omega)
          all_goals (
            refine k_iconst C dX8_setHands_27 ?_
            refine k_iret C hr dX8_setHands_28 ?_
            first
              | exact Or.inl ⟨by omega, rfl, ⟨(by repeat (first | exact hs_eq _ _ _ | refine hs_ne (by omega) ?_ | assumption)), (by repeat (first | exact hs_eq _ _ _ | refine hs_ne (by omega) ?_ | assumption)), (by repeat (first | exact hs_eq _ _ _ | refine hs_ne (by omega) ?_ | assumption)), (by repeat (first | exact hs_eq _ _ _ | refine hs_ne (by omega) ?_ | assumption)), (by repeat (first | exact hs_eq _ _ _ | refine hs_ne (by omega) ?_ | assumption)), (by repeat (first | exact hs_eq _ _ _ | refine hs_ne (by omega) ?_ | assumption))⟩, Fr.tr (Fr.tr (fun aaa haa => by repeat (first | rfl | refine hs_ne (by omega) ?_)) hF1) (fun aaa haa => by repeat (first | rfl | refine hs_ne (by omega) ?_))⟩
              | exact Or.inr (⟨by omega, rfl, ⟨(by repeat (first | exact hs_eq _ _ _ | refine hs_ne (by omega) ?_ | assumption)), (by repeat (first | exact hs_eq _ _ _ | refine hs_ne (by omega) ?_ | assumption)), (by repeat (first | exact hs_eq _ _ _ | refine hs_ne (by omega) ?_ | assumption)), (by repeat (first | exact hs_eq _ _ _ | refine hs_ne (by omega) ?_ | assumption)), (by repeat (first | exact hs_eq _ _ _ | refine hs_ne (by omega) ?_ | assumption)), (by repeat (first | exact hs_eq _ _ _ | refine hs_ne (by omega) ?_ | assumption))⟩, fun aaa haa => by repeat (first | rfl | refine hs_ne (by omega) ?_)⟩)))
    · try (exfalso; omega)
      all_goals (
        refine k_iconst C dX8_setHands_12 ?_
        refine k_goto (tgt := 17) C dX8_setHands_13 (by decide) ?_
        refine k_put C (k := 5) inX8 tyX8_ok nmX8 (ci := 8) rfl (by decide) fl_X8_25 rfl (Nat.le_of_ble_eq_true rfl) dX8_setHands_17 (by repeat (first | exact hs_eq _ _ _ | refine hs_ne (by omega) ?_ | assumption)) ?_
        refine k_aload_n C dX8_setHands_20 rfl ?_
        refine k_get C (k := 5) inX8 (ci := 8) rfl (by decide) fl_X8_25 dX8_setHands_21 (by repeat (first | exact hs_eq _ _ _ | refine hs_ne (by omega) ?_ | assumption)) rfl ?_
        refine k_if_le (tgt := 29) C dX8_setHands_24 (by decide) ⟨by omega, by omega⟩ (fun c24 => ?_) (fun c24 => ?_)
        · try (exfalso; omega)
          all_goals (
            refine k_aload_n C dX8_setHands_29 rfl ?_
            refine k_callV C (n := 0) (as := []) (ct_X8_save l D tc base oo zrr hhi htx has hro st ln (0) re du hsh _ ⟨(by repeat (first | exact hs_eq _ _ _ | refine hs_ne (by omega) ?_ | assumption)), (by repeat (first | exact hs_eq _ _ _ | refine hs_ne (by omega) ?_ | assumption)), (by repeat (first | exact hs_eq _ _ _ | refine hs_ne (by omega) ?_ | assumption)), (by repeat (first | exact hs_eq _ _ _ | refine hs_ne (by omega) ?_ | assumption)), (by repeat (first | exact hs_eq _ _ _ | refine hs_ne (by omega) ?_ | assumption)), (by repeat (first | exact hs_eq _ _ _ | refine hs_ne (by omega) ?_ | assumption))⟩ hst) ml_X8_102 im_X8_save se_X8_save ini_X8 co_X8_save ⟨rfl, by decide, by decide, by decide +kernel⟩ rfl (ci := 8) rfl (by repeat (first | exact hs_eq _ _ _ | refine hs_ne (by omega) ?_ | assumption)) ⟨by decide, by decide⟩ rfl (Nat.le_of_ble_eq_true rfl) ⟨Nat.zero_le _, Nat.zero_le _⟩ dX8_setHands_30 ?_
            rintro _ _ ⟨rfl, hM1, hF1⟩
            obtain ⟨k0, k1, k2, k3, k4, k5⟩ := id hM1
            refine k_aload_n C dX8_setHands_33 rfl ?_
            refine k_get C (k := 0) inX8 (ci := 8) rfl (by decide) fl_X8_7 dX8_setHands_34 (by repeat (first | exact hs_eq _ _ _ | refine hs_ne (by omega) ?_ | assumption)) rfl ?_
            refine k_bipush C dX8_setHands_37 (by decide +kernel) ?_
            refine k_iaload C dX8_setHands_39 (by repeat (first | exact hs_eq _ _ _ | refine hs_ne (by omega) ?_ | assumption)) (by omega) (by omega) (by omega) ?_
            refine k_istore_n C dX8_setHands_40 (by decide) rfl ?_
            refine k_aload_n C dX8_setHands_41 rfl ?_
            refine k_get C (k := 0) inX8 (ci := 8) rfl (by decide) fl_X8_7 dX8_setHands_42 (by repeat (first | exact hs_eq _ _ _ | refine hs_ne (by omega) ?_ | assumption)) rfl ?_
            refine k_bipush C dX8_setHands_45 (by decide +kernel) ?_
            refine k_iload_n C dX8_setHands_47 rfl ?_
            refine k_iastore C dX8_setHands_48 (by repeat (first | exact hs_eq _ _ _ | refine hs_ne (by omega) ?_ | assumption)) (by omega) (by omega) (by omega) ?_
            refine k_iload_n C dX8_setHands_49 rfl ?_
            refine k_iret C hr dX8_setHands_50 ?_
            first
              | exact Or.inl ⟨by omega, rfl, ⟨(by repeat (first | exact hs_eq _ _ _ | refine hs_ne (by omega) ?_ | assumption)), (by repeat (first | exact hs_eq _ _ _ | refine hs_ne (by omega) ?_ | assumption)), (by repeat (first | exact hs_eq _ _ _ | refine hs_ne (by omega) ?_ | assumption)), (by repeat (first | exact hs_eq _ _ _ | refine hs_ne (by omega) ?_ | assumption)), (by repeat (first | exact hs_eq _ _ _ | refine hs_ne (by omega) ?_ | assumption)), (by repeat (first | exact hs_eq _ _ _ | refine hs_ne (by omega) ?_ | assumption))⟩, Fr.tr (Fr.tr (fun aaa haa => by repeat (first | rfl | refine hs_ne (by omega) ?_)) hF1) (fun aaa haa => by repeat (first | rfl | refine hs_ne (by omega) ?_))⟩
              | exact Or.inr (⟨by omega, rfl, ⟨(by repeat (first | exact hs_eq _ _ _ | refine hs_ne (by omega) ?_ | assumption)), (by repeat (first | exact hs_eq _ _ _ | refine hs_ne (by omega) ?_ | assumption)), (by repeat (first | exact hs_eq _ _ _ | refine hs_ne (by omega) ?_ | assumption)), (by repeat (first | exact hs_eq _ _ _ | refine hs_ne (by omega) ?_ | assumption)), (by repeat (first | exact hs_eq _ _ _ | refine hs_ne (by omega) ?_ | assumption)), (by repeat (first | exact hs_eq _ _ _ | refine hs_ne (by omega) ?_ | assumption))⟩, fun aaa haa => by repeat (first | rfl | refine hs_ne (by omega) ?_)⟩))
        · try (exfalso; omega)
          all_goals (
            refine k_iconst C dX8_setHands_27 ?_
            refine k_iret C hr dX8_setHands_28 ?_
            first
              | exact Or.inl ⟨by omega, rfl, ⟨(by repeat (first | exact hs_eq _ _ _ | refine hs_ne (by omega) ?_ | assumption)), (by repeat (first | exact hs_eq _ _ _ | refine hs_ne (by omega) ?_ | assumption)), (by repeat (first | exact hs_eq _ _ _ | refine hs_ne (by omega) ?_ | assumption)), (by repeat (first | exact hs_eq _ _ _ | refine hs_ne (by omega) ?_ | assumption)), (by repeat (first | exact hs_eq _ _ _ | refine hs_ne (by omega) ?_ | assumption)), (by repeat (first | exact hs_eq _ _ _ | refine hs_ne (by omega) ?_ | assumption))⟩, Fr.tr (Fr.tr (fun aaa haa => by repeat (first | rfl | refine hs_ne (by omega) ?_)) hF1) (fun aaa haa => by repeat (first | rfl | refine hs_ne (by omega) ?_))⟩
              | exact Or.inr (⟨by omega, rfl, ⟨(by repeat (first | exact hs_eq _ _ _ | refine hs_ne (by omega) ?_ | assumption)), (by repeat (first | exact hs_eq _ _ _ | refine hs_ne (by omega) ?_ | assumption)), (by repeat (first | exact hs_eq _ _ _ | refine hs_ne (by omega) ?_ | assumption)), (by repeat (first | exact hs_eq _ _ _ | refine hs_ne (by omega) ?_ | assumption)), (by repeat (first | exact hs_eq _ _ _ | refine hs_ne (by omega) ?_ | assumption)), (by repeat (first | exact hs_eq _ _ _ | refine hs_ne (by omega) ?_ | assumption))⟩, fun aaa haa => by repeat (first | rfl | refine hs_ne (by omega) ?_)⟩)))
  · skip
    refine k_if_eq (tgt := 16) C dX8_setHands_9 (by decide) ⟨by omega, by omega⟩ (fun c9 => ?_) (fun c9 => ?_)
    · try (exfalso; omega)
      all_goals (
        refine k_iconst C dX8_setHands_16 ?_
        refine k_put C (k := 5) inX8 tyX8_ok nmX8 (ci := 8) rfl (by decide) fl_X8_25 rfl (Nat.le_of_ble_eq_true rfl) dX8_setHands_17 (by repeat (first | exact hs_eq _ _ _ | refine hs_ne (by omega) ?_ | assumption)) ?_
        refine k_aload_n C dX8_setHands_20 rfl ?_
        refine k_get C (k := 5) inX8 (ci := 8) rfl (by decide) fl_X8_25 dX8_setHands_21 (by repeat (first | exact hs_eq _ _ _ | refine hs_ne (by omega) ?_ | assumption)) rfl ?_
        refine k_if_le (tgt := 29) C dX8_setHands_24 (by decide) ⟨by omega, by omega⟩ (fun c24 => ?_) (fun c24 => ?_)
        · try (exfalso; omega)
          all_goals (
            refine k_aload_n C dX8_setHands_29 rfl ?_
            refine k_callV C (n := 0) (as := []) (ct_X8_save l D tc base oo zrr hhi htx has hro st ln (0) re du hsh _ ⟨(by repeat (first | exact hs_eq _ _ _ | refine hs_ne (by omega) ?_ | assumption)), (by repeat (first | exact hs_eq _ _ _ | refine hs_ne (by omega) ?_ | assumption)), (by repeat (first | exact hs_eq _ _ _ | refine hs_ne (by omega) ?_ | assumption)), (by repeat (first | exact hs_eq _ _ _ | refine hs_ne (by omega) ?_ | assumption)), (by repeat (first | exact hs_eq _ _ _ | refine hs_ne (by omega) ?_ | assumption)), (by repeat (first | exact hs_eq _ _ _ | refine hs_ne (by omega) ?_ | assumption))⟩ hst) ml_X8_102 im_X8_save se_X8_save ini_X8 co_X8_save ⟨rfl, by decide, by decide, by decide +kernel⟩ rfl (ci := 8) rfl (by repeat (first | exact hs_eq _ _ _ | refine hs_ne (by omega) ?_ | assumption)) ⟨by decide, by decide⟩ rfl (Nat.le_of_ble_eq_true rfl) ⟨Nat.zero_le _, Nat.zero_le _⟩ dX8_setHands_30 ?_
            rintro _ _ ⟨rfl, hM1, hF1⟩
            obtain ⟨k0, k1, k2, k3, k4, k5⟩ := id hM1
            refine k_aload_n C dX8_setHands_33 rfl ?_
            refine k_get C (k := 0) inX8 (ci := 8) rfl (by decide) fl_X8_7 dX8_setHands_34 (by repeat (first | exact hs_eq _ _ _ | refine hs_ne (by omega) ?_ | assumption)) rfl ?_
            refine k_bipush C dX8_setHands_37 (by decide +kernel) ?_
            refine k_iaload C dX8_setHands_39 (by repeat (first | exact hs_eq _ _ _ | refine hs_ne (by omega) ?_ | assumption)) (by omega) (by omega) (by omega) ?_
            refine k_istore_n C dX8_setHands_40 (by decide) rfl ?_
            refine k_aload_n C dX8_setHands_41 rfl ?_
            refine k_get C (k := 0) inX8 (ci := 8) rfl (by decide) fl_X8_7 dX8_setHands_42 (by repeat (first | exact hs_eq _ _ _ | refine hs_ne (by omega) ?_ | assumption)) rfl ?_
            refine k_bipush C dX8_setHands_45 (by decide +kernel) ?_
            refine k_iload_n C dX8_setHands_47 rfl ?_
            refine k_iastore C dX8_setHands_48 (by repeat (first | exact hs_eq _ _ _ | refine hs_ne (by omega) ?_ | assumption)) (by omega) (by omega) (by omega) ?_
            refine k_iload_n C dX8_setHands_49 rfl ?_
            refine k_iret C hr dX8_setHands_50 ?_
            first
              | exact Or.inl ⟨by omega, rfl, ⟨(by repeat (first | exact hs_eq _ _ _ | refine hs_ne (by omega) ?_ | assumption)), (by repeat (first | exact hs_eq _ _ _ | refine hs_ne (by omega) ?_ | assumption)), (by repeat (first | exact hs_eq _ _ _ | refine hs_ne (by omega) ?_ | assumption)), (by repeat (first | exact hs_eq _ _ _ | refine hs_ne (by omega) ?_ | assumption)), (by repeat (first | exact hs_eq _ _ _ | refine hs_ne (by omega) ?_ | assumption)), (by repeat (first | exact hs_eq _ _ _ | refine hs_ne (by omega) ?_ | assumption))⟩, Fr.tr (Fr.tr (fun aaa haa => by repeat (first | rfl | refine hs_ne (by omega) ?_)) hF1) (fun aaa haa => by repeat (first | rfl | refine hs_ne (by omega) ?_))⟩
              | exact Or.inr (⟨by omega, rfl, ⟨(by repeat (first | exact hs_eq _ _ _ | refine hs_ne (by omega) ?_ | assumption)), (by repeat (first | exact hs_eq _ _ _ | refine hs_ne (by omega) ?_ | assumption)), (by repeat (first | exact hs_eq _ _ _ | refine hs_ne (by omega) ?_ | assumption)), (by repeat (first | exact hs_eq _ _ _ | refine hs_ne (by omega) ?_ | assumption)), (by repeat (first | exact hs_eq _ _ _ | refine hs_ne (by omega) ?_ | assumption)), (by repeat (first | exact hs_eq _ _ _ | refine hs_ne (by omega) ?_ | assumption))⟩, fun aaa haa => by repeat (first | rfl | refine hs_ne (by omega) ?_)⟩))
        · try (exfalso; omega)
          all_goals (
            refine k_iconst C dX8_setHands_27 ?_
            refine k_iret C hr dX8_setHands_28 ?_
            first
              | exact Or.inl ⟨by omega, rfl, ⟨(by repeat (first | exact hs_eq _ _ _ | refine hs_ne (by omega) ?_ | assumption)), (by repeat (first | exact hs_eq _ _ _ | refine hs_ne (by omega) ?_ | assumption)), (by repeat (first | exact hs_eq _ _ _ | refine hs_ne (by omega) ?_ | assumption)), (by repeat (first | exact hs_eq _ _ _ | refine hs_ne (by omega) ?_ | assumption)), (by repeat (first | exact hs_eq _ _ _ | refine hs_ne (by omega) ?_ | assumption)), (by repeat (first | exact hs_eq _ _ _ | refine hs_ne (by omega) ?_ | assumption))⟩, Fr.tr (Fr.tr (fun aaa haa => by repeat (first | rfl | refine hs_ne (by omega) ?_)) hF1) (fun aaa haa => by repeat (first | rfl | refine hs_ne (by omega) ?_))⟩
              | exact Or.inr (⟨by omega, rfl, ⟨(by repeat (first | exact hs_eq _ _ _ | refine hs_ne (by omega) ?_ | assumption)), (by repeat (first | exact hs_eq _ _ _ | refine hs_ne (by omega) ?_ | assumption)), (by repeat (first | exact hs_eq _ _ _ | refine hs_ne (by omega) ?_ | assumption)), (by repeat (first | exact hs_eq _ _ _ | refine hs_ne (by omega) ?_ | assumption)), (by repeat (first | exact hs_eq _ _ _ | refine hs_ne (by omega) ?_ | assumption)), (by repeat (first | exact hs_eq _ _ _ | refine hs_ne (by omega) ?_ | assumption))⟩, fun aaa haa => by repeat (first | rfl | refine hs_ne (by omega) ?_)⟩)))
    · try (exfalso; omega)
      all_goals (
        refine k_iconst C dX8_setHands_12 ?_
        refine k_goto (tgt := 17) C dX8_setHands_13 (by decide) ?_
        refine k_put C (k := 5) inX8 tyX8_ok nmX8 (ci := 8) rfl (by decide) fl_X8_25 rfl (Nat.le_of_ble_eq_true rfl) dX8_setHands_17 (by repeat (first | exact hs_eq _ _ _ | refine hs_ne (by omega) ?_ | assumption)) ?_
        refine k_aload_n C dX8_setHands_20 rfl ?_
        refine k_get C (k := 5) inX8 (ci := 8) rfl (by decide) fl_X8_25 dX8_setHands_21 (by repeat (first | exact hs_eq _ _ _ | refine hs_ne (by omega) ?_ | assumption)) rfl ?_
        refine k_if_le (tgt := 29) C dX8_setHands_24 (by decide) ⟨by omega, by omega⟩ (fun c24 => ?_) (fun c24 => ?_)
        · try (exfalso; omega)
          all_goals (
            refine k_aload_n C dX8_setHands_29 rfl ?_
            refine k_callV C (n := 0) (as := []) (ct_X8_save l D tc base oo zrr hhi htx has hro st ln (0) re du hsh _ ⟨(by repeat (first | exact hs_eq _ _ _ | refine hs_ne (by omega) ?_ | assumption)), (by repeat (first | exact hs_eq _ _ _ | refine hs_ne (by omega) ?_ | assumption)), (by repeat (first | exact hs_eq _ _ _ | refine hs_ne (by omega) ?_ | assumption)), (by repeat (first | exact hs_eq _ _ _ | refine hs_ne (by omega) ?_ | assumption)), (by repeat (first | exact hs_eq _ _ _ | refine hs_ne (by omega) ?_ | assumption)), (by repeat (first | exact hs_eq _ _ _ | refine hs_ne (by omega) ?_ | assumption))⟩ hst) ml_X8_102 im_X8_save se_X8_save ini_X8 co_X8_save ⟨rfl, by decide, by decide, by decide +kernel⟩ rfl (ci := 8) rfl (by repeat (first | exact hs_eq _ _ _ | refine hs_ne (by omega) ?_ | assumption)) ⟨by decide, by decide⟩ rfl (Nat.le_of_ble_eq_true rfl) ⟨Nat.zero_le _, Nat.zero_le _⟩ dX8_setHands_30 ?_
            rintro _ _ ⟨rfl, hM1, hF1⟩
            obtain ⟨k0, k1, k2, k3, k4, k5⟩ := id hM1
            refine k_aload_n C dX8_setHands_33 rfl ?_
            refine k_get C (k := 0) inX8 (ci := 8) rfl (by decide) fl_X8_7 dX8_setHands_34 (by repeat (first | exact hs_eq _ _ _ | refine hs_ne (by omega) ?_ | assumption)) rfl ?_
            refine k_bipush C dX8_setHands_37 (by decide +kernel) ?_
            refine k_iaload C dX8_setHands_39 (by repeat (first | exact hs_eq _ _ _ | refine hs_ne (by omega) ?_ | assumption)) (by omega) (by omega) (by omega) ?_
            refine k_istore_n C dX8_setHands_40 (by decide) rfl ?_
            refine k_aload_n C dX8_setHands_41 rfl ?_
            refine k_get C (k := 0) inX8 (ci := 8) rfl (by decide) fl_X8_7 dX8_setHands_42 (by repeat (first | exact hs_eq _ _ _ | refine hs_ne (by omega) ?_ | assumption)) rfl ?_
            refine k_bipush C dX8_setHands_45 (by decide +kernel) ?_
            refine k_iload_n C dX8_setHands_47 rfl ?_
            refine k_iastore C dX8_setHands_48 (by repeat (first | exact hs_eq _ _ _ | refine hs_ne (by omega) ?_ | assumption)) (by omega) (by omega) (by omega) ?_
            refine k_iload_n C dX8_setHands_49 rfl ?_
            refine k_iret C hr dX8_setHands_50 ?_
            first
              | exact Or.inl ⟨by omega, rfl, ⟨(by repeat (first | exact hs_eq _ _ _ | refine hs_ne (by omega) ?_ | assumption)), (by repeat (first | exact hs_eq _ _ _ | refine hs_ne (by omega) ?_ | assumption)), (by repeat (first | exact hs_eq _ _ _ | refine hs_ne (by omega) ?_ | assumption)), (by repeat (first | exact hs_eq _ _ _ | refine hs_ne (by omega) ?_ | assumption)), (by repeat (first | exact hs_eq _ _ _ | refine hs_ne (by omega) ?_ | assumption)), (by repeat (first | exact hs_eq _ _ _ | refine hs_ne (by omega) ?_ | assumption))⟩, Fr.tr (Fr.tr (fun aaa haa => by repeat (first | rfl | refine hs_ne (by omega) ?_)) hF1) (fun aaa haa => by repeat (first | rfl | refine hs_ne (by omega) ?_))⟩
              | exact Or.inr (⟨by omega, rfl, ⟨(by repeat (first | exact hs_eq _ _ _ | refine hs_ne (by omega) ?_ | assumption)), (by repeat (first | exact hs_eq _ _ _ | refine hs_ne (by omega) ?_ | assumption)), (by repeat (first | exact hs_eq _ _ _ | refine hs_ne (by omega) ?_ | assumption)), (by repeat (first | exact hs_eq _ _ _ | refine hs_ne (by omega) ?_ | assumption)), (by repeat (first | exact hs_eq _ _ _ | refine hs_ne (by omega) ?_ | assumption)), (by repeat (first | exact hs_eq _ _ _ | refine hs_ne (by omega) ?_ | assumption))⟩, fun aaa haa => by repeat (first | rfl | refine hs_ne (by omega) ?_)⟩))
        · try (exfalso; omega)
          all_goals (
            refine k_iconst C dX8_setHands_27 ?_
            refine k_iret C hr dX8_setHands_28 ?_
            first
              | exact Or.inl ⟨by omega, rfl, ⟨(by repeat (first | exact hs_eq _ _ _ | refine hs_ne (by omega) ?_ | assumption)), (by repeat (first | exact hs_eq _ _ _ | refine hs_ne (by omega) ?_ | assumption)), (by repeat (first | exact hs_eq _ _ _ | refine hs_ne (by omega) ?_ | assumption)), (by repeat (first | exact hs_eq _ _ _ | refine hs_ne (by omega) ?_ | assumption)), (by repeat (first | exact hs_eq _ _ _ | refine hs_ne (by omega) ?_ | assumption)), (by repeat (first | exact hs_eq _ _ _ | refine hs_ne (by omega) ?_ | assumption))⟩, Fr.tr (Fr.tr (fun aaa haa => by repeat (first | rfl | refine hs_ne (by omega) ?_)) hF1) (fun aaa haa => by repeat (first | rfl | refine hs_ne (by omega) ?_))⟩
              | exact Or.inr (⟨by omega, rfl, ⟨(by repeat (first | exact hs_eq _ _ _ | refine hs_ne (by omega) ?_ | assumption)), (by repeat (first | exact hs_eq _ _ _ | refine hs_ne (by omega) ?_ | assumption)), (by repeat (first | exact hs_eq _ _ _ | refine hs_ne (by omega) ?_ | assumption)), (by repeat (first | exact hs_eq _ _ _ | refine hs_ne (by omega) ?_ | assumption)), (by repeat (first | exact hs_eq _ _ _ | refine hs_ne (by omega) ?_ | assumption)), (by repeat (first | exact hs_eq _ _ _ | refine hs_ne (by omega) ?_ | assumption))⟩, fun aaa haa => by repeat (first | rfl | refine hs_ne (by omega) ?_)⟩)))

set_option maxRecDepth 20000 in
set_option maxHeartbeats 1000000 in
theorem ct_X8_mend (l : Launch) (D : va_G) (tc : Nat → ClassId) (base : Nat) (oo : Nat) (zrr hhi htx has hro : Int → Int) (st ln th re du hsh : Int) (hpp : AH) (hM : MA hpp oo zrr hhi htx has hro st ln th re du hsh) (hi : zInv zrr) (hst : 0 ≤ st ∧ st ≤ 6) : CT l D tc base yX8_mend cX8_mend 2 (some .int) 1 [aR oo] hpp (fun r h' => (True ∧ r = some (aI (zrr 12)) ∧ MA h' oo (iu zrr 12 0) (sHi zrr hhi st) (htx) (has) (hro) (sSt st) (ln) (0) (re) (du) (hsh) ∧ Fr hpp h' oo 6)) := by
  refine CT.of [some (aR oo), none] (by decide +kernel) rfl (Nat.le_of_ble_eq_true rfl) ?_
  intro p e s m args below meth c C hr hnm
  obtain ⟨g0, g1, g2, g3, g4, g5⟩ := id hM
  refine k_aload_n C dX8_mend_0 rfl ?_
  refine k_iconst C dX8_mend_1 ?_
  refine k_put C (k := 5) inX8 tyX8_ok nmX8 (ci := 8) rfl (by decide) fl_X8_25 rfl (Nat.le_of_ble_eq_true rfl) dX8_mend_2 (by repeat (first | exact hs_eq _ _ _ | refine hs_ne (by omega) ?_ | assumption)) ?_
  refine k_aload_n C dX8_mend_5 rfl ?_
  refine k_callV C (n := 0) (as := []) (ct_X8_save l D tc base oo zrr hhi htx has hro st ln (0) re du hsh _ ⟨(by repeat (first | exact hs_eq _ _ _ | refine hs_ne (by omega) ?_ | assumption)), (by repeat (first | exact hs_eq _ _ _ | refine hs_ne (by omega) ?_ | assumption)), (by repeat (first | exact hs_eq _ _ _ | refine hs_ne (by omega) ?_ | assumption)), (by repeat (first | exact hs_eq _ _ _ | refine hs_ne (by omega) ?_ | assumption)), (by repeat (first | exact hs_eq _ _ _ | refine hs_ne (by omega) ?_ | assumption)), (by repeat (first | exact hs_eq _ _ _ | refine hs_ne (by omega) ?_ | assumption))⟩ hst) ml_X8_102 im_X8_save se_X8_save ini_X8 co_X8_save ⟨rfl, by decide, by decide, by decide +kernel⟩ rfl (ci := 8) rfl (by repeat (first | exact hs_eq _ _ _ | refine hs_ne (by omega) ?_ | assumption)) ⟨by decide, by decide⟩ rfl (Nat.le_of_ble_eq_true rfl) ⟨Nat.zero_le _, Nat.zero_le _⟩ dX8_mend_6 ?_
  rintro _ _ ⟨rfl, hM1, hF1⟩
  obtain ⟨k0, k1, k2, k3, k4, k5⟩ := id hM1
  refine k_aload_n C dX8_mend_9 rfl ?_
  refine k_get C (k := 0) inX8 (ci := 8) rfl (by decide) fl_X8_7 dX8_mend_10 (by repeat (first | exact hs_eq _ _ _ | refine hs_ne (by omega) ?_ | assumption)) rfl ?_
  refine k_bipush C dX8_mend_13 (by decide +kernel) ?_
  refine k_iaload C dX8_mend_15 (by repeat (first | exact hs_eq _ _ _ | refine hs_ne (by omega) ?_ | assumption)) (by omega) (by omega) (by omega) ?_
  refine k_istore_n C dX8_mend_16 (by decide) rfl ?_
  refine k_aload_n C dX8_mend_17 rfl ?_
  refine k_get C (k := 0) inX8 (ci := 8) rfl (by decide) fl_X8_7 dX8_mend_18 (by repeat (first | exact hs_eq _ _ _ | refine hs_ne (by omega) ?_ | assumption)) rfl ?_
  refine k_bipush C dX8_mend_21 (by decide +kernel) ?_
  refine k_iconst C dX8_mend_23 ?_
  refine k_iastore C dX8_mend_24 (by repeat (first | exact hs_eq _ _ _ | refine hs_ne (by omega) ?_ | assumption)) (by omega) (by omega) (by omega) ?_
  refine k_iload_n C dX8_mend_25 rfl ?_
  refine k_iret C hr dX8_mend_26 ?_
  exact ⟨trivial, rfl, ⟨(by repeat (first | exact hs_eq _ _ _ | refine hs_ne (by omega) ?_ | assumption)), (by repeat (first | exact hs_eq _ _ _ | refine hs_ne (by omega) ?_ | assumption)), (by repeat (first | exact hs_eq _ _ _ | refine hs_ne (by omega) ?_ | assumption)), (by repeat (first | exact hs_eq _ _ _ | refine hs_ne (by omega) ?_ | assumption)), (by repeat (first | exact hs_eq _ _ _ | refine hs_ne (by omega) ?_ | assumption)), (by repeat (first | exact hs_eq _ _ _ | refine hs_ne (by omega) ?_ | assumption))⟩, Fr.tr (Fr.tr (fun aaa haa => by repeat (first | rfl | refine hs_ne (by omega) ?_)) hF1) (fun aaa haa => by repeat (first | rfl | refine hs_ne (by omega) ?_))⟩

set_option maxRecDepth 20000 in
set_option maxHeartbeats 1000000 in
theorem ct_X8_forgive (l : Launch) (D : va_G) (tc : Nat → ClassId) (base : Nat) (oo : Nat) (zrr hhi htx has hro : Int → Int) (st ln th re du hsh : Int) (hpp : AH) (hM : MA hpp oo zrr hhi htx has hro st ln th re du hsh) (hi : zInv zrr) (hst : 0 ≤ st ∧ st ≤ 6) : CT l D tc base yX8_forgive cX8_forgive 2 (some .int) 1 [aR oo] hpp (fun r h' => (True ∧ r = some (aI (zOwed zrr)) ∧ MA h' oo (iu (iu zrr 15 (zrr 15 + zOwed zrr)) 52 0) (sHi zrr hhi st) (htx) (has) (hro) (sSt st) (ln) (0) (re) (du) (hsh) ∧ Fr hpp h' oo 6)) := by
  refine CT.of [some (aR oo), none] (by decide +kernel) rfl (Nat.le_of_ble_eq_true rfl) ?_
  intro p e s m args below meth c C hr hnm
  obtain ⟨g0, g1, g2, g3, g4, g5⟩ := id hM
  refine k_aload_n C dX8_forgive_0 rfl ?_
  refine k_iconst C dX8_forgive_1 ?_
  refine k_put C (k := 5) inX8 tyX8_ok nmX8 (ci := 8) rfl (by decide) fl_X8_25 rfl (Nat.le_of_ble_eq_true rfl) dX8_forgive_2 (by repeat (first | exact hs_eq _ _ _ | refine hs_ne (by omega) ?_ | assumption)) ?_
  refine k_aload_n C dX8_forgive_5 rfl ?_
  refine k_callV C (n := 0) (as := []) (ct_X8_save l D tc base oo zrr hhi htx has hro st ln (0) re du hsh _ ⟨(by repeat (first | exact hs_eq _ _ _ | refine hs_ne (by omega) ?_ | assumption)), (by repeat (first | exact hs_eq _ _ _ | refine hs_ne (by omega) ?_ | assumption)), (by repeat (first | exact hs_eq _ _ _ | refine hs_ne (by omega) ?_ | assumption)), (by repeat (first | exact hs_eq _ _ _ | refine hs_ne (by omega) ?_ | assumption)), (by repeat (first | exact hs_eq _ _ _ | refine hs_ne (by omega) ?_ | assumption)), (by repeat (first | exact hs_eq _ _ _ | refine hs_ne (by omega) ?_ | assumption))⟩ hst) ml_X8_102 im_X8_save se_X8_save ini_X8 co_X8_save ⟨rfl, by decide, by decide, by decide +kernel⟩ rfl (ci := 8) rfl (by repeat (first | exact hs_eq _ _ _ | refine hs_ne (by omega) ?_ | assumption)) ⟨by decide, by decide⟩ rfl (Nat.le_of_ble_eq_true rfl) ⟨Nat.zero_le _, Nat.zero_le _⟩ dX8_forgive_6 ?_
  rintro _ _ ⟨rfl, hM1, hF1⟩
  obtain ⟨k0, k1, k2, k3, k4, k5⟩ := id hM1
  refine k_aload_n C dX8_forgive_9 rfl ?_
  refine k_callV C (n := 0) (as := []) (ct_X8_owed l D tc base oo (oo + 1) _ _ _ (by repeat (first | exact hs_eq _ _ _ | refine hs_ne (by omega) ?_ | assumption)) (by repeat (first | exact hs_eq _ _ _ | refine hs_ne (by omega) ?_ | assumption)) (by omega) hi) ml_X8_109 im_X8_owed se_X8_owed ini_X8 co_X8_owed ⟨rfl, by decide, by decide, by decide +kernel⟩ rfl (ci := 8) rfl (by repeat (first | exact hs_eq _ _ _ | refine hs_ne (by omega) ?_ | assumption)) ⟨by decide, by decide⟩ rfl (Nat.le_of_ble_eq_true rfl) ⟨Nat.zero_le _, Nat.zero_le _⟩ dX8_forgive_10 ?_
  rintro _ _ ⟨rfl, rfl⟩
  refine k_istore_n C dX8_forgive_13 (by decide) rfl ?_
  refine k_aload_n C dX8_forgive_14 rfl ?_
  refine k_get C (k := 0) inX8 (ci := 8) rfl (by decide) fl_X8_7 dX8_forgive_15 (by repeat (first | exact hs_eq _ _ _ | refine hs_ne (by omega) ?_ | assumption)) rfl ?_
  refine k_bipush C dX8_forgive_18 (by decide +kernel) ?_
  refine k_dup2 C dX8_forgive_20 rfl rfl ?_
  refine k_iaload C dX8_forgive_21 (by repeat (first | exact hs_eq _ _ _ | refine hs_ne (by omega) ?_ | assumption)) (by omega) (by omega) (by omega) ?_
  refine k_iload_n C dX8_forgive_22 rfl ?_
  refine k_iadd C dX8_forgive_23 ?_
  refine k_iastore C dX8_forgive_24 (by repeat (first | exact hs_eq _ _ _ | refine hs_ne (by omega) ?_ | assumption)) (by omega) (by omega) (by omega) ?_
  refine k_aload_n C dX8_forgive_25 rfl ?_
  refine k_get C (k := 0) inX8 (ci := 8) rfl (by decide) fl_X8_7 dX8_forgive_26 (by repeat (first | exact hs_eq _ _ _ | refine hs_ne (by omega) ?_ | assumption)) rfl ?_
  refine k_bipush C dX8_forgive_29 (by decide +kernel) ?_
  refine k_iconst C dX8_forgive_31 ?_
  refine k_iastore C dX8_forgive_32 (by repeat (first | exact hs_eq _ _ _ | refine hs_ne (by omega) ?_ | assumption)) (by omega) (by omega) (by omega) ?_
  refine k_iload_n C dX8_forgive_33 rfl ?_
  refine k_iret C hr dX8_forgive_34 ?_
  exact ⟨trivial, rfl, ⟨(by repeat (first | exact hs_eq _ _ _ | refine hs_ne (by omega) ?_ | assumption)), (by repeat (first | exact hs_eq _ _ _ | refine hs_ne (by omega) ?_ | assumption)), (by repeat (first | exact hs_eq _ _ _ | refine hs_ne (by omega) ?_ | assumption)), (by repeat (first | exact hs_eq _ _ _ | refine hs_ne (by omega) ?_ | assumption)), (by repeat (first | exact hs_eq _ _ _ | refine hs_ne (by omega) ?_ | assumption)), (by repeat (first | exact hs_eq _ _ _ | refine hs_ne (by omega) ?_ | assumption))⟩, Fr.tr (Fr.tr (fun aaa haa => by repeat (first | rfl | refine hs_ne (by omega) ?_)) hF1) (fun aaa haa => by repeat (first | rfl | refine hs_ne (by omega) ?_))⟩

set_option maxRecDepth 20000 in
set_option maxHeartbeats 1000000 in
theorem ct_X8_isValue (l : Launch) (D : va_G) (tc : Nat → ClassId) (base : Nat) (ww vv : Int) (hpp : AH) (hw : 0 ≤ ww ∧ ww ≤ 5) (hv : r32 vv) : CT l D tc base yX8_isValue cX8_isValue 2 (some .boolean) 1 [aI ww, aI vv] hpp (fun r h' => (r = some (aI 1) ∧ hpp = h' ∧ ((ww = 0 → 2 ≤ vv ∧ vv ≤ 30) ∧ (ww = 1 → 0 ≤ vv ∧ vv ≤ 20) ∧ (ww = 2 → 1 ≤ vv ∧ vv ≤ 20) ∧ (ww = 3 → 1 ≤ vv ∧ vv ≤ 12) ∧ (ww = 4 → 0 ≤ vv ∧ vv ≤ 12) ∧ (ww = 5 → 1 ≤ vv ∧ vv ≤ 12))) ∨ (r = some (aI 0) ∧ hpp = h' ∧ ¬ ((ww = 0 → 2 ≤ vv ∧ vv ≤ 30) ∧ (ww = 1 → 0 ≤ vv ∧ vv ≤ 20) ∧ (ww = 2 → 1 ≤ vv ∧ vv ≤ 20) ∧ (ww = 3 → 1 ≤ vv ∧ vv ≤ 12) ∧ (ww = 4 → 0 ≤ vv ∧ vv ≤ 12) ∧ (ww = 5 → 1 ≤ vv ∧ vv ≤ 12)))) := by
  refine CT.of [some (aI ww), some (aI vv)] (by decide +kernel) rfl (Nat.le_of_ble_eq_true rfl) ?_
  intro p e s m args below meth c C hr hnm
  refine k_iload_n C dX8_isValue_0 rfl ?_
  refine k_tsw (dt := 68) C [36, 44, 52, 68, 60] dX8_isValue_1 ⟨by omega, by omega⟩ (by decide) (by decide) (by decide) (And.intro (fun c1 => ?_) (And.intro (fun c1 => ?_) (And.intro (fun c1 => ?_) (And.intro (fun c1 => ?_) (And.intro (fun c1 => ?_) trivial))))) (fun c1 => ?_)
  · try (exfalso; omega)
    all_goals (
      refine k_iload_n C dX8_isValue_36 rfl ?_
      refine k_iconst C dX8_isValue_37 ?_
      refine k_bipush C dX8_isValue_38 (by decide +kernel) ?_
      refine k_callS C (n := 3) (as := [_, _, _]) (ct_X8_within l D tc base _ _ _ _ hv ⟨by omega, by omega⟩ ⟨by omega, by omega⟩) ml_X8_92 sm_X8_within ini_X8 co_X8_within ⟨by decide, by decide, by decide +kernel⟩ rfl ⟨by decide, by decide⟩ rfl (Nat.le_of_ble_eq_true rfl) ⟨Nat.zero_le _, Nat.zero_le _⟩ dX8_isValue_40 ?_
      rintro _ _ (⟨rfl, rfl, hq⟩ | ⟨rfl, rfl, hq⟩)
      · skip
        refine k_zret C hr dX8_isValue_43 (by omega) ?_
        first | exact Or.inl ⟨rfl, rfl, by omega⟩ | exact Or.inr ⟨rfl, rfl, by omega⟩
      · skip
        refine k_zret C hr dX8_isValue_43 (by omega) ?_
        first | exact Or.inl ⟨rfl, rfl, by omega⟩ | exact Or.inr ⟨rfl, rfl, by omega⟩)
  · try (exfalso; omega)
    all_goals (
      refine k_iload_n C dX8_isValue_44 rfl ?_
      refine k_iconst C dX8_isValue_45 ?_
      refine k_bipush C dX8_isValue_46 (by decide +kernel) ?_
      refine k_callS C (n := 3) (as := [_, _, _]) (ct_X8_within l D tc base _ _ _ _ hv ⟨by omega, by omega⟩ ⟨by omega, by omega⟩) ml_X8_92 sm_X8_within ini_X8 co_X8_within ⟨by decide, by decide, by decide +kernel⟩ rfl ⟨by decide, by decide⟩ rfl (Nat.le_of_ble_eq_true rfl) ⟨Nat.zero_le _, Nat.zero_le _⟩ dX8_isValue_48 ?_
      rintro _ _ (⟨rfl, rfl, hq⟩ | ⟨rfl, rfl, hq⟩)
      · skip
        refine k_zret C hr dX8_isValue_51 (by omega) ?_
        first | exact Or.inl ⟨rfl, rfl, by omega⟩ | exact Or.inr ⟨rfl, rfl, by omega⟩
      · skip
        refine k_zret C hr dX8_isValue_51 (by omega) ?_
        first | exact Or.inl ⟨rfl, rfl, by omega⟩ | exact Or.inr ⟨rfl, rfl, by omega⟩)
  · try (exfalso; omega)
    all_goals (
      refine k_iload_n C dX8_isValue_52 rfl ?_
      refine k_iconst C dX8_isValue_53 ?_
      refine k_bipush C dX8_isValue_54 (by decide +kernel) ?_
      refine k_callS C (n := 3) (as := [_, _, _]) (ct_X8_within l D tc base _ _ _ _ hv ⟨by omega, by omega⟩ ⟨by omega, by omega⟩) ml_X8_92 sm_X8_within ini_X8 co_X8_within ⟨by decide, by decide, by decide +kernel⟩ rfl ⟨by decide, by decide⟩ rfl (Nat.le_of_ble_eq_true rfl) ⟨Nat.zero_le _, Nat.zero_le _⟩ dX8_isValue_56 ?_
      rintro _ _ (⟨rfl, rfl, hq⟩ | ⟨rfl, rfl, hq⟩)
      · skip
        refine k_zret C hr dX8_isValue_59 (by omega) ?_
        first | exact Or.inl ⟨rfl, rfl, by omega⟩ | exact Or.inr ⟨rfl, rfl, by omega⟩
      · skip
        refine k_zret C hr dX8_isValue_59 (by omega) ?_
        first | exact Or.inl ⟨rfl, rfl, by omega⟩ | exact Or.inr ⟨rfl, rfl, by omega⟩)
  · try (exfalso; omega)
    all_goals (
      refine k_iload_n C dX8_isValue_68 rfl ?_
      refine k_iconst C dX8_isValue_69 ?_
      refine k_bipush C dX8_isValue_70 (by decide +kernel) ?_
      refine k_callS C (n := 3) (as := [_, _, _]) (ct_X8_within l D tc base _ _ _ _ hv ⟨by omega, by omega⟩ ⟨by omega, by omega⟩) ml_X8_92 sm_X8_within ini_X8 co_X8_within ⟨by decide, by decide, by decide +kernel⟩ rfl ⟨by decide, by decide⟩ rfl (Nat.le_of_ble_eq_true rfl) ⟨Nat.zero_le _, Nat.zero_le _⟩ dX8_isValue_72 ?_
      rintro _ _ (⟨rfl, rfl, hq⟩ | ⟨rfl, rfl, hq⟩)
      · skip
        refine k_zret C hr dX8_isValue_75 (by omega) ?_
        first | exact Or.inl ⟨rfl, rfl, by omega⟩ | exact Or.inr ⟨rfl, rfl, by omega⟩
      · skip
        refine k_zret C hr dX8_isValue_75 (by omega) ?_
        first | exact Or.inl ⟨rfl, rfl, by omega⟩ | exact Or.inr ⟨rfl, rfl, by omega⟩)
  · try (exfalso; omega)
    all_goals (
      refine k_iload_n C dX8_isValue_60 rfl ?_
      refine k_iconst C dX8_isValue_61 ?_
      refine k_bipush C dX8_isValue_62 (by decide +kernel) ?_
      refine k_callS C (n := 3) (as := [_, _, _]) (ct_X8_within l D tc base _ _ _ _ hv ⟨by omega, by omega⟩ ⟨by omega, by omega⟩) ml_X8_92 sm_X8_within ini_X8 co_X8_within ⟨by decide, by decide, by decide +kernel⟩ rfl ⟨by decide, by decide⟩ rfl (Nat.le_of_ble_eq_true rfl) ⟨Nat.zero_le _, Nat.zero_le _⟩ dX8_isValue_64 ?_
      rintro _ _ (⟨rfl, rfl, hq⟩ | ⟨rfl, rfl, hq⟩)
      · skip
        refine k_zret C hr dX8_isValue_67 (by omega) ?_
        first | exact Or.inl ⟨rfl, rfl, by omega⟩ | exact Or.inr ⟨rfl, rfl, by omega⟩
      · skip
        refine k_zret C hr dX8_isValue_67 (by omega) ?_
        first | exact Or.inl ⟨rfl, rfl, by omega⟩ | exact Or.inr ⟨rfl, rfl, by omega⟩)
  · try (exfalso; omega)
    all_goals (
      refine k_iload_n C dX8_isValue_68 rfl ?_
      refine k_iconst C dX8_isValue_69 ?_
      refine k_bipush C dX8_isValue_70 (by decide +kernel) ?_
      refine k_callS C (n := 3) (as := [_, _, _]) (ct_X8_within l D tc base _ _ _ _ hv ⟨by omega, by omega⟩ ⟨by omega, by omega⟩) ml_X8_92 sm_X8_within ini_X8 co_X8_within ⟨by decide, by decide, by decide +kernel⟩ rfl ⟨by decide, by decide⟩ rfl (Nat.le_of_ble_eq_true rfl) ⟨Nat.zero_le _, Nat.zero_le _⟩ dX8_isValue_72 ?_
      rintro _ _ (⟨rfl, rfl, hq⟩ | ⟨rfl, rfl, hq⟩)
      · skip
        refine k_zret C hr dX8_isValue_75 (by omega) ?_
        first | exact Or.inl ⟨rfl, rfl, by omega⟩ | exact Or.inr ⟨rfl, rfl, by omega⟩
      · skip
        refine k_zret C hr dX8_isValue_75 (by omega) ?_
        first | exact Or.inl ⟨rfl, rfl, by omega⟩ | exact Or.inr ⟨rfl, rfl, by omega⟩)

set_option maxRecDepth 20000 in
set_option maxHeartbeats 1000000 in
theorem ct_X8_set (l : Launch) (D : va_G) (tc : Nat → ClassId) (base : Nat) (oo : Nat) (zrr hhi htx has hro : Int → Int) (st ln th re du hsh : Int) (hpp : AH) (hM : MA hpp oo zrr hhi htx has hro st ln th re du hsh) (ww vv : Int) (hw : r32 ww) (hv : r32 vv) (hi : zInv zrr) (hst : 0 ≤ st ∧ st ≤ 6) : CT l D tc base yX8_set cX8_set 4 (some .int) 2 [aR oo, aI ww, aI vv] hpp (fun r h' => (((0 ≤ ww ∧ ww ≤ 5) ∧ ((ww = 0 → 2 ≤ vv ∧ vv ≤ 30) ∧ (ww = 1 → 0 ≤ vv ∧ vv ≤ 20) ∧ (ww = 2 → 1 ≤ vv ∧ vv ≤ 20) ∧ (ww = 3 → 1 ≤ vv ∧ vv ≤ 12) ∧ (ww = 4 → 0 ≤ vv ∧ vv ≤ 12) ∧ (ww = 5 → 1 ≤ vv ∧ vv ≤ 12))) ∧ r = some (aI (zrr (61 + ww))) ∧ MA h' oo (iu (iu zrr (61 + ww) vv) 9 (mnI (zrr 9) (iu zrr (61 + ww) vv 61))) (sHi zrr hhi st) (htx) (has) (hro) (sSt st) (ln) (0) (re) (du) (hsh) ∧ Fr hpp h' oo 6) ∨ (¬ (0 ≤ ww ∧ ww ≤ 5) ∧ r = some (aI (0)) ∧ MA h' oo (zrr) (hhi) (htx) (has) (hro) (st) (ln) (1) (re) (du) (hsh) ∧ Fr hpp h' oo 6) ∨ (((0 ≤ ww ∧ ww ≤ 5) ∧ ¬ ((ww = 0 → 2 ≤ vv ∧ vv ≤ 30) ∧ (ww = 1 → 0 ≤ vv ∧ vv ≤ 20) ∧ (ww = 2 → 1 ≤ vv ∧ vv ≤ 20) ∧ (ww = 3 → 1 ≤ vv ∧ vv ≤ 12) ∧ (ww = 4 → 0 ≤ vv ∧ vv ≤ 12) ∧ (ww = 5 → 1 ≤ vv ∧ vv ≤ 12))) ∧ r = some (aI (0)) ∧ MA h' oo (zrr) (hhi) (htx) (has) (hro) (st) (ln) (2) (re) (du) (hsh) ∧ Fr hpp h' oo 6)) := by
  refine CT.of [some (aR oo), some (aI ww), some (aI vv), none] (by decide +kernel) rfl (Nat.le_of_ble_eq_true rfl) ?_
  intro p e s m args below meth c C hr hnm
  obtain ⟨g0, g1, g2, g3, g4, g5⟩ := id hM
  obtain ⟨⟨v0, v1, v2, v9, v10, v11, v12, v13, v21, v52, v61, v62, v63, v64, v65, v66⟩, hwi, hde⟩ := id hi
  refine k_aload_n C dX8_set_0 rfl ?_
  refine k_iload_n C dX8_set_1 rfl ?_
  refine k_iconst C dX8_set_2 ?_
  refine k_iconst C dX8_set_3 ?_
  refine k_callS C (n := 3) (as := [_, _, _]) (ct_X8_within l D tc base _ _ _ _ hw ⟨by omega, by omega⟩ ⟨by omega, by omega⟩) ml_X8_92 sm_X8_within ini_X8 co_X8_within ⟨by decide, by decide, by decide +kernel⟩ rfl ⟨by decide, by decide⟩ rfl (Nat.le_of_ble_eq_true rfl) ⟨Nat.zero_le _, Nat.zero_le _⟩ dX8_set_4 ?_
  rintro _ _ (⟨rfl, rfl, hq4⟩ | ⟨rfl, rfl, hq4⟩)
  · skip
    refine k_if_ne (tgt := 14) C dX8_set_7 (by decide) ⟨by omega, by omega⟩ (fun c7 => ?_) (fun c7 => ?_)
    · try (exfalso; omega)
      all_goals (
        refine k_iload_n C dX8_set_14 rfl ?_
        refine k_iload_n C dX8_set_15 rfl ?_
        refine k_callS C (n := 2) (as := [_, _]) (ct_X8_isValue l D tc base _ _ _ (by omega) hv) ml_X8_105 sm_X8_isValue ini_X8 co_X8_isValue ⟨by decide, by decide, by decide +kernel⟩ rfl ⟨by decide, by decide⟩ rfl (Nat.le_of_ble_eq_true rfl) ⟨Nat.zero_le _, Nat.zero_le _⟩ dX8_set_16 ?_
        rintro _ _ (⟨rfl, rfl, hq16⟩ | ⟨rfl, rfl, hq16⟩)
        · skip
          refine k_if_eq (tgt := 26) C dX8_set_19 (by decide) ⟨by omega, by omega⟩ (fun c19 => ?_) (fun c19 => ?_)
          · try (exfalso; omega)
            all_goals (
              refine k_iconst C dX8_set_26 ?_
              refine k_put C (k := 5) inX8 tyX8_ok nmX8 (ci := 8) rfl (by decide) fl_X8_25 rfl (Nat.le_of_ble_eq_true rfl) dX8_set_27 (by repeat (first | exact hs_eq _ _ _ | refine hs_ne (by omega) ?_ | assumption)) ?_
              refine k_aload_n C dX8_set_30 rfl ?_
              refine k_get C (k := 5) inX8 (ci := 8) rfl (by decide) fl_X8_25 dX8_set_31 (by repeat (first | exact hs_eq _ _ _ | refine hs_ne (by omega) ?_ | assumption)) rfl ?_
              refine k_if_le (tgt := 39) C dX8_set_34 (by decide) ⟨by omega, by omega⟩ (fun c34 => ?_) (fun c34 => ?_)
              · try (exfalso; omega)
                all_goals (
                  refine k_aload_n C dX8_set_39 rfl ?_
                  refine k_callV C (n := 0) (as := []) (ct_X8_save l D tc base oo zrr hhi htx has hro st ln (0) re du hsh _ ⟨(by repeat (first | exact hs_eq _ _ _ | refine hs_ne (by omega) ?_ | assumption)), (by repeat (first | exact hs_eq _ _ _ | refine hs_ne (by omega) ?_ | assumption)), (by repeat (first | exact hs_eq _ _ _ | refine hs_ne (by omega) ?_ | assumption)), (by repeat (first | exact hs_eq _ _ _ | refine hs_ne (by omega) ?_ | assumption)), (by repeat (first | exact hs_eq _ _ _ | refine hs_ne (by omega) ?_ | assumption)), (by repeat (first | exact hs_eq _ _ _ | refine hs_ne (by omega) ?_ | assumption))⟩ hst) ml_X8_102 im_X8_save se_X8_save ini_X8 co_X8_save ⟨rfl, by decide, by decide, by decide +kernel⟩ rfl (ci := 8) rfl (by repeat (first | exact hs_eq _ _ _ | refine hs_ne (by omega) ?_ | assumption)) ⟨by decide, by decide⟩ rfl (Nat.le_of_ble_eq_true rfl) ⟨Nat.zero_le _, Nat.zero_le _⟩ dX8_set_40 ?_
                  rintro _ _ ⟨rfl, hM1, hF1⟩
                  obtain ⟨k0, k1, k2, k3, k4, k5⟩ := id hM1
                  refine k_aload_n C dX8_set_43 rfl ?_
                  refine k_get C (k := 0) inX8 (ci := 8) rfl (by decide) fl_X8_7 dX8_set_44 (by repeat (first | exact hs_eq _ _ _ | refine hs_ne (by omega) ?_ | assumption)) rfl ?_
                  refine k_bipush C dX8_set_47 (by decide +kernel) ?_
                  refine k_iload_n C dX8_set_49 rfl ?_
                  refine k_iadd C dX8_set_50 ?_
                  refine k_iaload C dX8_set_51 (by repeat (first | exact hs_eq _ _ _ | refine hs_ne (by omega) ?_ | assumption)) (by omega) (by omega) (by omega) ?_
                  try simp (disch := omega) only [iu_ne (j := 61 + ww)]
                  refine k_istore_n C dX8_set_52 (by decide) rfl ?_
                  refine k_aload_n C dX8_set_53 rfl ?_
                  refine k_get C (k := 0) inX8 (ci := 8) rfl (by decide) fl_X8_7 dX8_set_54 (by repeat (first | exact hs_eq _ _ _ | refine hs_ne (by omega) ?_ | assumption)) rfl ?_
                  refine k_bipush C dX8_set_57 (by decide +kernel) ?_
                  refine k_iload_n C dX8_set_59 rfl ?_
                  refine k_iadd C dX8_set_60 ?_
                  refine k_iload_n C dX8_set_61 rfl ?_
                  refine k_iastore C dX8_set_62 (by repeat (first | exact hs_eq _ _ _ | refine hs_ne (by omega) ?_ | assumption)) (by omega) (by omega) (by omega) ?_
                  refine k_aload_n C dX8_set_63 rfl ?_
                  refine k_get C (k := 0) inX8 (ci := 8) rfl (by decide) fl_X8_7 dX8_set_64 (by repeat (first | exact hs_eq _ _ _ | refine hs_ne (by omega) ?_ | assumption)) rfl ?_
                  refine k_bipush C dX8_set_67 (by decide +kernel) ?_
                  refine k_aload_n C dX8_set_69 rfl ?_
                  refine k_get C (k := 0) inX8 (ci := 8) rfl (by decide) fl_X8_7 dX8_set_70 (by repeat (first | exact hs_eq _ _ _ | refine hs_ne (by omega) ?_ | assumption)) rfl ?_
                  refine k_bipush C dX8_set_73 (by decide +kernel) ?_
                  refine k_iaload C dX8_set_75 (by repeat (first | exact hs_eq _ _ _ | refine hs_ne (by omega) ?_ | assumption)) (by omega) (by omega) (by omega) ?_
                  try simp (disch := omega) only [iu_ne (j := 61 + ww)]
                  refine k_aload_n C dX8_set_76 rfl ?_
                  refine k_get C (k := 0) inX8 (ci := 8) rfl (by decide) fl_X8_7 dX8_set_77 (by repeat (first | exact hs_eq _ _ _ | refine hs_ne (by omega) ?_ | assumption)) rfl ?_
                  refine k_bipush C dX8_set_80 (by decide +kernel) ?_
                  refine k_iaload C dX8_set_82 (by repeat (first | exact hs_eq _ _ _ | refine hs_ne (by omega) ?_ | assumption)) (by omega) (by omega) (by omega) ?_
                  try simp (disch := omega) only [iu_ne (j := 61 + ww)]
                  refine k_callS C (n := 2) (as := [_, _]) (ct_X8_lesser l D tc base _ _ _ ⟨by omega, by omega⟩ (by simp only [iu]; split <;> constructor <;> omega)) ml_X8_46 sm_X8_lesser ini_X8 co_X8_lesser ⟨by decide, by decide, by decide +kernel⟩ rfl ⟨by decide, by decide⟩ rfl (Nat.le_of_ble_eq_true rfl) ⟨Nat.zero_le _, Nat.zero_le _⟩ dX8_set_83 ?_
                  rintro _ _ ⟨rfl, rfl⟩
                  refine k_iastore C dX8_set_86 (by repeat (first | exact hs_eq _ _ _ | refine hs_ne (by omega) ?_ | assumption)) (by omega) (by omega) (by omega) ?_
                  refine k_iload_n C dX8_set_87 rfl ?_
                  refine k_iret C hr dX8_set_88 ?_
                  first
                    | exact Or.inl ⟨by omega, rfl, ⟨(by repeat (first | exact hs_eq _ _ _ | refine hs_ne (by omega) ?_ | assumption)), (by repeat (first | exact hs_eq _ _ _ | refine hs_ne (by omega) ?_ | assumption)), (by repeat (first | exact hs_eq _ _ _ | refine hs_ne (by omega) ?_ | assumption)), (by repeat (first | exact hs_eq _ _ _ | refine hs_ne (by omega) ?_ | assumption)), (by repeat (first | exact hs_eq _ _ _ | refine hs_ne (by omega) ?_ | assumption)), (by repeat (first | exact hs_eq _ _ _ | refine hs_ne (by omega) ?_ | assumption))⟩, Fr.tr (Fr.tr (fun aaa haa => by repeat (first | rfl | refine hs_ne (by omega) ?_)) hF1) (fun aaa haa => by repeat (first | rfl | refine hs_ne (by omega) ?_))⟩
                    | exact Or.inr (Or.inl ⟨by omega, rfl, ⟨(by repeat (first | exact hs_eq _ _ _ | refine hs_ne (by omega) ?_ | assumption)), (by repeat (first | exact hs_eq _ _ _ | refine hs_ne (by omega) ?_ | assumption)), (by repeat (first | exact hs_eq _ _ _ | refine hs_ne (by omega) ?_ | assumption)), (by repeat (first | exact hs_eq _ _ _ | refine hs_ne (by omega) ?_ | assumption)), (by repeat (first | exact hs_eq _ _ _ | refine hs_ne (by omega) ?_ | assumption)), (by repeat (first | exact hs_eq _ _ _ | refine hs_ne (by omega) ?_ | assumption))⟩, fun aaa haa => by repeat (first | rfl | refine hs_ne (by omega) ?_)⟩)
                    | exact Or.inr (Or.inr (⟨by omega, rfl, ⟨(by repeat (first | exact hs_eq _ _ _ | refine hs_ne (by omega) ?_ | assumption)), (by repeat (first | exact hs_eq _ _ _ | refine hs_ne (by omega) ?_ | assumption)), (by repeat (first | exact hs_eq _ _ _ | refine hs_ne (by omega) ?_ | assumption)), (by repeat (first | exact hs_eq _ _ _ | refine hs_ne (by omega) ?_ | assumption)), (by repeat (first | exact hs_eq _ _ _ | refine hs_ne (by omega) ?_ | assumption)), (by repeat (first | exact hs_eq _ _ _ | refine hs_ne (by omega) ?_ | assumption))⟩, fun aaa haa => by repeat (first | rfl | refine hs_ne (by omega) ?_)⟩)))
              · try (exfalso; omega)
                all_goals (
                  refine k_iconst C dX8_set_37 ?_
                  refine k_iret C hr dX8_set_38 ?_
                  first
                    | exact Or.inl ⟨by omega, rfl, ⟨(by repeat (first | exact hs_eq _ _ _ | refine hs_ne (by omega) ?_ | assumption)), (by repeat (first | exact hs_eq _ _ _ | refine hs_ne (by omega) ?_ | assumption)), (by repeat (first | exact hs_eq _ _ _ | refine hs_ne (by omega) ?_ | assumption)), (by repeat (first | exact hs_eq _ _ _ | refine hs_ne (by omega) ?_ | assumption)), (by repeat (first | exact hs_eq _ _ _ | refine hs_ne (by omega) ?_ | assumption)), (by repeat (first | exact hs_eq _ _ _ | refine hs_ne (by omega) ?_ | assumption))⟩, Fr.tr (Fr.tr (fun aaa haa => by repeat (first | rfl | refine hs_ne (by omega) ?_)) hF1) (fun aaa haa => by repeat (first | rfl | refine hs_ne (by omega) ?_))⟩
                    | exact Or.inr (Or.inl ⟨by omega, rfl, ⟨(by repeat (first | exact hs_eq _ _ _ | refine hs_ne (by omega) ?_ | assumption)), (by repeat (first | exact hs_eq _ _ _ | refine hs_ne (by omega) ?_ | assumption)), (by repeat (first | exact hs_eq _ _ _ | refine hs_ne (by omega) ?_ | assumption)), (by repeat (first | exact hs_eq _ _ _ | refine hs_ne (by omega) ?_ | assumption)), (by repeat (first | exact hs_eq _ _ _ | refine hs_ne (by omega) ?_ | assumption)), (by repeat (first | exact hs_eq _ _ _ | refine hs_ne (by omega) ?_ | assumption))⟩, fun aaa haa => by repeat (first | rfl | refine hs_ne (by omega) ?_)⟩)
                    | exact Or.inr (Or.inr (⟨by omega, rfl, ⟨(by repeat (first | exact hs_eq _ _ _ | refine hs_ne (by omega) ?_ | assumption)), (by repeat (first | exact hs_eq _ _ _ | refine hs_ne (by omega) ?_ | assumption)), (by repeat (first | exact hs_eq _ _ _ | refine hs_ne (by omega) ?_ | assumption)), (by repeat (first | exact hs_eq _ _ _ | refine hs_ne (by omega) ?_ | assumption)), (by repeat (first | exact hs_eq _ _ _ | refine hs_ne (by omega) ?_ | assumption)), (by repeat (first | exact hs_eq _ _ _ | refine hs_ne (by omega) ?_ | assumption))⟩, fun aaa haa => by repeat (first | rfl | refine hs_ne (by omega) ?_)⟩))))
          · try (exfalso; omega)
            all_goals (
              refine k_iconst C dX8_set_22 ?_
              refine k_goto (tgt := 27) C dX8_set_23 (by decide) ?_
              refine k_put C (k := 5) inX8 tyX8_ok nmX8 (ci := 8) rfl (by decide) fl_X8_25 rfl (Nat.le_of_ble_eq_true rfl) dX8_set_27 (by repeat (first | exact hs_eq _ _ _ | refine hs_ne (by omega) ?_ | assumption)) ?_
              refine k_aload_n C dX8_set_30 rfl ?_
              refine k_get C (k := 5) inX8 (ci := 8) rfl (by decide) fl_X8_25 dX8_set_31 (by repeat (first | exact hs_eq _ _ _ | refine hs_ne (by omega) ?_ | assumption)) rfl ?_
              refine k_if_le (tgt := 39) C dX8_set_34 (by decide) ⟨by omega, by omega⟩ (fun c34 => ?_) (fun c34 => ?_)
              · try (exfalso; omega)
                all_goals (
                  refine k_aload_n C dX8_set_39 rfl ?_
                  refine k_callV C (n := 0) (as := []) (ct_X8_save l D tc base oo zrr hhi htx has hro st ln (0) re du hsh _ ⟨(by repeat (first | exact hs_eq _ _ _ | refine hs_ne (by omega) ?_ | assumption)), (by repeat (first | exact hs_eq _ _ _ | refine hs_ne (by omega) ?_ | assumption)), (by repeat (first | exact hs_eq _ _ _ | refine hs_ne (by omega) ?_ | assumption)), (by repeat (first | exact hs_eq _ _ _ | refine hs_ne (by omega) ?_ | assumption)), (by repeat (first | exact hs_eq _ _ _ | refine hs_ne (by omega) ?_ | assumption)), (by repeat (first | exact hs_eq _ _ _ | refine hs_ne (by omega) ?_ | assumption))⟩ hst) ml_X8_102 im_X8_save se_X8_save ini_X8 co_X8_save ⟨rfl, by decide, by decide, by decide +kernel⟩ rfl (ci := 8) rfl (by repeat (first | exact hs_eq _ _ _ | refine hs_ne (by omega) ?_ | assumption)) ⟨by decide, by decide⟩ rfl (Nat.le_of_ble_eq_true rfl) ⟨Nat.zero_le _, Nat.zero_le _⟩ dX8_set_40 ?_
                  rintro _ _ ⟨rfl, hM1, hF1⟩
                  obtain ⟨k0, k1, k2, k3, k4, k5⟩ := id hM1
                  refine k_aload_n C dX8_set_43 rfl ?_
                  refine k_get C (k := 0) inX8 (ci := 8) rfl (by decide) fl_X8_7 dX8_set_44 (by repeat (first | exact hs_eq _ _ _ | refine hs_ne (by omega) ?_ | assumption)) rfl ?_
                  refine k_bipush C dX8_set_47 (by decide +kernel) ?_
                  refine k_iload_n C dX8_set_49 rfl ?_
                  refine k_iadd C dX8_set_50 ?_
                  refine k_iaload C dX8_set_51 (by repeat (first | exact hs_eq _ _ _ | refine hs_ne (by omega) ?_ | assumption)) (by omega) (by omega) (by omega) ?_
                  try simp (disch := omega) only [iu_ne (j := 61 + ww)]
                  refine k_istore_n C dX8_set_52 (by decide) rfl ?_
                  refine k_aload_n C dX8_set_53 rfl ?_
                  refine k_get C (k := 0) inX8 (ci := 8) rfl (by decide) fl_X8_7 dX8_set_54 (by repeat (first | exact hs_eq _ _ _ | refine hs_ne (by omega) ?_ | assumption)) rfl ?_
                  refine k_bipush C dX8_set_57 (by decide +kernel) ?_
                  refine k_iload_n C dX8_set_59 rfl ?_
                  refine k_iadd C dX8_set_60 ?_
                  refine k_iload_n C dX8_set_61 rfl ?_
                  refine k_iastore C dX8_set_62 (by repeat (first | exact hs_eq _ _ _ | refine hs_ne (by omega) ?_ | assumption)) (by omega) (by omega) (by omega) ?_
                  refine k_aload_n C dX8_set_63 rfl ?_
                  refine k_get C (k := 0) inX8 (ci := 8) rfl (by decide) fl_X8_7 dX8_set_64 (by repeat (first | exact hs_eq _ _ _ | refine hs_ne (by omega) ?_ | assumption)) rfl ?_
                  refine k_bipush C dX8_set_67 (by decide +kernel) ?_
                  refine k_aload_n C dX8_set_69 rfl ?_
                  refine k_get C (k := 0) inX8 (ci := 8) rfl (by decide) fl_X8_7 dX8_set_70 (by repeat (first | exact hs_eq _ _ _ | refine hs_ne (by omega) ?_ | assumption)) rfl ?_
                  refine k_bipush C dX8_set_73 (by decide +kernel) ?_
                  refine k_iaload C dX8_set_75 (by repeat (first | exact hs_eq _ _ _ | refine hs_ne (by omega) ?_ | assumption)) (by omega) (by omega) (by omega) ?_
                  try simp (disch := omega) only [iu_ne (j := 61 + ww)]
                  refine k_aload_n C dX8_set_76 rfl ?_
                  refine k_get C (k := 0) inX8 (ci := 8) rfl (by decide) fl_X8_7 dX8_set_77 (by repeat (first | exact hs_eq _ _ _ | refine hs_ne (by omega) ?_ | assumption)) rfl ?_
                  refine k_bipush C dX8_set_80 (by decide +kernel) ?_
                  refine k_iaload C dX8_set_82 (by repeat (first | exact hs_eq _ _ _ | refine hs_ne (by omega) ?_ | assumption)) (by omega) (by omega) (by omega) ?_
                  try simp (disch := omega) only [iu_ne (j := 61 + ww)]
                  refine k_callS C (n := 2) (as := [_, _]) (ct_X8_lesser l D tc base _ _ _ ⟨by omega, by omega⟩ (by simp only [iu]; split <;> constructor <;> omega)) ml_X8_46 sm_X8_lesser ini_X8 co_X8_lesser ⟨by decide, by decide, by decide +kernel⟩ rfl ⟨by decide, by decide⟩ rfl (Nat.le_of_ble_eq_true rfl) ⟨Nat.zero_le _, Nat.zero_le _⟩ dX8_set_83 ?_
                  rintro _ _ ⟨rfl, rfl⟩
                  refine k_iastore C dX8_set_86 (by repeat (first | exact hs_eq _ _ _ | refine hs_ne (by omega) ?_ | assumption)) (by omega) (by omega) (by omega) ?_
                  refine k_iload_n C dX8_set_87 rfl ?_
                  refine k_iret C hr dX8_set_88 ?_
                  first
                    | exact Or.inl ⟨by omega, rfl, ⟨(by repeat (first | exact hs_eq _ _ _ | refine hs_ne (by omega) ?_ | assumption)), (by repeat (first | exact hs_eq _ _ _ | refine hs_ne (by omega) ?_ | assumption)), (by repeat (first | exact hs_eq _ _ _ | refine hs_ne (by omega) ?_ | assumption)), (by repeat (first | exact hs_eq _ _ _ | refine hs_ne (by omega) ?_ | assumption)), (by repeat (first | exact hs_eq _ _ _ | refine hs_ne (by omega) ?_ | assumption)), (by repeat (first | exact hs_eq _ _ _ | refine hs_ne (by omega) ?_ | assumption))⟩, Fr.tr (Fr.tr (fun aaa haa => by repeat (first | rfl | refine hs_ne (by omega) ?_)) hF1) (fun aaa haa => by repeat (first | rfl | refine hs_ne (by omega) ?_))⟩
                    | exact Or.inr (Or.inl ⟨by omega, rfl, ⟨(by repeat (first | exact hs_eq _ _ _ | refine hs_ne (by omega) ?_ | assumption)), (by repeat (first | exact hs_eq _ _ _ | refine hs_ne (by omega) ?_ | assumption)), (by repeat (first | exact hs_eq _ _ _ | refine hs_ne (by omega) ?_ | assumption)), (by repeat (first | exact hs_eq _ _ _ | refine hs_ne (by omega) ?_ | assumption)), (by repeat (first | exact hs_eq _ _ _ | refine hs_ne (by omega) ?_ | assumption)), (by repeat (first | exact hs_eq _ _ _ | refine hs_ne (by omega) ?_ | assumption))⟩, fun aaa haa => by repeat (first | rfl | refine hs_ne (by omega) ?_)⟩)
                    | exact Or.inr (Or.inr (⟨by omega, rfl, ⟨(by repeat (first | exact hs_eq _ _ _ | refine hs_ne (by omega) ?_ | assumption)), (by repeat (first | exact hs_eq _ _ _ | refine hs_ne (by omega) ?_ | assumption)), (by repeat (first | exact hs_eq _ _ _ | refine hs_ne (by omega) ?_ | assumption)), (by repeat (first | exact hs_eq _ _ _ | refine hs_ne (by omega) ?_ | assumption)), (by repeat (first | exact hs_eq _ _ _ | refine hs_ne (by omega) ?_ | assumption)), (by repeat (first | exact hs_eq _ _ _ | refine hs_ne (by omega) ?_ | assumption))⟩, fun aaa haa => by repeat (first | rfl | refine hs_ne (by omega) ?_)⟩)))
              · try (exfalso; omega)
                all_goals (
                  refine k_iconst C dX8_set_37 ?_
                  refine k_iret C hr dX8_set_38 ?_
                  first
                    | exact Or.inl ⟨by omega, rfl, ⟨(by repeat (first | exact hs_eq _ _ _ | refine hs_ne (by omega) ?_ | assumption)), (by repeat (first | exact hs_eq _ _ _ | refine hs_ne (by omega) ?_ | assumption)), (by repeat (first | exact hs_eq _ _ _ | refine hs_ne (by omega) ?_ | assumption)), (by repeat (first | exact hs_eq _ _ _ | refine hs_ne (by omega) ?_ | assumption)), (by repeat (first | exact hs_eq _ _ _ | refine hs_ne (by omega) ?_ | assumption)), (by repeat (first | exact hs_eq _ _ _ | refine hs_ne (by omega) ?_ | assumption))⟩, Fr.tr (Fr.tr (fun aaa haa => by repeat (first | rfl | refine hs_ne (by omega) ?_)) hF1) (fun aaa haa => by repeat (first | rfl | refine hs_ne (by omega) ?_))⟩
                    | exact Or.inr (Or.inl ⟨by omega, rfl, ⟨(by repeat (first | exact hs_eq _ _ _ | refine hs_ne (by omega) ?_ | assumption)), (by repeat (first | exact hs_eq _ _ _ | refine hs_ne (by omega) ?_ | assumption)), (by repeat (first | exact hs_eq _ _ _ | refine hs_ne (by omega) ?_ | assumption)), (by repeat (first | exact hs_eq _ _ _ | refine hs_ne (by omega) ?_ | assumption)), (by repeat (first | exact hs_eq _ _ _ | refine hs_ne (by omega) ?_ | assumption)), (by repeat (first | exact hs_eq _ _ _ | refine hs_ne (by omega) ?_ | assumption))⟩, fun aaa haa => by repeat (first | rfl | refine hs_ne (by omega) ?_)⟩)
                    | exact Or.inr (Or.inr (⟨by omega, rfl, ⟨(by repeat (first | exact hs_eq _ _ _ | refine hs_ne (by omega) ?_ | assumption)), (by repeat (first | exact hs_eq _ _ _ | refine hs_ne (by omega) ?_ | assumption)), (by repeat (first | exact hs_eq _ _ _ | refine hs_ne (by omega) ?_ | assumption)), (by repeat (first | exact hs_eq _ _ _ | refine hs_ne (by omega) ?_ | assumption)), (by repeat (first | exact hs_eq _ _ _ | refine hs_ne (by omega) ?_ | assumption)), (by repeat (first | exact hs_eq _ _ _ | refine hs_ne (by omega) ?_ | assumption))⟩, fun aaa haa => by repeat (first | rfl | refine hs_ne (by omega) ?_)⟩))))
        · skip
          refine k_if_eq (tgt := 26) C dX8_set_19 (by decide) ⟨by omega, by omega⟩ (fun c19 => ?_) (fun c19 => ?_)
          · try (exfalso; omega)
            all_goals (
              refine k_iconst C dX8_set_26 ?_
              refine k_put C (k := 5) inX8 tyX8_ok nmX8 (ci := 8) rfl (by decide) fl_X8_25 rfl (Nat.le_of_ble_eq_true rfl) dX8_set_27 (by repeat (first | exact hs_eq _ _ _ | refine hs_ne (by omega) ?_ | assumption)) ?_
              refine k_aload_n C dX8_set_30 rfl ?_
              refine k_get C (k := 5) inX8 (ci := 8) rfl (by decide) fl_X8_25 dX8_set_31 (by repeat (first | exact hs_eq _ _ _ | refine hs_ne (by omega) ?_ | assumption)) rfl ?_
              refine k_if_le (tgt := 39) C dX8_set_34 (by decide) ⟨by omega, by omega⟩ (fun c34 => ?_) (fun c34 => ?_)
              · try (exfalso; omega)
                all_goals (
                  refine k_aload_n C dX8_set_39 rfl ?_
                  refine k_callV C (n := 0) (as := []) (ct_X8_save l D tc base oo zrr hhi htx has hro st ln (0) re du hsh _ ⟨(by repeat (first | exact hs_eq _ _ _ | refine hs_ne (by omega) ?_ | assumption)), (by repeat (first | exact hs_eq _ _ _ | refine hs_ne (by omega) ?_ | assumption)), (by repeat (first | exact hs_eq _ _ _ | refine hs_ne (by omega) ?_ | assumption)), (by repeat (first | exact hs_eq _ _ _ | refine hs_ne (by omega) ?_ | assumption)), (by repeat (first | exact hs_eq _ _ _ | refine hs_ne (by omega) ?_ | assumption)), (by repeat (first | exact hs_eq _ _ _ | refine hs_ne (by omega) ?_ | assumption))⟩ hst) ml_X8_102 im_X8_save se_X8_save ini_X8 co_X8_save ⟨rfl, by decide, by decide, by decide +kernel⟩ rfl (ci := 8) rfl (by repeat (first | exact hs_eq _ _ _ | refine hs_ne (by omega) ?_ | assumption)) ⟨by decide, by decide⟩ rfl (Nat.le_of_ble_eq_true rfl) ⟨Nat.zero_le _, Nat.zero_le _⟩ dX8_set_40 ?_
                  rintro _ _ ⟨rfl, hM1, hF1⟩
                  obtain ⟨k0, k1, k2, k3, k4, k5⟩ := id hM1
                  refine k_aload_n C dX8_set_43 rfl ?_
                  refine k_get C (k := 0) inX8 (ci := 8) rfl (by decide) fl_X8_7 dX8_set_44 (by repeat (first | exact hs_eq _ _ _ | refine hs_ne (by omega) ?_ | assumption)) rfl ?_
                  refine k_bipush C dX8_set_47 (by decide +kernel) ?_
                  refine k_iload_n C dX8_set_49 rfl ?_
                  refine k_iadd C dX8_set_50 ?_
                  refine k_iaload C dX8_set_51 (by repeat (first | exact hs_eq _ _ _ | refine hs_ne (by omega) ?_ | assumption)) (by omega) (by omega) (by omega) ?_
                  try simp (disch := omega) only [iu_ne (j := 61 + ww)]
                  refine k_istore_n C dX8_set_52 (by decide) rfl ?_
                  refine k_aload_n C dX8_set_53 rfl ?_
                  refine k_get C (k := 0) inX8 (ci := 8) rfl (by decide) fl_X8_7 dX8_set_54 (by repeat (first | exact hs_eq _ _ _ | refine hs_ne (by omega) ?_ | assumption)) rfl ?_
                  refine k_bipush C dX8_set_57 (by decide +kernel) ?_
                  refine k_iload_n C dX8_set_59 rfl ?_
                  refine k_iadd C dX8_set_60 ?_
                  refine k_iload_n C dX8_set_61 rfl ?_
                  refine k_iastore C dX8_set_62 (by repeat (first | exact hs_eq _ _ _ | refine hs_ne (by omega) ?_ | assumption)) (by omega) (by omega) (by omega) ?_
                  refine k_aload_n C dX8_set_63 rfl ?_
                  refine k_get C (k := 0) inX8 (ci := 8) rfl (by decide) fl_X8_7 dX8_set_64 (by repeat (first | exact hs_eq _ _ _ | refine hs_ne (by omega) ?_ | assumption)) rfl ?_
                  refine k_bipush C dX8_set_67 (by decide +kernel) ?_
                  refine k_aload_n C dX8_set_69 rfl ?_
                  refine k_get C (k := 0) inX8 (ci := 8) rfl (by decide) fl_X8_7 dX8_set_70 (by repeat (first | exact hs_eq _ _ _ | refine hs_ne (by omega) ?_ | assumption)) rfl ?_
                  refine k_bipush C dX8_set_73 (by decide +kernel) ?_
                  refine k_iaload C dX8_set_75 (by repeat (first | exact hs_eq _ _ _ | refine hs_ne (by omega) ?_ | assumption)) (by omega) (by omega) (by omega) ?_
                  try simp (disch := omega) only [iu_ne (j := 61 + ww)]
                  refine k_aload_n C dX8_set_76 rfl ?_
                  refine k_get C (k := 0) inX8 (ci := 8) rfl (by decide) fl_X8_7 dX8_set_77 (by repeat (first | exact hs_eq _ _ _ | refine hs_ne (by omega) ?_ | assumption)) rfl ?_
                  refine k_bipush C dX8_set_80 (by decide +kernel) ?_
                  refine k_iaload C dX8_set_82 (by repeat (first | exact hs_eq _ _ _ | refine hs_ne (by omega) ?_ | assumption)) (by omega) (by omega) (by omega) ?_
                  try simp (disch := omega) only [iu_ne (j := 61 + ww)]
                  refine k_callS C (n := 2) (as := [_, _]) (ct_X8_lesser l D tc base _ _ _ ⟨by omega, by omega⟩ (by simp only [iu]; split <;> constructor <;> omega)) ml_X8_46 sm_X8_lesser ini_X8 co_X8_lesser ⟨by decide, by decide, by decide +kernel⟩ rfl ⟨by decide, by decide⟩ rfl (Nat.le_of_ble_eq_true rfl) ⟨Nat.zero_le _, Nat.zero_le _⟩ dX8_set_83 ?_
                  rintro _ _ ⟨rfl, rfl⟩
                  refine k_iastore C dX8_set_86 (by repeat (first | exact hs_eq _ _ _ | refine hs_ne (by omega) ?_ | assumption)) (by omega) (by omega) (by omega) ?_
                  refine k_iload_n C dX8_set_87 rfl ?_
                  refine k_iret C hr dX8_set_88 ?_
                  first
                    | exact Or.inl ⟨by omega, rfl, ⟨(by repeat (first | exact hs_eq _ _ _ | refine hs_ne (by omega) ?_ | assumption)), (by repeat (first | exact hs_eq _ _ _ | refine hs_ne (by omega) ?_ | assumption)), (by repeat (first | exact hs_eq _ _ _ | refine hs_ne (by omega) ?_ | assumption)), (by repeat (first | exact hs_eq _ _ _ | refine hs_ne (by omega) ?_ | assumption)), (by repeat (first | exact hs_eq _ _ _ | refine hs_ne (by omega) ?_ | assumption)), (by repeat (first | exact hs_eq _ _ _ | refine hs_ne (by omega) ?_ | assumption))⟩, Fr.tr (Fr.tr (fun aaa haa => by repeat (first | rfl | refine hs_ne (by omega) ?_)) hF1) (fun aaa haa => by repeat (first | rfl | refine hs_ne (by omega) ?_))⟩
                    | exact Or.inr (Or.inl ⟨by omega, rfl, ⟨(by repeat (first | exact hs_eq _ _ _ | refine hs_ne (by omega) ?_ | assumption)), (by repeat (first | exact hs_eq _ _ _ | refine hs_ne (by omega) ?_ | assumption)), (by repeat (first | exact hs_eq _ _ _ | refine hs_ne (by omega) ?_ | assumption)), (by repeat (first | exact hs_eq _ _ _ | refine hs_ne (by omega) ?_ | assumption)), (by repeat (first | exact hs_eq _ _ _ | refine hs_ne (by omega) ?_ | assumption)), (by repeat (first | exact hs_eq _ _ _ | refine hs_ne (by omega) ?_ | assumption))⟩, fun aaa haa => by repeat (first | rfl | refine hs_ne (by omega) ?_)⟩)
                    | exact Or.inr (Or.inr (⟨by omega, rfl, ⟨(by repeat (first | exact hs_eq _ _ _ | refine hs_ne (by omega) ?_ | assumption)), (by repeat (first | exact hs_eq _ _ _ | refine hs_ne (by omega) ?_ | assumption)), (by repeat (first | exact hs_eq _ _ _ | refine hs_ne (by omega) ?_ | assumption)), (by repeat (first | exact hs_eq _ _ _ | refine hs_ne (by omega) ?_ | assumption)), (by repeat (first | exact hs_eq _ _ _ | refine hs_ne (by omega) ?_ | assumption)), (by repeat (first | exact hs_eq _ _ _ | refine hs_ne (by omega) ?_ | assumption))⟩, fun aaa haa => by repeat (first | rfl | refine hs_ne (by omega) ?_)⟩)))
              · try (exfalso; omega)
                all_goals (
                  refine k_iconst C dX8_set_37 ?_
                  refine k_iret C hr dX8_set_38 ?_
                  first
                    | exact Or.inl ⟨by omega, rfl, ⟨(by repeat (first | exact hs_eq _ _ _ | refine hs_ne (by omega) ?_ | assumption)), (by repeat (first | exact hs_eq _ _ _ | refine hs_ne (by omega) ?_ | assumption)), (by repeat (first | exact hs_eq _ _ _ | refine hs_ne (by omega) ?_ | assumption)), (by repeat (first | exact hs_eq _ _ _ | refine hs_ne (by omega) ?_ | assumption)), (by repeat (first | exact hs_eq _ _ _ | refine hs_ne (by omega) ?_ | assumption)), (by repeat (first | exact hs_eq _ _ _ | refine hs_ne (by omega) ?_ | assumption))⟩, Fr.tr (Fr.tr (fun aaa haa => by repeat (first | rfl | refine hs_ne (by omega) ?_)) hF1) (fun aaa haa => by repeat (first | rfl | refine hs_ne (by omega) ?_))⟩
                    | exact Or.inr (Or.inl ⟨by omega, rfl, ⟨(by repeat (first | exact hs_eq _ _ _ | refine hs_ne (by omega) ?_ | assumption)), (by repeat (first | exact hs_eq _ _ _ | refine hs_ne (by omega) ?_ | assumption)), (by repeat (first | exact hs_eq _ _ _ | refine hs_ne (by omega) ?_ | assumption)), (by repeat (first | exact hs_eq _ _ _ | refine hs_ne (by omega) ?_ | assumption)), (by repeat (first | exact hs_eq _ _ _ | refine hs_ne (by omega) ?_ | assumption)), (by repeat (first | exact hs_eq _ _ _ | refine hs_ne (by omega) ?_ | assumption))⟩, fun aaa haa => by repeat (first | rfl | refine hs_ne (by omega) ?_)⟩)
                    | exact Or.inr (Or.inr (⟨by omega, rfl, ⟨(by repeat (first | exact hs_eq _ _ _ | refine hs_ne (by omega) ?_ | assumption)), (by repeat (first | exact hs_eq _ _ _ | refine hs_ne (by omega) ?_ | assumption)), (by repeat (first | exact hs_eq _ _ _ | refine hs_ne (by omega) ?_ | assumption)), (by repeat (first | exact hs_eq _ _ _ | refine hs_ne (by omega) ?_ | assumption)), (by repeat (first | exact hs_eq _ _ _ | refine hs_ne (by omega) ?_ | assumption)), (by repeat (first | exact hs_eq _ _ _ | refine hs_ne (by omega) ?_ | assumption))⟩, fun aaa haa => by repeat (first | rfl | refine hs_ne (by omega) ?_)⟩))))
          · try (exfalso; omega)
            all_goals (
              refine k_iconst C dX8_set_22 ?_
              refine k_goto (tgt := 27) C dX8_set_23 (by decide) ?_
              refine k_put C (k := 5) inX8 tyX8_ok nmX8 (ci := 8) rfl (by decide) fl_X8_25 rfl (Nat.le_of_ble_eq_true rfl) dX8_set_27 (by repeat (first | exact hs_eq _ _ _ | refine hs_ne (by omega) ?_ | assumption)) ?_
              refine k_aload_n C dX8_set_30 rfl ?_
              refine k_get C (k := 5) inX8 (ci := 8) rfl (by decide) fl_X8_25 dX8_set_31 (by repeat (first | exact hs_eq _ _ _ | refine hs_ne (by omega) ?_ | assumption)) rfl ?_
              refine k_if_le (tgt := 39) C dX8_set_34 (by decide) ⟨by omega, by omega⟩ (fun c34 => ?_) (fun c34 => ?_)
              · try (exfalso; omega)
                all_goals (
                  refine k_aload_n C dX8_set_39 rfl ?_
                  refine k_callV C (n := 0) (as := []) (ct_X8_save l D tc base oo zrr hhi htx has hro st ln (0) re du hsh _ ⟨(by repeat (first | exact hs_eq _ _ _ | refine hs_ne (by omega) ?_ | assumption)), (by repeat (first | exact hs_eq _ _ _ | refine hs_ne (by omega) ?_ | assumption)), (by repeat (first | exact hs_eq _ _ _ | refine hs_ne (by omega) ?_ | assumption)), (by repeat (first | exact hs_eq _ _ _ | refine hs_ne (by omega) ?_ | assumption)), (by repeat (first | exact hs_eq _ _ _ | refine hs_ne (by omega) ?_ | assumption)), (by repeat (first | exact hs_eq _ _ _ | refine hs_ne (by omega) ?_ | assumption))⟩ hst) ml_X8_102 im_X8_save se_X8_save ini_X8 co_X8_save ⟨rfl, by decide, by decide, by decide +kernel⟩ rfl (ci := 8) rfl (by repeat (first | exact hs_eq _ _ _ | refine hs_ne (by omega) ?_ | assumption)) ⟨by decide, by decide⟩ rfl (Nat.le_of_ble_eq_true rfl) ⟨Nat.zero_le _, Nat.zero_le _⟩ dX8_set_40 ?_
                  rintro _ _ ⟨rfl, hM1, hF1⟩
                  obtain ⟨k0, k1, k2, k3, k4, k5⟩ := id hM1
                  refine k_aload_n C dX8_set_43 rfl ?_
                  refine k_get C (k := 0) inX8 (ci := 8) rfl (by decide) fl_X8_7 dX8_set_44 (by repeat (first | exact hs_eq _ _ _ | refine hs_ne (by omega) ?_ | assumption)) rfl ?_
                  refine k_bipush C dX8_set_47 (by decide +kernel) ?_
                  refine k_iload_n C dX8_set_49 rfl ?_
                  refine k_iadd C dX8_set_50 ?_
                  refine k_iaload C dX8_set_51 (by repeat (first | exact hs_eq _ _ _ | refine hs_ne (by omega) ?_ | assumption)) (by omega) (by omega) (by omega) ?_
                  try simp (disch := omega) only [iu_ne (j := 61 + ww)]
                  refine k_istore_n C dX8_set_52 (by decide) rfl ?_
                  refine k_aload_n C dX8_set_53 rfl ?_
                  refine k_get C (k := 0) inX8 (ci := 8) rfl (by decide) fl_X8_7 dX8_set_54 (by repeat (first | exact hs_eq _ _ _ | refine hs_ne (by omega) ?_ | assumption)) rfl ?_
                  refine k_bipush C dX8_set_57 (by decide +kernel) ?_
                  refine k_iload_n C dX8_set_59 rfl ?_
                  refine k_iadd C dX8_set_60 ?_
                  refine k_iload_n C dX8_set_61 rfl ?_
                  refine k_iastore C dX8_set_62 (by repeat (first | exact hs_eq _ _ _ | refine hs_ne (by omega) ?_ | assumption)) (by omega) (by omega) (by omega) ?_
                  refine k_aload_n C dX8_set_63 rfl ?_
                  refine k_get C (k := 0) inX8 (ci := 8) rfl (by decide) fl_X8_7 dX8_set_64 (by repeat (first | exact hs_eq _ _ _ | refine hs_ne (by omega) ?_ | assumption)) rfl ?_
                  refine k_bipush C dX8_set_67 (by decide +kernel) ?_
                  refine k_aload_n C dX8_set_69 rfl ?_
                  refine k_get C (k := 0) inX8 (ci := 8) rfl (by decide) fl_X8_7 dX8_set_70 (by repeat (first | exact hs_eq _ _ _ | refine hs_ne (by omega) ?_ | assumption)) rfl ?_
                  refine k_bipush C dX8_set_73 (by decide +kernel) ?_
                  refine k_iaload C dX8_set_75 (by repeat (first | exact hs_eq _ _ _ | refine hs_ne (by omega) ?_ | assumption)) (by omega) (by omega) (by omega) ?_
                  try simp (disch := omega) only [iu_ne (j := 61 + ww)]
                  refine k_aload_n C dX8_set_76 rfl ?_
                  refine k_get C (k := 0) inX8 (ci := 8) rfl (by decide) fl_X8_7 dX8_set_77 (by repeat (first | exact hs_eq _ _ _ | refine hs_ne (by omega) ?_ | assumption)) rfl ?_
                  refine k_bipush C dX8_set_80 (by decide +kernel) ?_
                  refine k_iaload C dX8_set_82 (by repeat (first | exact hs_eq _ _ _ | refine hs_ne (by omega) ?_ | assumption)) (by omega) (by omega) (by omega) ?_
                  try simp (disch := omega) only [iu_ne (j := 61 + ww)]
                  refine k_callS C (n := 2) (as := [_, _]) (ct_X8_lesser l D tc base _ _ _ ⟨by omega, by omega⟩ (by simp only [iu]; split <;> constructor <;> omega)) ml_X8_46 sm_X8_lesser ini_X8 co_X8_lesser ⟨by decide, by decide, by decide +kernel⟩ rfl ⟨by decide, by decide⟩ rfl (Nat.le_of_ble_eq_true rfl) ⟨Nat.zero_le _, Nat.zero_le _⟩ dX8_set_83 ?_
                  rintro _ _ ⟨rfl, rfl⟩
                  refine k_iastore C dX8_set_86 (by repeat (first | exact hs_eq _ _ _ | refine hs_ne (by omega) ?_ | assumption)) (by omega) (by omega) (by omega) ?_
                  refine k_iload_n C dX8_set_87 rfl ?_
                  refine k_iret C hr dX8_set_88 ?_
                  first
                    | exact Or.inl ⟨by omega, rfl, ⟨(by repeat (first | exact hs_eq _ _ _ | refine hs_ne (by omega) ?_ | assumption)), (by repeat (first | exact hs_eq _ _ _ | refine hs_ne (by omega) ?_ | assumption)), (by repeat (first | exact hs_eq _ _ _ | refine hs_ne (by omega) ?_ | assumption)), (by repeat (first | exact hs_eq _ _ _ | refine hs_ne (by omega) ?_ | assumption)), (by repeat (first | exact hs_eq _ _ _ | refine hs_ne (by omega) ?_ | assumption)), (by repeat (first | exact hs_eq _ _ _ | refine hs_ne (by omega) ?_ | assumption))⟩, Fr.tr (Fr.tr (fun aaa haa => by repeat (first | rfl | refine hs_ne (by omega) ?_)) hF1) (fun aaa haa => by repeat (first | rfl | refine hs_ne (by omega) ?_))⟩
                    | exact Or.inr (Or.inl ⟨by omega, rfl, ⟨(by repeat (first | exact hs_eq _ _ _ | refine hs_ne (by omega) ?_ | assumption)), (by repeat (first | exact hs_eq _ _ _ | refine hs_ne (by omega) ?_ | assumption)), (by repeat (first | exact hs_eq _ _ _ | refine hs_ne (by omega) ?_ | assumption)), (by repeat (first | exact hs_eq _ _ _ | refine hs_ne (by omega) ?_ | assumption)), (by repeat (first | exact hs_eq _ _ _ | refine hs_ne (by omega) ?_ | assumption)), (by repeat (first | exact hs_eq _ _ _ | refine hs_ne (by omega) ?_ | assumption))⟩, fun aaa haa => by repeat (first | rfl | refine hs_ne (by omega) ?_)⟩)
                    | exact Or.inr (Or.inr (⟨by omega, rfl, ⟨(by repeat (first | exact hs_eq _ _ _ | refine hs_ne (by omega) ?_ | assumption)), (by repeat (first | exact hs_eq _ _ _ | refine hs_ne (by omega) ?_ | assumption)), (by repeat (first | exact hs_eq _ _ _ | refine hs_ne (by omega) ?_ | assumption)), (by repeat (first | exact hs_eq _ _ _ | refine hs_ne (by omega) ?_ | assumption)), (by repeat (first | exact hs_eq _ _ _ | refine hs_ne (by omega) ?_ | assumption)), (by repeat (first | exact hs_eq _ _ _ | refine hs_ne (by omega) ?_ | assumption))⟩, fun aaa haa => by repeat (first | rfl | refine hs_ne (by omega) ?_)⟩)))
              · try (exfalso; omega)
                all_goals (
                  refine k_iconst C dX8_set_37 ?_
                  refine k_iret C hr dX8_set_38 ?_
                  first
                    | exact Or.inl ⟨by omega, rfl, ⟨(by repeat (first | exact hs_eq _ _ _ | refine hs_ne (by omega) ?_ | assumption)), (by repeat (first | exact hs_eq _ _ _ | refine hs_ne (by omega) ?_ | assumption)), (by repeat (first | exact hs_eq _ _ _ | refine hs_ne (by omega) ?_ | assumption)), (by repeat (first | exact hs_eq _ _ _ | refine hs_ne (by omega) ?_ | assumption)), (by repeat (first | exact hs_eq _ _ _ | refine hs_ne (by omega) ?_ | assumption)), (by repeat (first | exact hs_eq _ _ _ | refine hs_ne (by omega) ?_ | assumption))⟩, Fr.tr (Fr.tr (fun aaa haa => by repeat (first | rfl | refine hs_ne (by omega) ?_)) hF1) (fun aaa haa => by repeat (first | rfl | refine hs_ne (by omega) ?_))⟩
                    | exact Or.inr (Or.inl ⟨by omega, rfl, ⟨(by repeat (first | exact hs_eq _ _ _ | refine hs_ne (by omega) ?_ | assumption)), (by repeat (first | exact hs_eq _ _ _ | refine hs_ne (by omega) ?_ | assumption)), (by repeat (first | exact hs_eq _ _ _ | refine hs_ne (by omega) ?_ | assumption)), (by repeat (first | exact hs_eq _ _ _ | refine hs_ne (by omega) ?_ | assumption)), (by repeat (first | exact hs_eq _ _ _ | refine hs_ne (by omega) ?_ | assumption)), (by repeat (first | exact hs_eq _ _ _ | refine hs_ne (by omega) ?_ | assumption))⟩, fun aaa haa => by repeat (first | rfl | refine hs_ne (by omega) ?_)⟩)
                    | exact Or.inr (Or.inr (⟨by omega, rfl, ⟨(by repeat (first | exact hs_eq _ _ _ | refine hs_ne (by omega) ?_ | assumption)), (by repeat (first | exact hs_eq _ _ _ | refine hs_ne (by omega) ?_ | assumption)), (by repeat (first | exact hs_eq _ _ _ | refine hs_ne (by omega) ?_ | assumption)), (by repeat (first | exact hs_eq _ _ _ | refine hs_ne (by omega) ?_ | assumption)), (by repeat (first | exact hs_eq _ _ _ | refine hs_ne (by omega) ?_ | assumption)), (by repeat (first | exact hs_eq _ _ _ | refine hs_ne (by omega) ?_ | assumption))⟩, fun aaa haa => by repeat (first | rfl | refine hs_ne (by omega) ?_)⟩)))))
    · try (exfalso; omega)
      all_goals (
        refine k_iconst C dX8_set_10 ?_
        refine k_goto (tgt := 27) C dX8_set_11 (by decide) ?_
        refine k_put C (k := 5) inX8 tyX8_ok nmX8 (ci := 8) rfl (by decide) fl_X8_25 rfl (Nat.le_of_ble_eq_true rfl) dX8_set_27 (by repeat (first | exact hs_eq _ _ _ | refine hs_ne (by omega) ?_ | assumption)) ?_
        refine k_aload_n C dX8_set_30 rfl ?_
        refine k_get C (k := 5) inX8 (ci := 8) rfl (by decide) fl_X8_25 dX8_set_31 (by repeat (first | exact hs_eq _ _ _ | refine hs_ne (by omega) ?_ | assumption)) rfl ?_
        refine k_if_le (tgt := 39) C dX8_set_34 (by decide) ⟨by omega, by omega⟩ (fun c34 => ?_) (fun c34 => ?_)
        · try (exfalso; omega)
          all_goals (
            refine k_aload_n C dX8_set_39 rfl ?_
            refine k_callV C (n := 0) (as := []) (ct_X8_save l D tc base oo zrr hhi htx has hro st ln (0) re du hsh _ ⟨(by repeat (first | exact hs_eq _ _ _ | refine hs_ne (by omega) ?_ | assumption)), (by repeat (first | exact hs_eq _ _ _ | refine hs_ne (by omega) ?_ | assumption)), (by repeat (first | exact hs_eq _ _ _ | refine hs_ne (by omega) ?_ | assumption)), (by repeat (first | exact hs_eq _ _ _ | refine hs_ne (by omega) ?_ | assumption)), (by repeat (first | exact hs_eq _ _ _ | refine hs_ne (by omega) ?_ | assumption)), (by repeat (first | exact hs_eq _ _ _ | refine hs_ne (by omega) ?_ | assumption))⟩ hst) ml_X8_102 im_X8_save se_X8_save ini_X8 co_X8_save ⟨rfl, by decide, by decide, by decide +kernel⟩ rfl (ci := 8) rfl (by repeat (first | exact hs_eq _ _ _ | refine hs_ne (by omega) ?_ | assumption)) ⟨by decide, by decide⟩ rfl (Nat.le_of_ble_eq_true rfl) ⟨Nat.zero_le _, Nat.zero_le _⟩ dX8_set_40 ?_
            rintro _ _ ⟨rfl, hM1, hF1⟩
            obtain ⟨k0, k1, k2, k3, k4, k5⟩ := id hM1
            refine k_aload_n C dX8_set_43 rfl ?_
            refine k_get C (k := 0) inX8 (ci := 8) rfl (by decide) fl_X8_7 dX8_set_44 (by repeat (first | exact hs_eq _ _ _ | refine hs_ne (by omega) ?_ | assumption)) rfl ?_
            refine k_bipush C dX8_set_47 (by decide +kernel) ?_
            refine k_iload_n C dX8_set_49 rfl ?_
            refine k_iadd C dX8_set_50 ?_
            refine k_iaload C dX8_set_51 (by repeat (first | exact hs_eq _ _ _ | refine hs_ne (by omega) ?_ | assumption)) (by omega) (by omega) (by omega) ?_
            try simp (disch := omega) only [iu_ne (j := 61 + ww)]
            refine k_istore_n C dX8_set_52 (by decide) rfl ?_
            refine k_aload_n C dX8_set_53 rfl ?_
            refine k_get C (k := 0) inX8 (ci := 8) rfl (by decide) fl_X8_7 dX8_set_54 (by repeat (first | exact hs_eq _ _ _ | refine hs_ne (by omega) ?_ | assumption)) rfl ?_
            refine k_bipush C dX8_set_57 (by decide +kernel) ?_
            refine k_iload_n C dX8_set_59 rfl ?_
            refine k_iadd C dX8_set_60 ?_
            refine k_iload_n C dX8_set_61 rfl ?_
            refine k_iastore C dX8_set_62 (by repeat (first | exact hs_eq _ _ _ | refine hs_ne (by omega) ?_ | assumption)) (by omega) (by omega) (by omega) ?_
            refine k_aload_n C dX8_set_63 rfl ?_
            refine k_get C (k := 0) inX8 (ci := 8) rfl (by decide) fl_X8_7 dX8_set_64 (by repeat (first | exact hs_eq _ _ _ | refine hs_ne (by omega) ?_ | assumption)) rfl ?_
            refine k_bipush C dX8_set_67 (by decide +kernel) ?_
            refine k_aload_n C dX8_set_69 rfl ?_
            refine k_get C (k := 0) inX8 (ci := 8) rfl (by decide) fl_X8_7 dX8_set_70 (by repeat (first | exact hs_eq _ _ _ | refine hs_ne (by omega) ?_ | assumption)) rfl ?_
            refine k_bipush C dX8_set_73 (by decide +kernel) ?_
            refine k_iaload C dX8_set_75 (by repeat (first | exact hs_eq _ _ _ | refine hs_ne (by omega) ?_ | assumption)) (by omega) (by omega) (by omega) ?_
            try simp (disch := omega) only [iu_ne (j := 61 + ww)]
            refine k_aload_n C dX8_set_76 rfl ?_
            refine k_get C (k := 0) inX8 (ci := 8) rfl (by decide) fl_X8_7 dX8_set_77 (by repeat (first | exact hs_eq _ _ _ | refine hs_ne (by omega) ?_ | assumption)) rfl ?_
            refine k_bipush C dX8_set_80 (by decide +kernel) ?_
            refine k_iaload C dX8_set_82 (by repeat (first | exact hs_eq _ _ _ | refine hs_ne (by omega) ?_ | assumption)) (by omega) (by omega) (by omega) ?_
            try simp (disch := omega) only [iu_ne (j := 61 + ww)]
            refine k_callS C (n := 2) (as := [_, _]) (ct_X8_lesser l D tc base _ _ _ ⟨by omega, by omega⟩ (by simp only [iu]; split <;> constructor <;> omega)) ml_X8_46 sm_X8_lesser ini_X8 co_X8_lesser ⟨by decide, by decide, by decide +kernel⟩ rfl ⟨by decide, by decide⟩ rfl (Nat.le_of_ble_eq_true rfl) ⟨Nat.zero_le _, Nat.zero_le _⟩ dX8_set_83 ?_
            rintro _ _ ⟨rfl, rfl⟩
            refine k_iastore C dX8_set_86 (by repeat (first | exact hs_eq _ _ _ | refine hs_ne (by omega) ?_ | assumption)) (by omega) (by omega) (by omega) ?_
            refine k_iload_n C dX8_set_87 rfl ?_
            refine k_iret C hr dX8_set_88 ?_
            first
              | exact Or.inl ⟨by omega, rfl, ⟨(by repeat (first | exact hs_eq _ _ _ | refine hs_ne (by omega) ?_ | assumption)), (by repeat (first | exact hs_eq _ _ _ | refine hs_ne (by omega) ?_ | assumption)), (by repeat (first | exact hs_eq _ _ _ | refine hs_ne (by omega) ?_ | assumption)), (by repeat (first | exact hs_eq _ _ _ | refine hs_ne (by omega) ?_ | assumption)), (by repeat (first | exact hs_eq _ _ _ | refine hs_ne (by omega) ?_ | assumption)), (by repeat (first | exact hs_eq _ _ _ | refine hs_ne (by omega) ?_ | assumption))⟩, Fr.tr (Fr.tr (fun aaa haa => by repeat (first | rfl | refine hs_ne (by omega) ?_)) hF1) (fun aaa haa => by repeat (first | rfl | refine hs_ne (by omega) ?_))⟩
              | exact Or.inr (Or.inl ⟨by omega, rfl, ⟨(by repeat (first | exact hs_eq _ _ _ | refine hs_ne (by omega) ?_ | assumption)), (by repeat (first | exact hs_eq _ _ _ | refine hs_ne (by omega) ?_ | assumption)), (by repeat (first | exact hs_eq _ _ _ | refine hs_ne (by omega) ?_ | assumption)), (by repeat (first | exact hs_eq _ _ _ | refine hs_ne (by omega) ?_ | assumption)), (by repeat (first | exact hs_eq _ _ _ | refine hs_ne (by omega) ?_ | assumption)), (by repeat (first | exact hs_eq _ _ _ | refine hs_ne (by omega) ?_ | assumption))⟩, fun aaa haa => by repeat (first | rfl | refine hs_ne (by omega) ?_)⟩)
              | exact Or.inr (Or.inr (⟨by omega, rfl, ⟨(by repeat (first | exact hs_eq _ _ _ | refine hs_ne (by omega) ?_ | assumption)), (by repeat (first | exact hs_eq _ _ _ | refine hs_ne (by omega) ?_ | assumption)), (by repeat (first | exact hs_eq _ _ _ | refine hs_ne (by omega) ?_ | assumption)), (by repeat (first | exact hs_eq _ _ _ | refine hs_ne (by omega) ?_ | assumption)), (by repeat (first | exact hs_eq _ _ _ | refine hs_ne (by omega) ?_ | assumption)), (by repeat (first | exact hs_eq _ _ _ | refine hs_ne (by omega) ?_ | assumption))⟩, fun aaa haa => by repeat (first | rfl | refine hs_ne (by omega) ?_)⟩)))
        · try (exfalso; omega)
          all_goals (
            refine k_iconst C dX8_set_37 ?_
            refine k_iret C hr dX8_set_38 ?_
            first
              | exact Or.inl ⟨by omega, rfl, ⟨(by repeat (first | exact hs_eq _ _ _ | refine hs_ne (by omega) ?_ | assumption)), (by repeat (first | exact hs_eq _ _ _ | refine hs_ne (by omega) ?_ | assumption)), (by repeat (first | exact hs_eq _ _ _ | refine hs_ne (by omega) ?_ | assumption)), (by repeat (first | exact hs_eq _ _ _ | refine hs_ne (by omega) ?_ | assumption)), (by repeat (first | exact hs_eq _ _ _ | refine hs_ne (by omega) ?_ | assumption)), (by repeat (first | exact hs_eq _ _ _ | refine hs_ne (by omega) ?_ | assumption))⟩, Fr.tr (Fr.tr (fun aaa haa => by repeat (first | rfl | refine hs_ne (by omega) ?_)) hF1) (fun aaa haa => by repeat (first | rfl | refine hs_ne (by omega) ?_))⟩
              | exact Or.inr (Or.inl ⟨by omega, rfl, ⟨(by repeat (first | exact hs_eq _ _ _ | refine hs_ne (by omega) ?_ | assumption)), (by repeat (first | exact hs_eq _ _ _ | refine hs_ne (by omega) ?_ | assumption)), (by repeat (first | exact hs_eq _ _ _ | refine hs_ne (by omega) ?_ | assumption)), (by repeat (first | exact hs_eq _ _ _ | refine hs_ne (by omega) ?_ | assumption)), (by repeat (first | exact hs_eq _ _ _ | refine hs_ne (by omega) ?_ | assumption)), (by repeat (first | exact hs_eq _ _ _ | refine hs_ne (by omega) ?_ | assumption))⟩, fun aaa haa => by repeat (first | rfl | refine hs_ne (by omega) ?_)⟩)
              | exact Or.inr (Or.inr (⟨by omega, rfl, ⟨(by repeat (first | exact hs_eq _ _ _ | refine hs_ne (by omega) ?_ | assumption)), (by repeat (first | exact hs_eq _ _ _ | refine hs_ne (by omega) ?_ | assumption)), (by repeat (first | exact hs_eq _ _ _ | refine hs_ne (by omega) ?_ | assumption)), (by repeat (first | exact hs_eq _ _ _ | refine hs_ne (by omega) ?_ | assumption)), (by repeat (first | exact hs_eq _ _ _ | refine hs_ne (by omega) ?_ | assumption)), (by repeat (first | exact hs_eq _ _ _ | refine hs_ne (by omega) ?_ | assumption))⟩, fun aaa haa => by repeat (first | rfl | refine hs_ne (by omega) ?_)⟩))))
  · skip
    refine k_if_ne (tgt := 14) C dX8_set_7 (by decide) ⟨by omega, by omega⟩ (fun c7 => ?_) (fun c7 => ?_)
    · try (exfalso; omega)
      all_goals (
        refine k_iload_n C dX8_set_14 rfl ?_
        refine k_iload_n C dX8_set_15 rfl ?_
        refine k_callS C (n := 2) (as := [_, _]) (ct_X8_isValue l D tc base _ _ _ (by omega) hv) ml_X8_105 sm_X8_isValue ini_X8 co_X8_isValue ⟨by decide, by decide, by decide +kernel⟩ rfl ⟨by decide, by decide⟩ rfl (Nat.le_of_ble_eq_true rfl) ⟨Nat.zero_le _, Nat.zero_le _⟩ dX8_set_16 ?_
        rintro _ _ (⟨rfl, rfl, hq16⟩ | ⟨rfl, rfl, hq16⟩)
        · skip
          refine k_if_eq (tgt := 26) C dX8_set_19 (by decide) ⟨by omega, by omega⟩ (fun c19 => ?_) (fun c19 => ?_)
          · try (exfalso; omega)
            all_goals (
              refine k_iconst C dX8_set_26 ?_
              refine k_put C (k := 5) inX8 tyX8_ok nmX8 (ci := 8) rfl (by decide) fl_X8_25 rfl (Nat.le_of_ble_eq_true rfl) dX8_set_27 (by repeat (first | exact hs_eq _ _ _ | refine hs_ne (by omega) ?_ | assumption)) ?_
              refine k_aload_n C dX8_set_30 rfl ?_
              refine k_get C (k := 5) inX8 (ci := 8) rfl (by decide) fl_X8_25 dX8_set_31 (by repeat (first | exact hs_eq _ _ _ | refine hs_ne (by omega) ?_ | assumption)) rfl ?_
              refine k_if_le (tgt := 39) C dX8_set_34 (by decide) ⟨by omega, by omega⟩ (fun c34 => ?_) (fun c34 => ?_)
              · try (exfalso; omega)
                all_goals (
                  refine k_aload_n C dX8_set_39 rfl ?_
                  refine k_callV C (n := 0) (as := []) (ct_X8_save l D tc base oo zrr hhi htx has hro st ln (0) re du hsh _ ⟨(by repeat (first | exact hs_eq _ _ _ | refine hs_ne (by omega) ?_ | assumption)), (by repeat (first | exact hs_eq _ _ _ | refine hs_ne (by omega) ?_ | assumption)), (by repeat (first | exact hs_eq _ _ _ | refine hs_ne (by omega) ?_ | assumption)), (by repeat (first | exact hs_eq _ _ _ | refine hs_ne (by omega) ?_ | assumption)), (by repeat (first | exact hs_eq _ _ _ | refine hs_ne (by omega) ?_ | assumption)), (by repeat (first | exact hs_eq _ _ _ | refine hs_ne (by omega) ?_ | assumption))⟩ hst) ml_X8_102 im_X8_save se_X8_save ini_X8 co_X8_save ⟨rfl, by decide, by decide, by decide +kernel⟩ rfl (ci := 8) rfl (by repeat (first | exact hs_eq _ _ _ | refine hs_ne (by omega) ?_ | assumption)) ⟨by decide, by decide⟩ rfl (Nat.le_of_ble_eq_true rfl) ⟨Nat.zero_le _, Nat.zero_le _⟩ dX8_set_40 ?_
                  rintro _ _ ⟨rfl, hM1, hF1⟩
                  obtain ⟨k0, k1, k2, k3, k4, k5⟩ := id hM1
                  refine k_aload_n C dX8_set_43 rfl ?_
                  refine k_get C (k := 0) inX8 (ci := 8) rfl (by decide) fl_X8_7 dX8_set_44 (by repeat (first | exact hs_eq _ _ _ | refine hs_ne (by omega) ?_ | assumption)) rfl ?_
                  refine k_bipush C dX8_set_47 (by decide +kernel) ?_
                  refine k_iload_n C dX8_set_49 rfl ?_
                  refine k_iadd C dX8_set_50 ?_
                  refine k_iaload C dX8_set_51 (by repeat (first | exact hs_eq _ _ _ | refine hs_ne (by omega) ?_ | assumption)) (by omega) (by omega) (by omega) ?_
                  try simp (disch := omega) only [iu_ne (j := 61 + ww)]
                  refine k_istore_n C dX8_set_52 (by decide) rfl ?_
                  refine k_aload_n C dX8_set_53 rfl ?_
                  refine k_get C (k := 0) inX8 (ci := 8) rfl (by decide) fl_X8_7 dX8_set_54 (by repeat (first | exact hs_eq _ _ _ | refine hs_ne (by omega) ?_ | assumption)) rfl ?_
                  refine k_bipush C dX8_set_57 (by decide +kernel) ?_
                  refine k_iload_n C dX8_set_59 rfl ?_
                  refine k_iadd C dX8_set_60 ?_
                  refine k_iload_n C dX8_set_61 rfl ?_
                  refine k_iastore C dX8_set_62 (by repeat (first | exact hs_eq _ _ _ | refine hs_ne (by omega) ?_ | assumption)) (by omega) (by omega) (by omega) ?_
                  refine k_aload_n C dX8_set_63 rfl ?_
                  refine k_get C (k := 0) inX8 (ci := 8) rfl (by decide) fl_X8_7 dX8_set_64 (by repeat (first | exact hs_eq _ _ _ | refine hs_ne (by omega) ?_ | assumption)) rfl ?_
                  refine k_bipush C dX8_set_67 (by decide +kernel) ?_
                  refine k_aload_n C dX8_set_69 rfl ?_
                  refine k_get C (k := 0) inX8 (ci := 8) rfl (by decide) fl_X8_7 dX8_set_70 (by repeat (first | exact hs_eq _ _ _ | refine hs_ne (by omega) ?_ | assumption)) rfl ?_
                  refine k_bipush C dX8_set_73 (by decide +kernel) ?_
                  refine k_iaload C dX8_set_75 (by repeat (first | exact hs_eq _ _ _ | refine hs_ne (by omega) ?_ | assumption)) (by omega) (by omega) (by omega) ?_
                  try simp (disch := omega) only [iu_ne (j := 61 + ww)]
                  refine k_aload_n C dX8_set_76 rfl ?_
                  refine k_get C (k := 0) inX8 (ci := 8) rfl (by decide) fl_X8_7 dX8_set_77 (by repeat (first | exact hs_eq _ _ _ | refine hs_ne (by omega) ?_ | assumption)) rfl ?_
                  refine k_bipush C dX8_set_80 (by decide +kernel) ?_
                  refine k_iaload C dX8_set_82 (by repeat (first | exact hs_eq _ _ _ | refine hs_ne (by omega) ?_ | assumption)) (by omega) (by omega) (by omega) ?_
                  try simp (disch := omega) only [iu_ne (j := 61 + ww)]
                  refine k_callS C (n := 2) (as := [_, _]) (ct_X8_lesser l D tc base _ _ _ ⟨by omega, by omega⟩ (by simp only [iu]; split <;> constructor <;> omega)) ml_X8_46 sm_X8_lesser ini_X8 co_X8_lesser ⟨by decide, by decide, by decide +kernel⟩ rfl ⟨by decide, by decide⟩ rfl (Nat.le_of_ble_eq_true rfl) ⟨Nat.zero_le _, Nat.zero_le _⟩ dX8_set_83 ?_
                  rintro _ _ ⟨rfl, rfl⟩
                  refine k_iastore C dX8_set_86 (by repeat (first | exact hs_eq _ _ _ | refine hs_ne (by omega) ?_ | assumption)) (by omega) (by omega) (by omega) ?_
                  refine k_iload_n C dX8_set_87 rfl ?_
                  refine k_iret C hr dX8_set_88 ?_
                  first
                    | exact Or.inl ⟨by omega, rfl, ⟨(by repeat (first | exact hs_eq _ _ _ | refine hs_ne (by omega) ?_ | assumption)), (by repeat (first | exact hs_eq _ _ _ | refine hs_ne (by omega) ?_ | assumption)), (by repeat (first | exact hs_eq _ _ _ | refine hs_ne (by omega) ?_ | assumption)), (by repeat (first | exact hs_eq _ _ _ | refine hs_ne (by omega) ?_ | assumption)), (by repeat (first | exact hs_eq _ _ _ | refine hs_ne (by omega) ?_ | assumption)), (by repeat (first | exact hs_eq _ _ _ | refine hs_ne (by omega) ?_ | assumption))⟩, Fr.tr (Fr.tr (fun aaa haa => by repeat (first | rfl | refine hs_ne (by omega) ?_)) hF1) (fun aaa haa => by repeat (first | rfl | refine hs_ne (by omega) ?_))⟩
                    | exact Or.inr (Or.inl ⟨by omega, rfl, ⟨(by repeat (first | exact hs_eq _ _ _ | refine hs_ne (by omega) ?_ | assumption)), (by repeat (first | exact hs_eq _ _ _ | refine hs_ne (by omega) ?_ | assumption)), (by repeat (first | exact hs_eq _ _ _ | refine hs_ne (by omega) ?_ | assumption)), (by repeat (first | exact hs_eq _ _ _ | refine hs_ne (by omega) ?_ | assumption)), (by repeat (first | exact hs_eq _ _ _ | refine hs_ne (by omega) ?_ | assumption)), (by repeat (first | exact hs_eq _ _ _ | refine hs_ne (by omega) ?_ | assumption))⟩, fun aaa haa => by repeat (first | rfl | refine hs_ne (by omega) ?_)⟩)
                    | exact Or.inr (Or.inr (⟨by omega, rfl, ⟨(by repeat (first | exact hs_eq _ _ _ | refine hs_ne (by omega) ?_ | assumption)), (by repeat (first | exact hs_eq _ _ _ | refine hs_ne (by omega) ?_ | assumption)), (by repeat (first | exact hs_eq _ _ _ | refine hs_ne (by omega) ?_ | assumption)), (by repeat (first | exact hs_eq _ _ _ | refine hs_ne (by omega) ?_ | assumption)), (by repeat (first | exact hs_eq _ _ _ | refine hs_ne (by omega) ?_ | assumption)), (by repeat (first | exact hs_eq _ _ _ | refine hs_ne (by omega) ?_ | assumption))⟩, fun aaa haa => by repeat (first | rfl | refine hs_ne (by omega) ?_)⟩)))
              · try (exfalso; omega)
                all_goals (
                  refine k_iconst C dX8_set_37 ?_
                  refine k_iret C hr dX8_set_38 ?_
                  first
                    | exact Or.inl ⟨by omega, rfl, ⟨(by repeat (first | exact hs_eq _ _ _ | refine hs_ne (by omega) ?_ | assumption)), (by repeat (first | exact hs_eq _ _ _ | refine hs_ne (by omega) ?_ | assumption)), (by repeat (first | exact hs_eq _ _ _ | refine hs_ne (by omega) ?_ | assumption)), (by repeat (first | exact hs_eq _ _ _ | refine hs_ne (by omega) ?_ | assumption)), (by repeat (first | exact hs_eq _ _ _ | refine hs_ne (by omega) ?_ | assumption)), (by repeat (first | exact hs_eq _ _ _ | refine hs_ne (by omega) ?_ | assumption))⟩, Fr.tr (Fr.tr (fun aaa haa => by repeat (first | rfl | refine hs_ne (by omega) ?_)) hF1) (fun aaa haa => by repeat (first | rfl | refine hs_ne (by omega) ?_))⟩
                    | exact Or.inr (Or.inl ⟨by omega, rfl, ⟨(by repeat (first | exact hs_eq _ _ _ | refine hs_ne (by omega) ?_ | assumption)), (by repeat (first | exact hs_eq _ _ _ | refine hs_ne (by omega) ?_ | assumption)), (by repeat (first | exact hs_eq _ _ _ | refine hs_ne (by omega) ?_ | assumption)), (by repeat (first | exact hs_eq _ _ _ | refine hs_ne (by omega) ?_ | assumption)), (by repeat (first | exact hs_eq _ _ _ | refine hs_ne (by omega) ?_ | assumption)), (by repeat (first | exact hs_eq _ _ _ | refine hs_ne (by omega) ?_ | assumption))⟩, fun aaa haa => by repeat (first | rfl | refine hs_ne (by omega) ?_)⟩)
                    | exact Or.inr (Or.inr (⟨by omega, rfl, ⟨(by repeat (first | exact hs_eq _ _ _ | refine hs_ne (by omega) ?_ | assumption)), (by repeat (first | exact hs_eq _ _ _ | refine hs_ne (by omega) ?_ | assumption)), (by repeat (first | exact hs_eq _ _ _ | refine hs_ne (by omega) ?_ | assumption)), (by repeat (first | exact hs_eq _ _ _ | refine hs_ne (by omega) ?_ | assumption)), (by repeat (first | exact hs_eq _ _ _ | refine hs_ne (by omega) ?_ | assumption)), (by repeat (first | exact hs_eq _ _ _ | refine hs_ne (by omega) ?_ | assumption))⟩, fun aaa haa => by repeat (first | rfl | refine hs_ne (by omega) ?_)⟩))))
          · try (exfalso; omega)
            all_goals (
              refine k_iconst C dX8_set_22 ?_
              refine k_goto (tgt := 27) C dX8_set_23 (by decide) ?_
              refine k_put C (k := 5) inX8 tyX8_ok nmX8 (ci := 8) rfl (by decide) fl_X8_25 rfl (Nat.le_of_ble_eq_true rfl) dX8_set_27 (by repeat (first | exact hs_eq _ _ _ | refine hs_ne (by omega) ?_ | assumption)) ?_
              refine k_aload_n C dX8_set_30 rfl ?_
              refine k_get C (k := 5) inX8 (ci := 8) rfl (by decide) fl_X8_25 dX8_set_31 (by repeat (first | exact hs_eq _ _ _ | refine hs_ne (by omega) ?_ | assumption)) rfl ?_
              refine k_if_le (tgt := 39) C dX8_set_34 (by decide) ⟨by omega, by omega⟩ (fun c34 => ?_) (fun c34 => ?_)
              · try (exfalso; omega)
                all_goals (
                  refine k_aload_n C dX8_set_39 rfl ?_
                  refine k_callV C (n := 0) (as := []) (ct_X8_save l D tc base oo zrr hhi htx has hro st ln (0) re du hsh _ ⟨(by repeat (first | exact hs_eq _ _ _ | refine hs_ne (by omega) ?_ | assumption)), (by repeat (first | exact hs_eq _ _ _ | refine hs_ne (by omega) ?_ | assumption)), (by repeat (first | exact hs_eq _ _ _ | refine hs_ne (by omega) ?_ | assumption)), (by repeat (first | exact hs_eq _ _ _ | refine hs_ne (by omega) ?_ | assumption)), (by repeat (first | exact hs_eq _ _ _ | refine hs_ne (by omega) ?_ | assumption)), (by repeat (first | exact hs_eq _ _ _ | refine hs_ne (by omega) ?_ | assumption))⟩ hst) ml_X8_102 im_X8_save se_X8_save ini_X8 co_X8_save ⟨rfl, by decide, by decide, by decide +kernel⟩ rfl (ci := 8) rfl (by repeat (first | exact hs_eq _ _ _ | refine hs_ne (by omega) ?_ | assumption)) ⟨by decide, by decide⟩ rfl (Nat.le_of_ble_eq_true rfl) ⟨Nat.zero_le _, Nat.zero_le _⟩ dX8_set_40 ?_
                  rintro _ _ ⟨rfl, hM1, hF1⟩
                  obtain ⟨k0, k1, k2, k3, k4, k5⟩ := id hM1
                  refine k_aload_n C dX8_set_43 rfl ?_
                  refine k_get C (k := 0) inX8 (ci := 8) rfl (by decide) fl_X8_7 dX8_set_44 (by repeat (first | exact hs_eq _ _ _ | refine hs_ne (by omega) ?_ | assumption)) rfl ?_
                  refine k_bipush C dX8_set_47 (by decide +kernel) ?_
                  refine k_iload_n C dX8_set_49 rfl ?_
                  refine k_iadd C dX8_set_50 ?_
                  refine k_iaload C dX8_set_51 (by repeat (first | exact hs_eq _ _ _ | refine hs_ne (by omega) ?_ | assumption)) (by omega) (by omega) (by omega) ?_
                  try simp (disch := omega) only [iu_ne (j := 61 + ww)]
                  refine k_istore_n C dX8_set_52 (by decide) rfl ?_
                  refine k_aload_n C dX8_set_53 rfl ?_
                  refine k_get C (k := 0) inX8 (ci := 8) rfl (by decide) fl_X8_7 dX8_set_54 (by repeat (first | exact hs_eq _ _ _ | refine hs_ne (by omega) ?_ | assumption)) rfl ?_
                  refine k_bipush C dX8_set_57 (by decide +kernel) ?_
                  refine k_iload_n C dX8_set_59 rfl ?_
                  refine k_iadd C dX8_set_60 ?_
                  refine k_iload_n C dX8_set_61 rfl ?_
                  refine k_iastore C dX8_set_62 (by repeat (first | exact hs_eq _ _ _ | refine hs_ne (by omega) ?_ | assumption)) (by omega) (by omega) (by omega) ?_
                  refine k_aload_n C dX8_set_63 rfl ?_
                  refine k_get C (k := 0) inX8 (ci := 8) rfl (by decide) fl_X8_7 dX8_set_64 (by repeat (first | exact hs_eq _ _ _ | refine hs_ne (by omega) ?_ | assumption)) rfl ?_
                  refine k_bipush C dX8_set_67 (by decide +kernel) ?_
                  refine k_aload_n C dX8_set_69 rfl ?_
                  refine k_get C (k := 0) inX8 (ci := 8) rfl (by decide) fl_X8_7 dX8_set_70 (by repeat (first | exact hs_eq _ _ _ | refine hs_ne (by omega) ?_ | assumption)) rfl ?_
                  refine k_bipush C dX8_set_73 (by decide +kernel) ?_
                  refine k_iaload C dX8_set_75 (by repeat (first | exact hs_eq _ _ _ | refine hs_ne (by omega) ?_ | assumption)) (by omega) (by omega) (by omega) ?_
                  try simp (disch := omega) only [iu_ne (j := 61 + ww)]
                  refine k_aload_n C dX8_set_76 rfl ?_
                  refine k_get C (k := 0) inX8 (ci := 8) rfl (by decide) fl_X8_7 dX8_set_77 (by repeat (first | exact hs_eq _ _ _ | refine hs_ne (by omega) ?_ | assumption)) rfl ?_
                  refine k_bipush C dX8_set_80 (by decide +kernel) ?_
                  refine k_iaload C dX8_set_82 (by repeat (first | exact hs_eq _ _ _ | refine hs_ne (by omega) ?_ | assumption)) (by omega) (by omega) (by omega) ?_
                  try simp (disch := omega) only [iu_ne (j := 61 + ww)]
                  refine k_callS C (n := 2) (as := [_, _]) (ct_X8_lesser l D tc base _ _ _ ⟨by omega, by omega⟩ (by simp only [iu]; split <;> constructor <;> omega)) ml_X8_46 sm_X8_lesser ini_X8 co_X8_lesser ⟨by decide, by decide, by decide +kernel⟩ rfl ⟨by decide, by decide⟩ rfl (Nat.le_of_ble_eq_true rfl) ⟨Nat.zero_le _, Nat.zero_le _⟩ dX8_set_83 ?_
                  rintro _ _ ⟨rfl, rfl⟩
                  refine k_iastore C dX8_set_86 (by repeat (first | exact hs_eq _ _ _ | refine hs_ne (by omega) ?_ | assumption)) (by omega) (by omega) (by omega) ?_
                  refine k_iload_n C dX8_set_87 rfl ?_
                  refine k_iret C hr dX8_set_88 ?_
                  first
                    | exact Or.inl ⟨by omega, rfl, ⟨(by repeat (first | exact hs_eq _ _ _ | refine hs_ne (by omega) ?_ | assumption)), (by repeat (first | exact hs_eq _ _ _ | refine hs_ne (by omega) ?_ | assumption)), (by repeat (first | exact hs_eq _ _ _ | refine hs_ne (by omega) ?_ | assumption)), (by repeat (first | exact hs_eq _ _ _ | refine hs_ne (by omega) ?_ | assumption)), (by repeat (first | exact hs_eq _ _ _ | refine hs_ne (by omega) ?_ | assumption)), (by repeat (first | exact hs_eq _ _ _ | refine hs_ne (by omega) ?_ | assumption))⟩, Fr.tr (Fr.tr (fun aaa haa => by repeat (first | rfl | refine hs_ne (by omega) ?_)) hF1) (fun aaa haa => by repeat (first | rfl | refine hs_ne (by omega) ?_))⟩
                    | exact Or.inr (Or.inl ⟨by omega, rfl, ⟨(by repeat (first | exact hs_eq _ _ _ | refine hs_ne (by omega) ?_ | assumption)), (by repeat (first | exact hs_eq _ _ _ | refine hs_ne (by omega) ?_ | assumption)), (by repeat (first | exact hs_eq _ _ _ | refine hs_ne (by omega) ?_ | assumption)), (by repeat (first | exact hs_eq _ _ _ | refine hs_ne (by omega) ?_ | assumption)), (by repeat (first | exact hs_eq _ _ _ | refine hs_ne (by omega) ?_ | assumption)), (by repeat (first | exact hs_eq _ _ _ | refine hs_ne (by omega) ?_ | assumption))⟩, fun aaa haa => by repeat (first | rfl | refine hs_ne (by omega) ?_)⟩)
                    | exact Or.inr (Or.inr (⟨by omega, rfl, ⟨(by repeat (first | exact hs_eq _ _ _ | refine hs_ne (by omega) ?_ | assumption)), (by repeat (first | exact hs_eq _ _ _ | refine hs_ne (by omega) ?_ | assumption)), (by repeat (first | exact hs_eq _ _ _ | refine hs_ne (by omega) ?_ | assumption)), (by repeat (first | exact hs_eq _ _ _ | refine hs_ne (by omega) ?_ | assumption)), (by repeat (first | exact hs_eq _ _ _ | refine hs_ne (by omega) ?_ | assumption)), (by repeat (first | exact hs_eq _ _ _ | refine hs_ne (by omega) ?_ | assumption))⟩, fun aaa haa => by repeat (first | rfl | refine hs_ne (by omega) ?_)⟩)))
              · try (exfalso; omega)
                all_goals (
                  refine k_iconst C dX8_set_37 ?_
                  refine k_iret C hr dX8_set_38 ?_
                  first
                    | exact Or.inl ⟨by omega, rfl, ⟨(by repeat (first | exact hs_eq _ _ _ | refine hs_ne (by omega) ?_ | assumption)), (by repeat (first | exact hs_eq _ _ _ | refine hs_ne (by omega) ?_ | assumption)), (by repeat (first | exact hs_eq _ _ _ | refine hs_ne (by omega) ?_ | assumption)), (by repeat (first | exact hs_eq _ _ _ | refine hs_ne (by omega) ?_ | assumption)), (by repeat (first | exact hs_eq _ _ _ | refine hs_ne (by omega) ?_ | assumption)), (by repeat (first | exact hs_eq _ _ _ | refine hs_ne (by omega) ?_ | assumption))⟩, Fr.tr (Fr.tr (fun aaa haa => by repeat (first | rfl | refine hs_ne (by omega) ?_)) hF1) (fun aaa haa => by repeat (first | rfl | refine hs_ne (by omega) ?_))⟩
                    | exact Or.inr (Or.inl ⟨by omega, rfl, ⟨(by repeat (first | exact hs_eq _ _ _ | refine hs_ne (by omega) ?_ | assumption)), (by repeat (first | exact hs_eq _ _ _ | refine hs_ne (by omega) ?_ | assumption)), (by repeat (first | exact hs_eq _ _ _ | refine hs_ne (by omega) ?_ | assumption)), (by repeat (first | exact hs_eq _ _ _ | refine hs_ne (by omega) ?_ | assumption)), (by repeat (first | exact hs_eq _ _ _ | refine hs_ne (by omega) ?_ | assumption)), (by repeat (first | exact hs_eq _ _ _ | refine hs_ne (by omega) ?_ | assumption))⟩, fun aaa haa => by repeat (first | rfl | refine hs_ne (by omega) ?_)⟩)
                    | exact Or.inr (Or.inr (⟨by omega, rfl, ⟨(by repeat (first | exact hs_eq _ _ _ | refine hs_ne (by omega) ?_ | assumption)), (by repeat (first | exact hs_eq _ _ _ | refine hs_ne (by omega) ?_ | assumption)), (by repeat (first | exact hs_eq _ _ _ | refine hs_ne (by omega) ?_ | assumption)), (by repeat (first | exact hs_eq _ _ _ | refine hs_ne (by omega) ?_ | assumption)), (by repeat (first | exact hs_eq _ _ _ | refine hs_ne (by omega) ?_ | assumption)), (by repeat (first | exact hs_eq _ _ _ | refine hs_ne (by omega) ?_ | assumption))⟩, fun aaa haa => by repeat (first | rfl | refine hs_ne (by omega) ?_)⟩))))
        · skip
          refine k_if_eq (tgt := 26) C dX8_set_19 (by decide) ⟨by omega, by omega⟩ (fun c19 => ?_) (fun c19 => ?_)
          · try (exfalso; omega)
            all_goals (
              refine k_iconst C dX8_set_26 ?_
              refine k_put C (k := 5) inX8 tyX8_ok nmX8 (ci := 8) rfl (by decide) fl_X8_25 rfl (Nat.le_of_ble_eq_true rfl) dX8_set_27 (by repeat (first | exact hs_eq _ _ _ | refine hs_ne (by omega) ?_ | assumption)) ?_
              refine k_aload_n C dX8_set_30 rfl ?_
              refine k_get C (k := 5) inX8 (ci := 8) rfl (by decide) fl_X8_25 dX8_set_31 (by repeat (first | exact hs_eq _ _ _ | refine hs_ne (by omega) ?_ | assumption)) rfl ?_
              refine k_if_le (tgt := 39) C dX8_set_34 (by decide) ⟨by omega, by omega⟩ (fun c34 => ?_) (fun c34 => ?_)
              · try (exfalso; omega)
                all_goals (
                  refine k_aload_n C dX8_set_39 rfl ?_
                  refine k_callV C (n := 0) (as := []) (ct_X8_save l D tc base oo zrr hhi htx has hro st ln (0) re du hsh _ ⟨(by repeat (first | exact hs_eq _ _ _ | refine hs_ne (by omega) ?_ | assumption)), (by repeat (first | exact hs_eq _ _ _ | refine hs_ne (by omega) ?_ | assumption)), (by repeat (first | exact hs_eq _ _ _ | refine hs_ne (by omega) ?_ | assumption)), (by repeat (first | exact hs_eq _ _ _ | refine hs_ne (by omega) ?_ | assumption)), (by repeat (first | exact hs_eq _ _ _ | refine hs_ne (by omega) ?_ | assumption)), (by repeat (first | exact hs_eq _ _ _ | refine hs_ne (by omega) ?_ | assumption))⟩ hst) ml_X8_102 im_X8_save se_X8_save ini_X8 co_X8_save ⟨rfl, by decide, by decide, by decide +kernel⟩ rfl (ci := 8) rfl (by repeat (first | exact hs_eq _ _ _ | refine hs_ne (by omega) ?_ | assumption)) ⟨by decide, by decide⟩ rfl (Nat.le_of_ble_eq_true rfl) ⟨Nat.zero_le _, Nat.zero_le _⟩ dX8_set_40 ?_
                  rintro _ _ ⟨rfl, hM1, hF1⟩
                  obtain ⟨k0, k1, k2, k3, k4, k5⟩ := id hM1
                  refine k_aload_n C dX8_set_43 rfl ?_
                  refine k_get C (k := 0) inX8 (ci := 8) rfl (by decide) fl_X8_7 dX8_set_44 (by repeat (first | exact hs_eq _ _ _ | refine hs_ne (by omega) ?_ | assumption)) rfl ?_
                  refine k_bipush C dX8_set_47 (by decide +kernel) ?_
                  refine k_iload_n C dX8_set_49 rfl ?_
                  refine k_iadd C dX8_set_50 ?_
                  refine k_iaload C dX8_set_51 (by repeat (first | exact hs_eq _ _ _ | refine hs_ne (by omega) ?_ | assumption)) (by omega) (by omega) (by omega) ?_
                  try simp (disch := omega) only [iu_ne (j := 61 + ww)]
                  refine k_istore_n C dX8_set_52 (by decide) rfl ?_
                  refine k_aload_n C dX8_set_53 rfl ?_
                  refine k_get C (k := 0) inX8 (ci := 8) rfl (by decide) fl_X8_7 dX8_set_54 (by repeat (first | exact hs_eq _ _ _ | refine hs_ne (by omega) ?_ | assumption)) rfl ?_
                  refine k_bipush C dX8_set_57 (by decide +kernel) ?_
                  refine k_iload_n C dX8_set_59 rfl ?_
                  refine k_iadd C dX8_set_60 ?_
                  refine k_iload_n C dX8_set_61 rfl ?_
                  refine k_iastore C dX8_set_62 (by repeat (first | exact hs_eq _ _ _ | refine hs_ne (by omega) ?_ | assumption)) (by omega) (by omega) (by omega) ?_
                  refine k_aload_n C dX8_set_63 rfl ?_
                  refine k_get C (k := 0) inX8 (ci := 8) rfl (by decide) fl_X8_7 dX8_set_64 (by repeat (first | exact hs_eq _ _ _ | refine hs_ne (by omega) ?_ | assumption)) rfl ?_
                  refine k_bipush C dX8_set_67 (by decide +kernel) ?_
                  refine k_aload_n C dX8_set_69 rfl ?_
                  refine k_get C (k := 0) inX8 (ci := 8) rfl (by decide) fl_X8_7 dX8_set_70 (by repeat (first | exact hs_eq _ _ _ | refine hs_ne (by omega) ?_ | assumption)) rfl ?_
                  refine k_bipush C dX8_set_73 (by decide +kernel) ?_
                  refine k_iaload C dX8_set_75 (by repeat (first | exact hs_eq _ _ _ | refine hs_ne (by omega) ?_ | assumption)) (by omega) (by omega) (by omega) ?_
                  try simp (disch := omega) only [iu_ne (j := 61 + ww)]
                  refine k_aload_n C dX8_set_76 rfl ?_
                  refine k_get C (k := 0) inX8 (ci := 8) rfl (by decide) fl_X8_7 dX8_set_77 (by repeat (first | exact hs_eq _ _ _ | refine hs_ne (by omega) ?_ | assumption)) rfl ?_
                  refine k_bipush C dX8_set_80 (by decide +kernel) ?_
                  refine k_iaload C dX8_set_82 (by repeat (first | exact hs_eq _ _ _ | refine hs_ne (by omega) ?_ | assumption)) (by omega) (by omega) (by omega) ?_
                  try simp (disch := omega) only [iu_ne (j := 61 + ww)]
                  refine k_callS C (n := 2) (as := [_, _]) (ct_X8_lesser l D tc base _ _ _ ⟨by omega, by omega⟩ (by simp only [iu]; split <;> constructor <;> omega)) ml_X8_46 sm_X8_lesser ini_X8 co_X8_lesser ⟨by decide, by decide, by decide +kernel⟩ rfl ⟨by decide, by decide⟩ rfl (Nat.le_of_ble_eq_true rfl) ⟨Nat.zero_le _, Nat.zero_le _⟩ dX8_set_83 ?_
                  rintro _ _ ⟨rfl, rfl⟩
                  refine k_iastore C dX8_set_86 (by repeat (first | exact hs_eq _ _ _ | refine hs_ne (by omega) ?_ | assumption)) (by omega) (by omega) (by omega) ?_
                  refine k_iload_n C dX8_set_87 rfl ?_
                  refine k_iret C hr dX8_set_88 ?_
                  first
                    | exact Or.inl ⟨by omega, rfl, ⟨(by repeat (first | exact hs_eq _ _ _ | refine hs_ne (by omega) ?_ | assumption)), (by repeat (first | exact hs_eq _ _ _ | refine hs_ne (by omega) ?_ | assumption)), (by repeat (first | exact hs_eq _ _ _ | refine hs_ne (by omega) ?_ | assumption)), (by repeat (first | exact hs_eq _ _ _ | refine hs_ne (by omega) ?_ | assumption)), (by repeat (first | exact hs_eq _ _ _ | refine hs_ne (by omega) ?_ | assumption)), (by repeat (first | exact hs_eq _ _ _ | refine hs_ne (by omega) ?_ | assumption))⟩, Fr.tr (Fr.tr (fun aaa haa => by repeat (first | rfl | refine hs_ne (by omega) ?_)) hF1) (fun aaa haa => by repeat (first | rfl | refine hs_ne (by omega) ?_))⟩
                    | exact Or.inr (Or.inl ⟨by omega, rfl, ⟨(by repeat (first | exact hs_eq _ _ _ | refine hs_ne (by omega) ?_ | assumption)), (by repeat (first | exact hs_eq _ _ _ | refine hs_ne (by omega) ?_ | assumption)), (by repeat (first | exact hs_eq _ _ _ | refine hs_ne (by omega) ?_ | assumption)), (by repeat (first | exact hs_eq _ _ _ | refine hs_ne (by omega) ?_ | assumption)), (by repeat (first | exact hs_eq _ _ _ | refine hs_ne (by omega) ?_ | assumption)), (by repeat (first | exact hs_eq _ _ _ | refine hs_ne (by omega) ?_ | assumption))⟩, fun aaa haa => by repeat (first | rfl | refine hs_ne (by omega) ?_)⟩)
                    | exact Or.inr (Or.inr (⟨by omega, rfl, ⟨(by repeat (first | exact hs_eq _ _ _ | refine hs_ne (by omega) ?_ | assumption)), (by repeat (first | exact hs_eq _ _ _ | refine hs_ne (by omega) ?_ | assumption)), (by repeat (first | exact hs_eq _ _ _ | refine hs_ne (by omega) ?_ | assumption)), (by repeat (first | exact hs_eq _ _ _ | refine hs_ne (by omega) ?_ | assumption)), (by repeat (first | exact hs_eq _ _ _ | refine hs_ne (by omega) ?_ | assumption)), (by repeat (first | exact hs_eq _ _ _ | refine hs_ne (by omega) ?_ | assumption))⟩, fun aaa haa => by repeat (first | rfl | refine hs_ne (by omega) ?_)⟩)))
              · try (exfalso; omega)
                all_goals (
                  refine k_iconst C dX8_set_37 ?_
                  refine k_iret C hr dX8_set_38 ?_
                  first
                    | exact Or.inl ⟨by omega, rfl, ⟨(by repeat (first | exact hs_eq _ _ _ | refine hs_ne (by omega) ?_ | assumption)), (by repeat (first | exact hs_eq _ _ _ | refine hs_ne (by omega) ?_ | assumption)), (by repeat (first | exact hs_eq _ _ _ | refine hs_ne (by omega) ?_ | assumption)), (by repeat (first | exact hs_eq _ _ _ | refine hs_ne (by omega) ?_ | assumption)), (by repeat (first | exact hs_eq _ _ _ | refine hs_ne (by omega) ?_ | assumption)), (by repeat (first | exact hs_eq _ _ _ | refine hs_ne (by omega) ?_ | assumption))⟩, Fr.tr (Fr.tr (fun aaa haa => by repeat (first | rfl | refine hs_ne (by omega) ?_)) hF1) (fun aaa haa => by repeat (first | rfl | refine hs_ne (by omega) ?_))⟩
                    | exact Or.inr (Or.inl ⟨by omega, rfl, ⟨(by repeat (first | exact hs_eq _ _ _ | refine hs_ne (by omega) ?_ | assumption)), (by repeat (first | exact hs_eq _ _ _ | refine hs_ne (by omega) ?_ | assumption)), (by repeat (first | exact hs_eq _ _ _ | refine hs_ne (by omega) ?_ | assumption)), (by repeat (first | exact hs_eq _ _ _ | refine hs_ne (by omega) ?_ | assumption)), (by repeat (first | exact hs_eq _ _ _ | refine hs_ne (by omega) ?_ | assumption)), (by repeat (first | exact hs_eq _ _ _ | refine hs_ne (by omega) ?_ | assumption))⟩, fun aaa haa => by repeat (first | rfl | refine hs_ne (by omega) ?_)⟩)
                    | exact Or.inr (Or.inr (⟨by omega, rfl, ⟨(by repeat (first | exact hs_eq _ _ _ | refine hs_ne (by omega) ?_ | assumption)), (by repeat (first | exact hs_eq _ _ _ | refine hs_ne (by omega) ?_ | assumption)), (by repeat (first | exact hs_eq _ _ _ | refine hs_ne (by omega) ?_ | assumption)), (by repeat (first | exact hs_eq _ _ _ | refine hs_ne (by omega) ?_ | assumption)), (by repeat (first | exact hs_eq _ _ _ | refine hs_ne (by omega) ?_ | assumption)), (by repeat (first | exact hs_eq _ _ _ | refine hs_ne (by omega) ?_ | assumption))⟩, fun aaa haa => by repeat (first | rfl | refine hs_ne (by omega) ?_)⟩))))
          · try (exfalso; omega)
            all_goals (
              refine k_iconst C dX8_set_22 ?_
              refine k_goto (tgt := 27) C dX8_set_23 (by decide) ?_
              refine k_put C (k := 5) inX8 tyX8_ok nmX8 (ci := 8) rfl (by decide) fl_X8_25 rfl (Nat.le_of_ble_eq_true rfl) dX8_set_27 (by repeat (first | exact hs_eq _ _ _ | refine hs_ne (by omega) ?_ | assumption)) ?_
              refine k_aload_n C dX8_set_30 rfl ?_
              refine k_get C (k := 5) inX8 (ci := 8) rfl (by decide) fl_X8_25 dX8_set_31 (by repeat (first | exact hs_eq _ _ _ | refine hs_ne (by omega) ?_ | assumption)) rfl ?_
              refine k_if_le (tgt := 39) C dX8_set_34 (by decide) ⟨by omega, by omega⟩ (fun c34 => ?_) (fun c34 => ?_)
              · try (exfalso; omega)
                all_goals (
                  refine k_aload_n C dX8_set_39 rfl ?_
                  refine k_callV C (n := 0) (as := []) (ct_X8_save l D tc base oo zrr hhi htx has hro st ln (0) re du hsh _ ⟨(by repeat (first | exact hs_eq _ _ _ | refine hs_ne (by omega) ?_ | assumption)), (by repeat (first | exact hs_eq _ _ _ | refine hs_ne (by omega) ?_ | assumption)), (by repeat (first | exact hs_eq _ _ _ | refine hs_ne (by omega) ?_ | assumption)), (by repeat (first | exact hs_eq _ _ _ | refine hs_ne (by omega) ?_ | assumption)), (by repeat (first | exact hs_eq _ _ _ | refine hs_ne (by omega) ?_ | assumption)), (by repeat (first | exact hs_eq _ _ _ | refine hs_ne (by omega) ?_ | assumption))⟩ hst) ml_X8_102 im_X8_save se_X8_save ini_X8 co_X8_save ⟨rfl, by decide, by decide, by decide +kernel⟩ rfl (ci := 8) rfl (by repeat (first | exact hs_eq _ _ _ | refine hs_ne (by omega) ?_ | assumption)) ⟨by decide, by decide⟩ rfl (Nat.le_of_ble_eq_true rfl) ⟨Nat.zero_le _, Nat.zero_le _⟩ dX8_set_40 ?_
                  rintro _ _ ⟨rfl, hM1, hF1⟩
                  obtain ⟨k0, k1, k2, k3, k4, k5⟩ := id hM1
                  refine k_aload_n C dX8_set_43 rfl ?_
                  refine k_get C (k := 0) inX8 (ci := 8) rfl (by decide) fl_X8_7 dX8_set_44 (by repeat (first | exact hs_eq _ _ _ | refine hs_ne (by omega) ?_ | assumption)) rfl ?_
                  refine k_bipush C dX8_set_47 (by decide +kernel) ?_
                  refine k_iload_n C dX8_set_49 rfl ?_
                  refine k_iadd C dX8_set_50 ?_
                  refine k_iaload C dX8_set_51 (by repeat (first | exact hs_eq _ _ _ | refine hs_ne (by omega) ?_ | assumption)) (by omega) (by omega) (by omega) ?_
                  try simp (disch := omega) only [iu_ne (j := 61 + ww)]
                  refine k_istore_n C dX8_set_52 (by decide) rfl ?_
                  refine k_aload_n C dX8_set_53 rfl ?_
                  refine k_get C (k := 0) inX8 (ci := 8) rfl (by decide) fl_X8_7 dX8_set_54 (by repeat (first | exact hs_eq _ _ _ | refine hs_ne (by omega) ?_ | assumption)) rfl ?_
                  refine k_bipush C dX8_set_57 (by decide +kernel) ?_
                  refine k_iload_n C dX8_set_59 rfl ?_
                  refine k_iadd C dX8_set_60 ?_
                  refine k_iload_n C dX8_set_61 rfl ?_
                  refine k_iastore C dX8_set_62 (by repeat (first | exact hs_eq _ _ _ | refine hs_ne (by omega) ?_ | assumption)) (by omega) (by omega) (by omega) ?_
                  refine k_aload_n C dX8_set_63 rfl ?_
                  refine k_get C (k := 0) inX8 (ci := 8) rfl (by decide) fl_X8_7 dX8_set_64 (by repeat (first | exact hs_eq _ _ _ | refine hs_ne (by omega) ?_ | assumption)) rfl ?_
                  refine k_bipush C dX8_set_67 (by decide +kernel) ?_
                  refine k_aload_n C dX8_set_69 rfl ?_
                  refine k_get C (k := 0) inX8 (ci := 8) rfl (by decide) fl_X8_7 dX8_set_70 (by repeat (first | exact hs_eq _ _ _ | refine hs_ne (by omega) ?_ | assumption)) rfl ?_
                  refine k_bipush C dX8_set_73 (by decide +kernel) ?_
                  refine k_iaload C dX8_set_75 (by repeat (first | exact hs_eq _ _ _ | refine hs_ne (by omega) ?_ | assumption)) (by omega) (by omega) (by omega) ?_
                  try simp (disch := omega) only [iu_ne (j := 61 + ww)]
                  refine k_aload_n C dX8_set_76 rfl ?_
                  refine k_get C (k := 0) inX8 (ci := 8) rfl (by decide) fl_X8_7 dX8_set_77 (by repeat (first | exact hs_eq _ _ _ | refine hs_ne (by omega) ?_ | assumption)) rfl ?_
                  refine k_bipush C dX8_set_80 (by decide +kernel) ?_
                  refine k_iaload C dX8_set_82 (by repeat (first | exact hs_eq _ _ _ | refine hs_ne (by omega) ?_ | assumption)) (by omega) (by omega) (by omega) ?_
                  try simp (disch := omega) only [iu_ne (j := 61 + ww)]
                  refine k_callS C (n := 2) (as := [_, _]) (ct_X8_lesser l D tc base _ _ _ ⟨by omega, by omega⟩ (by simp only [iu]; split <;> constructor <;> omega)) ml_X8_46 sm_X8_lesser ini_X8 co_X8_lesser ⟨by decide, by decide, by decide +kernel⟩ rfl ⟨by decide, by decide⟩ rfl (Nat.le_of_ble_eq_true rfl) ⟨Nat.zero_le _, Nat.zero_le _⟩ dX8_set_83 ?_
                  rintro _ _ ⟨rfl, rfl⟩
                  refine k_iastore C dX8_set_86 (by repeat (first | exact hs_eq _ _ _ | refine hs_ne (by omega) ?_ | assumption)) (by omega) (by omega) (by omega) ?_
                  refine k_iload_n C dX8_set_87 rfl ?_
                  refine k_iret C hr dX8_set_88 ?_
                  first
                    | exact Or.inl ⟨by omega, rfl, ⟨(by repeat (first | exact hs_eq _ _ _ | refine hs_ne (by omega) ?_ | assumption)), (by repeat (first | exact hs_eq _ _ _ | refine hs_ne (by omega) ?_ | assumption)), (by repeat (first | exact hs_eq _ _ _ | refine hs_ne (by omega) ?_ | assumption)), (by repeat (first | exact hs_eq _ _ _ | refine hs_ne (by omega) ?_ | assumption)), (by repeat (first | exact hs_eq _ _ _ | refine hs_ne (by omega) ?_ | assumption)), (by repeat (first | exact hs_eq _ _ _ | refine hs_ne (by omega) ?_ | assumption))⟩, Fr.tr (Fr.tr (fun aaa haa => by repeat (first | rfl | refine hs_ne (by omega) ?_)) hF1) (fun aaa haa => by repeat (first | rfl | refine hs_ne (by omega) ?_))⟩
                    | exact Or.inr (Or.inl ⟨by omega, rfl, ⟨(by repeat (first | exact hs_eq _ _ _ | refine hs_ne (by omega) ?_ | assumption)), (by repeat (first | exact hs_eq _ _ _ | refine hs_ne (by omega) ?_ | assumption)), (by repeat (first | exact hs_eq _ _ _ | refine hs_ne (by omega) ?_ | assumption)), (by repeat (first | exact hs_eq _ _ _ | refine hs_ne (by omega) ?_ | assumption)), (by repeat (first | exact hs_eq _ _ _ | refine hs_ne (by omega) ?_ | assumption)), (by repeat (first | exact hs_eq _ _ _ | refine hs_ne (by omega) ?_ | assumption))⟩, fun aaa haa => by repeat (first | rfl | refine hs_ne (by omega) ?_)⟩)
                    | exact Or.inr (Or.inr (⟨by omega, rfl, ⟨(by repeat (first | exact hs_eq _ _ _ | refine hs_ne (by omega) ?_ | assumption)), (by repeat (first | exact hs_eq _ _ _ | refine hs_ne (by omega) ?_ | assumption)), (by repeat (first | exact hs_eq _ _ _ | refine hs_ne (by omega) ?_ | assumption)), (by repeat (first | exact hs_eq _ _ _ | refine hs_ne (by omega) ?_ | assumption)), (by repeat (first | exact hs_eq _ _ _ | refine hs_ne (by omega) ?_ | assumption)), (by repeat (first | exact hs_eq _ _ _ | refine hs_ne (by omega) ?_ | assumption))⟩, fun aaa haa => by repeat (first | rfl | refine hs_ne (by omega) ?_)⟩)))
              · try (exfalso; omega)
                all_goals (
                  refine k_iconst C dX8_set_37 ?_
                  refine k_iret C hr dX8_set_38 ?_
                  first
                    | exact Or.inl ⟨by omega, rfl, ⟨(by repeat (first | exact hs_eq _ _ _ | refine hs_ne (by omega) ?_ | assumption)), (by repeat (first | exact hs_eq _ _ _ | refine hs_ne (by omega) ?_ | assumption)), (by repeat (first | exact hs_eq _ _ _ | refine hs_ne (by omega) ?_ | assumption)), (by repeat (first | exact hs_eq _ _ _ | refine hs_ne (by omega) ?_ | assumption)), (by repeat (first | exact hs_eq _ _ _ | refine hs_ne (by omega) ?_ | assumption)), (by repeat (first | exact hs_eq _ _ _ | refine hs_ne (by omega) ?_ | assumption))⟩, Fr.tr (Fr.tr (fun aaa haa => by repeat (first | rfl | refine hs_ne (by omega) ?_)) hF1) (fun aaa haa => by repeat (first | rfl | refine hs_ne (by omega) ?_))⟩
                    | exact Or.inr (Or.inl ⟨by omega, rfl, ⟨(by repeat (first | exact hs_eq _ _ _ | refine hs_ne (by omega) ?_ | assumption)), (by repeat (first | exact hs_eq _ _ _ | refine hs_ne (by omega) ?_ | assumption)), (by repeat (first | exact hs_eq _ _ _ | refine hs_ne (by omega) ?_ | assumption)), (by repeat (first | exact hs_eq _ _ _ | refine hs_ne (by omega) ?_ | assumption)), (by repeat (first | exact hs_eq _ _ _ | refine hs_ne (by omega) ?_ | assumption)), (by repeat (first | exact hs_eq _ _ _ | refine hs_ne (by omega) ?_ | assumption))⟩, fun aaa haa => by repeat (first | rfl | refine hs_ne (by omega) ?_)⟩)
                    | exact Or.inr (Or.inr (⟨by omega, rfl, ⟨(by repeat (first | exact hs_eq _ _ _ | refine hs_ne (by omega) ?_ | assumption)), (by repeat (first | exact hs_eq _ _ _ | refine hs_ne (by omega) ?_ | assumption)), (by repeat (first | exact hs_eq _ _ _ | refine hs_ne (by omega) ?_ | assumption)), (by repeat (first | exact hs_eq _ _ _ | refine hs_ne (by omega) ?_ | assumption)), (by repeat (first | exact hs_eq _ _ _ | refine hs_ne (by omega) ?_ | assumption)), (by repeat (first | exact hs_eq _ _ _ | refine hs_ne (by omega) ?_ | assumption))⟩, fun aaa haa => by repeat (first | rfl | refine hs_ne (by omega) ?_)⟩)))))
    · try (exfalso; omega)
      all_goals (
        refine k_iconst C dX8_set_10 ?_
        refine k_goto (tgt := 27) C dX8_set_11 (by decide) ?_
        refine k_put C (k := 5) inX8 tyX8_ok nmX8 (ci := 8) rfl (by decide) fl_X8_25 rfl (Nat.le_of_ble_eq_true rfl) dX8_set_27 (by repeat (first | exact hs_eq _ _ _ | refine hs_ne (by omega) ?_ | assumption)) ?_
        refine k_aload_n C dX8_set_30 rfl ?_
        refine k_get C (k := 5) inX8 (ci := 8) rfl (by decide) fl_X8_25 dX8_set_31 (by repeat (first | exact hs_eq _ _ _ | refine hs_ne (by omega) ?_ | assumption)) rfl ?_
        refine k_if_le (tgt := 39) C dX8_set_34 (by decide) ⟨by omega, by omega⟩ (fun c34 => ?_) (fun c34 => ?_)
        · try (exfalso; omega)
          all_goals (
            refine k_aload_n C dX8_set_39 rfl ?_
            refine k_callV C (n := 0) (as := []) (ct_X8_save l D tc base oo zrr hhi htx has hro st ln (0) re du hsh _ ⟨(by repeat (first | exact hs_eq _ _ _ | refine hs_ne (by omega) ?_ | assumption)), (by repeat (first | exact hs_eq _ _ _ | refine hs_ne (by omega) ?_ | assumption)), (by repeat (first | exact hs_eq _ _ _ | refine hs_ne (by omega) ?_ | assumption)), (by repeat (first | exact hs_eq _ _ _ | refine hs_ne (by omega) ?_ | assumption)), (by repeat (first | exact hs_eq _ _ _ | refine hs_ne (by omega) ?_ | assumption)), (by repeat (first | exact hs_eq _ _ _ | refine hs_ne (by omega) ?_ | assumption))⟩ hst) ml_X8_102 im_X8_save se_X8_save ini_X8 co_X8_save ⟨rfl, by decide, by decide, by decide +kernel⟩ rfl (ci := 8) rfl (by repeat (first | exact hs_eq _ _ _ | refine hs_ne (by omega) ?_ | assumption)) ⟨by decide, by decide⟩ rfl (Nat.le_of_ble_eq_true rfl) ⟨Nat.zero_le _, Nat.zero_le _⟩ dX8_set_40 ?_
            rintro _ _ ⟨rfl, hM1, hF1⟩
            obtain ⟨k0, k1, k2, k3, k4, k5⟩ := id hM1
            refine k_aload_n C dX8_set_43 rfl ?_
            refine k_get C (k := 0) inX8 (ci := 8) rfl (by decide) fl_X8_7 dX8_set_44 (by repeat (first | exact hs_eq _ _ _ | refine hs_ne (by omega) ?_ | assumption)) rfl ?_
            refine k_bipush C dX8_set_47 (by decide +kernel) ?_
            refine k_iload_n C dX8_set_49 rfl ?_
            refine k_iadd C dX8_set_50 ?_
            refine k_iaload C dX8_set_51 (by repeat (first | exact hs_eq _ _ _ | refine hs_ne (by omega) ?_ | assumption)) (by omega) (by omega) (by omega) ?_
            try simp (disch := omega) only [iu_ne (j := 61 + ww)]
            refine k_istore_n C dX8_set_52 (by decide) rfl ?_
            refine k_aload_n C dX8_set_53 rfl ?_
            refine k_get C (k := 0) inX8 (ci := 8) rfl (by decide) fl_X8_7 dX8_set_54 (by repeat (first | exact hs_eq _ _ _ | refine hs_ne (by omega) ?_ | assumption)) rfl ?_
            refine k_bipush C dX8_set_57 (by decide +kernel) ?_
            refine k_iload_n C dX8_set_59 rfl ?_
            refine k_iadd C dX8_set_60 ?_
            refine k_iload_n C dX8_set_61 rfl ?_
            refine k_iastore C dX8_set_62 (by repeat (first | exact hs_eq _ _ _ | refine hs_ne (by omega) ?_ | assumption)) (by omega) (by omega) (by omega) ?_
            refine k_aload_n C dX8_set_63 rfl ?_
            refine k_get C (k := 0) inX8 (ci := 8) rfl (by decide) fl_X8_7 dX8_set_64 (by repeat (first | exact hs_eq _ _ _ | refine hs_ne (by omega) ?_ | assumption)) rfl ?_
            refine k_bipush C dX8_set_67 (by decide +kernel) ?_
            refine k_aload_n C dX8_set_69 rfl ?_
            refine k_get C (k := 0) inX8 (ci := 8) rfl (by decide) fl_X8_7 dX8_set_70 (by repeat (first | exact hs_eq _ _ _ | refine hs_ne (by omega) ?_ | assumption)) rfl ?_
            refine k_bipush C dX8_set_73 (by decide +kernel) ?_
            refine k_iaload C dX8_set_75 (by repeat (first | exact hs_eq _ _ _ | refine hs_ne (by omega) ?_ | assumption)) (by omega) (by omega) (by omega) ?_
            try simp (disch := omega) only [iu_ne (j := 61 + ww)]
            refine k_aload_n C dX8_set_76 rfl ?_
            refine k_get C (k := 0) inX8 (ci := 8) rfl (by decide) fl_X8_7 dX8_set_77 (by repeat (first | exact hs_eq _ _ _ | refine hs_ne (by omega) ?_ | assumption)) rfl ?_
            refine k_bipush C dX8_set_80 (by decide +kernel) ?_
            refine k_iaload C dX8_set_82 (by repeat (first | exact hs_eq _ _ _ | refine hs_ne (by omega) ?_ | assumption)) (by omega) (by omega) (by omega) ?_
            try simp (disch := omega) only [iu_ne (j := 61 + ww)]
            refine k_callS C (n := 2) (as := [_, _]) (ct_X8_lesser l D tc base _ _ _ ⟨by omega, by omega⟩ (by simp only [iu]; split <;> constructor <;> omega)) ml_X8_46 sm_X8_lesser ini_X8 co_X8_lesser ⟨by decide, by decide, by decide +kernel⟩ rfl ⟨by decide, by decide⟩ rfl (Nat.le_of_ble_eq_true rfl) ⟨Nat.zero_le _, Nat.zero_le _⟩ dX8_set_83 ?_
            rintro _ _ ⟨rfl, rfl⟩
            refine k_iastore C dX8_set_86 (by repeat (first | exact hs_eq _ _ _ | refine hs_ne (by omega) ?_ | assumption)) (by omega) (by omega) (by omega) ?_
            refine k_iload_n C dX8_set_87 rfl ?_
            refine k_iret C hr dX8_set_88 ?_
            first
              | exact Or.inl ⟨by omega, rfl, ⟨(by repeat (first | exact hs_eq _ _ _ | refine hs_ne (by omega) ?_ | assumption)), (by repeat (first | exact hs_eq _ _ _ | refine hs_ne (by omega) ?_ | assumption)), (by repeat (first | exact hs_eq _ _ _ | refine hs_ne (by omega) ?_ | assumption)), (by repeat (first | exact hs_eq _ _ _ | refine hs_ne (by omega) ?_ | assumption)), (by repeat (first | exact hs_eq _ _ _ | refine hs_ne (by omega) ?_ | assumption)), (by repeat (first | exact hs_eq _ _ _ | refine hs_ne (by omega) ?_ | assumption))⟩, Fr.tr (Fr.tr (fun aaa haa => by repeat (first | rfl | refine hs_ne (by omega) ?_)) hF1) (fun aaa haa => by repeat (first | rfl | refine hs_ne (by omega) ?_))⟩
              | exact Or.inr (Or.inl ⟨by omega, rfl, ⟨(by repeat (first | exact hs_eq _ _ _ | refine hs_ne (by omega) ?_ | assumption)), (by repeat (first | exact hs_eq _ _ _ | refine hs_ne (by omega) ?_ | assumption)), (by repeat (first | exact hs_eq _ _ _ | refine hs_ne (by omega) ?_ | assumption)), (by repeat (first | exact hs_eq _ _ _ | refine hs_ne (by omega) ?_ | assumption)), (by repeat (first | exact hs_eq _ _ _ | refine hs_ne (by omega) ?_ | assumption)), (by repeat (first | exact hs_eq _ _ _ | refine hs_ne (by omega) ?_ | assumption))⟩, fun aaa haa => by repeat (first | rfl | refine hs_ne (by omega) ?_)⟩)
              | exact Or.inr (Or.inr (⟨by omega, rfl, ⟨(by repeat (first | exact hs_eq _ _ _ | refine hs_ne (by omega) ?_ | assumption)), (by repeat (first | exact hs_eq _ _ _ | refine hs_ne (by omega) ?_ | assumption)), (by repeat (first | exact hs_eq _ _ _ | refine hs_ne (by omega) ?_ | assumption)), (by repeat (first | exact hs_eq _ _ _ | refine hs_ne (by omega) ?_ | assumption)), (by repeat (first | exact hs_eq _ _ _ | refine hs_ne (by omega) ?_ | assumption)), (by repeat (first | exact hs_eq _ _ _ | refine hs_ne (by omega) ?_ | assumption))⟩, fun aaa haa => by repeat (first | rfl | refine hs_ne (by omega) ?_)⟩)))
        · try (exfalso; omega)
          all_goals (
            refine k_iconst C dX8_set_37 ?_
            refine k_iret C hr dX8_set_38 ?_
            first
              | exact Or.inl ⟨by omega, rfl, ⟨(by repeat (first | exact hs_eq _ _ _ | refine hs_ne (by omega) ?_ | assumption)), (by repeat (first | exact hs_eq _ _ _ | refine hs_ne (by omega) ?_ | assumption)), (by repeat (first | exact hs_eq _ _ _ | refine hs_ne (by omega) ?_ | assumption)), (by repeat (first | exact hs_eq _ _ _ | refine hs_ne (by omega) ?_ | assumption)), (by repeat (first | exact hs_eq _ _ _ | refine hs_ne (by omega) ?_ | assumption)), (by repeat (first | exact hs_eq _ _ _ | refine hs_ne (by omega) ?_ | assumption))⟩, Fr.tr (Fr.tr (fun aaa haa => by repeat (first | rfl | refine hs_ne (by omega) ?_)) hF1) (fun aaa haa => by repeat (first | rfl | refine hs_ne (by omega) ?_))⟩
              | exact Or.inr (Or.inl ⟨by omega, rfl, ⟨(by repeat (first | exact hs_eq _ _ _ | refine hs_ne (by omega) ?_ | assumption)), (by repeat (first | exact hs_eq _ _ _ | refine hs_ne (by omega) ?_ | assumption)), (by repeat (first | exact hs_eq _ _ _ | refine hs_ne (by omega) ?_ | assumption)), (by repeat (first | exact hs_eq _ _ _ | refine hs_ne (by omega) ?_ | assumption)), (by repeat (first | exact hs_eq _ _ _ | refine hs_ne (by omega) ?_ | assumption)), (by repeat (first | exact hs_eq _ _ _ | refine hs_ne (by omega) ?_ | assumption))⟩, fun aaa haa => by repeat (first | rfl | refine hs_ne (by omega) ?_)⟩)
              | exact Or.inr (Or.inr (⟨by omega, rfl, ⟨(by repeat (first | exact hs_eq _ _ _ | refine hs_ne (by omega) ?_ | assumption)), (by repeat (first | exact hs_eq _ _ _ | refine hs_ne (by omega) ?_ | assumption)), (by repeat (first | exact hs_eq _ _ _ | refine hs_ne (by omega) ?_ | assumption)), (by repeat (first | exact hs_eq _ _ _ | refine hs_ne (by omega) ?_ | assumption)), (by repeat (first | exact hs_eq _ _ _ | refine hs_ne (by omega) ?_ | assumption)), (by repeat (first | exact hs_eq _ _ _ | refine hs_ne (by omega) ?_ | assumption))⟩, fun aaa haa => by repeat (first | rfl | refine hs_ne (by omega) ?_)⟩))))

set_option maxRecDepth 20000 in
set_option maxHeartbeats 1000000 in
theorem ct_X8_isWinder (l : Launch) (D : va_G) (tc : Nat → ClassId) (base : Nat) (oo : Nat) (zrr hhi htx has hro : Int → Int) (st ln th re du hsh : Int) (hpp : AH) (hM : MA hpp oo zrr hhi htx has hro st ln th re du hsh) (ww : Int) (hw : r32 ww) (hi : zInv zrr) : CT l D tc base yX8_isWinder cX8_isWinder 2 (some .boolean) 1 [aR oo, aI ww] hpp (fun r h' => (r = some (aI 1) ∧ hpp = h' ∧ 0 ≤ ww ∧ ww < zrr 21) ∨ (r = some (aI 0) ∧ hpp = h' ∧ ¬ (0 ≤ ww ∧ ww < zrr 21))) := by
  refine CT.of [some (aR oo), some (aI ww)] (by decide +kernel) rfl (Nat.le_of_ble_eq_true rfl) ?_
  intro p e s m args below meth c C hr hnm
  obtain ⟨g0, g1, g2, g3, g4, g5⟩ := id hM
  obtain ⟨⟨v0, v1, v2, v9, v10, v11, v12, v13, v21, v52, v61, v62, v63, v64, v65, v66⟩, hwi, hde⟩ := id hi
  refine k_iload_n C dX8_isWinder_0 rfl ?_
  refine k_iconst C dX8_isWinder_1 ?_
  refine k_aload_n C dX8_isWinder_2 rfl ?_
  refine k_get C (k := 0) inX8 (ci := 8) rfl (by decide) fl_X8_7 dX8_isWinder_3 (by repeat (first | exact hs_eq _ _ _ | refine hs_ne (by omega) ?_ | assumption)) rfl ?_
  refine k_bipush C dX8_isWinder_6 (by decide +kernel) ?_
  refine k_iaload C dX8_isWinder_8 (by repeat (first | exact hs_eq _ _ _ | refine hs_ne (by omega) ?_ | assumption)) (by omega) (by omega) (by omega) ?_
  refine k_iconst C dX8_isWinder_9 ?_
  refine k_isub C dX8_isWinder_10 ?_
  refine k_callS C (n := 3) (as := [_, _, _]) (ct_X8_within l D tc base _ _ _ _ hw ⟨by omega, by omega⟩ ⟨by omega, by omega⟩) ml_X8_92 sm_X8_within ini_X8 co_X8_within ⟨by decide, by decide, by decide +kernel⟩ rfl ⟨by decide, by decide⟩ rfl (Nat.le_of_ble_eq_true rfl) ⟨Nat.zero_le _, Nat.zero_le _⟩ dX8_isWinder_11 ?_
  rintro _ _ (⟨rfl, rfl, hq⟩ | ⟨rfl, rfl, hq⟩)
  · skip
    refine k_zret C hr dX8_isWinder_14 (by omega) ?_
    first | exact Or.inl ⟨rfl, rfl, by omega, by omega⟩ | exact Or.inr ⟨rfl, rfl, by omega⟩
  · skip
    refine k_zret C hr dX8_isWinder_14 (by omega) ?_
    first | exact Or.inl ⟨rfl, rfl, by omega, by omega⟩ | exact Or.inr ⟨rfl, rfl, by omega⟩

set_option maxRecDepth 20000 in
set_option maxHeartbeats 1000000 in
theorem ct_X8_hire (l : Launch) (D : va_G) (tc : Nat → ClassId) (base : Nat) (oo : Nat) (zrr hhi htx has hro : Int → Int) (st ln th re du hsh : Int) (hpp : AH) (hM : MA hpp oo zrr hhi htx has hro st ln th re du hsh) (ww tt pd : Int) (hw : r32 ww) (ht : r32 tt) (hpd : r32 pd) (hi : zInv zrr) (hst : 0 ≤ st ∧ st ≤ 6) : CT l D tc base yX8_hire cX8_hire 4 (some .int) 2 [aR oo, aI ww, aI tt, aI pd] hpp (fun r h' => (((0 ≤ ww ∧ ww ≤ 2) ∧ (1 ≤ tt ∧ tt ≤ 200) ∧ (1 ≤ pd ∧ pd ≤ 720) ∧ zrr 21 < 6) ∧ r = some (aI (zrr 21)) ∧ MA h' oo (zComes zrr ww tt pd) (sHi zrr hhi st) (htx) (has) (hro) (sSt st) (ln) (0) (re) (du) (hsh) ∧ Fr hpp h' oo 6) ∨ (¬ (0 ≤ ww ∧ ww ≤ 2) ∧ r = some (aI (0)) ∧ MA h' oo (zrr) (hhi) (htx) (has) (hro) (st) (ln) (1) (re) (du) (hsh) ∧ Fr hpp h' oo 6) ∨ (((0 ≤ ww ∧ ww ≤ 2) ∧ ¬ ((1 ≤ tt ∧ tt ≤ 200) ∧ (1 ≤ pd ∧ pd ≤ 720))) ∧ r = some (aI (0)) ∧ MA h' oo (zrr) (hhi) (htx) (has) (hro) (st) (ln) (2) (re) (du) (hsh) ∧ Fr hpp h' oo 6) ∨ (((0 ≤ ww ∧ ww ≤ 2) ∧ (1 ≤ tt ∧ tt ≤ 200) ∧ (1 ≤ pd ∧ pd ≤ 720) ∧ zrr 21 = 6) ∧ r = some (aI (0)) ∧ MA h' oo (zrr) (hhi) (htx) (has) (hro) (st) (ln) (3) (re) (du) (hsh) ∧ Fr hpp h' oo 6)) := by
  refine CT.of [some (aR oo), some (aI ww), some (aI tt), some (aI pd)] (by decide +kernel) rfl (Nat.le_of_ble_eq_true rfl) ?_
  intro p e s m args below meth c C hr hnm
  obtain ⟨g0, g1, g2, g3, g4, g5⟩ := id hM
  obtain ⟨⟨v0, v1, v2, v9, v10, v11, v12, v13, v21, v52, v61, v62, v63, v64, v65, v66⟩, hwi, hde⟩ := id hi
  refine k_aload_n C dX8_hire_0 rfl ?_
  refine k_iload_n C dX8_hire_1 rfl ?_
  refine k_callS C (n := 1) (as := [_]) (ct_X8_isWeight l D tc base _ _ hw) ml_X8_96 sm_X8_isWeight ini_X8 co_X8_isWeight ⟨by decide, by decide, by decide +kernel⟩ rfl ⟨by decide, by decide⟩ rfl (Nat.le_of_ble_eq_true rfl) ⟨Nat.zero_le _, Nat.zero_le _⟩ dX8_hire_2 ?_
  rintro _ _ (⟨rfl, rfl, hq2⟩ | ⟨rfl, rfl, hq2⟩)
  · skip
    refine k_if_ne (tgt := 12) C dX8_hire_5 (by decide) ⟨by omega, by omega⟩ (fun c5 => ?_) (fun c5 => ?_)
    · try (exfalso; omega)
      all_goals (
        refine k_iload_n C dX8_hire_12 rfl ?_
        refine k_callS C (n := 1) (as := [_]) (ct_X8_areTurns l D tc base _ _ ht) ml_X8_99 sm_X8_areTurns ini_X8 co_X8_areTurns ⟨by decide, by decide, by decide +kernel⟩ rfl ⟨by decide, by decide⟩ rfl (Nat.le_of_ble_eq_true rfl) ⟨Nat.zero_le _, Nat.zero_le _⟩ dX8_hire_13 ?_
        rintro _ _ (⟨rfl, rfl, hq13⟩ | ⟨rfl, rfl, hq13⟩)
        · skip
          refine k_if_eq (tgt := 26) C dX8_hire_16 (by decide) ⟨by omega, by omega⟩ (fun c16 => ?_) (fun c16 => ?_)
          · try (exfalso; omega)
            all_goals (
              refine k_iconst C dX8_hire_26 ?_
              refine k_goto (tgt := 47) C dX8_hire_27 (by decide) ?_
              refine k_put C (k := 5) inX8 tyX8_ok nmX8 (ci := 8) rfl (by decide) fl_X8_25 rfl (Nat.le_of_ble_eq_true rfl) dX8_hire_47 (by repeat (first | exact hs_eq _ _ _ | refine hs_ne (by omega) ?_ | assumption)) ?_
              refine k_aload_n C dX8_hire_50 rfl ?_
              refine k_get C (k := 5) inX8 (ci := 8) rfl (by decide) fl_X8_25 dX8_hire_51 (by repeat (first | exact hs_eq _ _ _ | refine hs_ne (by omega) ?_ | assumption)) rfl ?_
              refine k_if_le (tgt := 59) C dX8_hire_54 (by decide) ⟨by omega, by omega⟩ (fun c54 => ?_) (fun c54 => ?_)
              · try (exfalso; omega)
                all_goals (
                  refine k_aload_n C dX8_hire_59 rfl ?_
                  refine k_callV C (n := 0) (as := []) (ct_X8_save l D tc base oo zrr hhi htx has hro st ln (0) re du hsh _ ⟨(by repeat (first | exact hs_eq _ _ _ | refine hs_ne (by omega) ?_ | assumption)), (by repeat (first | exact hs_eq _ _ _ | refine hs_ne (by omega) ?_ | assumption)), (by repeat (first | exact hs_eq _ _ _ | refine hs_ne (by omega) ?_ | assumption)), (by repeat (first | exact hs_eq _ _ _ | refine hs_ne (by omega) ?_ | assumption)), (by repeat (first | exact hs_eq _ _ _ | refine hs_ne (by omega) ?_ | assumption)), (by repeat (first | exact hs_eq _ _ _ | refine hs_ne (by omega) ?_ | assumption))⟩ hst) ml_X8_102 im_X8_save se_X8_save ini_X8 co_X8_save ⟨rfl, by decide, by decide, by decide +kernel⟩ rfl (ci := 8) rfl (by repeat (first | exact hs_eq _ _ _ | refine hs_ne (by omega) ?_ | assumption)) ⟨by decide, by decide⟩ rfl (Nat.le_of_ble_eq_true rfl) ⟨Nat.zero_le _, Nat.zero_le _⟩ dX8_hire_60 ?_
                  rintro _ _ ⟨rfl, hM1, hF1⟩
                  obtain ⟨k0, k1, k2, k3, k4, k5⟩ := id hM1
                  refine k_aload_n C dX8_hire_63 rfl ?_
                  refine k_iload_n C dX8_hire_64 rfl ?_
                  refine k_iload_n C dX8_hire_65 rfl ?_
                  refine k_iload_n C dX8_hire_66 rfl ?_
                  refine k_callV C (n := 3) (as := [_, _, _]) (ct_X8_comes l D tc base oo zrr _ _ _ _ _ _ _ _ _ _ _ hM1 _ _ _ ⟨by omega, by omega⟩) ml_X8_115 im_X8_comes se_X8_comes ini_X8 co_X8_comes ⟨rfl, by decide, by decide, by decide +kernel⟩ rfl (ci := 8) rfl (by repeat (first | exact hs_eq _ _ _ | refine hs_ne (by omega) ?_ | assumption)) ⟨by decide, by decide⟩ rfl (Nat.le_of_ble_eq_true rfl) ⟨Nat.zero_le _, Nat.zero_le _⟩ dX8_hire_67 ?_
                  rintro _ _ ⟨rfl, hM2, hF2⟩
                  obtain ⟨k0, k1, k2, k3, k4, k5⟩ := id hM2
                  have hz21 : zComes zrr ww tt pd 21 = zrr 21 + 1 := iu_eq _ _ _
                  refine k_aload_n C dX8_hire_70 rfl ?_
                  refine k_get C (k := 0) inX8 (ci := 8) rfl (by decide) fl_X8_7 dX8_hire_71 (by repeat (first | exact hs_eq _ _ _ | refine hs_ne (by omega) ?_ | assumption)) rfl ?_
                  refine k_bipush C dX8_hire_74 (by decide +kernel) ?_
                  refine k_iaload C dX8_hire_76 (by repeat (first | exact hs_eq _ _ _ | refine hs_ne (by omega) ?_ | assumption)) (by omega) (by omega) (by omega) ?_
                  refine k_iconst C dX8_hire_77 ?_
                  refine k_isub C dX8_hire_78 ?_
                  refine k_iret C hr dX8_hire_79 ?_
                  first
                    | exact Or.inl ⟨by omega, (by first | rfl | (rw [hz21]; exact congrArg (fun qq => some (aI qq)) (by omega))), ⟨(by repeat (first | exact hs_eq _ _ _ | refine hs_ne (by omega) ?_ | assumption)), (by repeat (first | exact hs_eq _ _ _ | refine hs_ne (by omega) ?_ | assumption)), (by repeat (first | exact hs_eq _ _ _ | refine hs_ne (by omega) ?_ | assumption)), (by repeat (first | exact hs_eq _ _ _ | refine hs_ne (by omega) ?_ | assumption)), (by repeat (first | exact hs_eq _ _ _ | refine hs_ne (by omega) ?_ | assumption)), (by repeat (first | exact hs_eq _ _ _ | refine hs_ne (by omega) ?_ | assumption))⟩, Fr.tr (Fr.tr (fun aaa haa => by repeat (first | rfl | refine hs_ne (by omega) ?_)) hF1) hF2⟩
                    | exact Or.inr (Or.inl ⟨by omega, (by first | rfl | (rw [hz21]; exact congrArg (fun qq => some (aI qq)) (by omega))), ⟨(by repeat (first | exact hs_eq _ _ _ | refine hs_ne (by omega) ?_ | assumption)), (by repeat (first | exact hs_eq _ _ _ | refine hs_ne (by omega) ?_ | assumption)), (by repeat (first | exact hs_eq _ _ _ | refine hs_ne (by omega) ?_ | assumption)), (by repeat (first | exact hs_eq _ _ _ | refine hs_ne (by omega) ?_ | assumption)), (by repeat (first | exact hs_eq _ _ _ | refine hs_ne (by omega) ?_ | assumption)), (by repeat (first | exact hs_eq _ _ _ | refine hs_ne (by omega) ?_ | assumption))⟩, fun aaa haa => by repeat (first | rfl | refine hs_ne (by omega) ?_)⟩)
                    | exact Or.inr (Or.inr (Or.inl ⟨by omega, (by first | rfl | (rw [hz21]; exact congrArg (fun qq => some (aI qq)) (by omega))), ⟨(by repeat (first | exact hs_eq _ _ _ | refine hs_ne (by omega) ?_ | assumption)), (by repeat (first | exact hs_eq _ _ _ | refine hs_ne (by omega) ?_ | assumption)), (by repeat (first | exact hs_eq _ _ _ | refine hs_ne (by omega) ?_ | assumption)), (by repeat (first | exact hs_eq _ _ _ | refine hs_ne (by omega) ?_ | assumption)), (by repeat (first | exact hs_eq _ _ _ | refine hs_ne (by omega) ?_ | assumption)), (by repeat (first | exact hs_eq _ _ _ | refine hs_ne (by omega) ?_ | assumption))⟩, fun aaa haa => by repeat (first | rfl | refine hs_ne (by omega) ?_)⟩))
                    | exact Or.inr (Or.inr (Or.inr (⟨by omega, (by first | rfl | (rw [hz21]; exact congrArg (fun qq => some (aI qq)) (by omega))), ⟨(by repeat (first | exact hs_eq _ _ _ | refine hs_ne (by omega) ?_ | assumption)), (by repeat (first | exact hs_eq _ _ _ | refine hs_ne (by omega) ?_ | assumption)), (by repeat (first | exact hs_eq _ _ _ | refine hs_ne (by omega) ?_ | assumption)), (by repeat (first | exact hs_eq _ _ _ | refine hs_ne (by omega) ?_ | assumption)), (by repeat (first | exact hs_eq _ _ _ | refine hs_ne (by omega) ?_ | assumption)), (by repeat (first | exact hs_eq _ _ _ | refine hs_ne (by omega) ?_ | assumption))⟩, fun aaa haa => by repeat (first | rfl | refine hs_ne (by omega) ?_)⟩))))
              · try (exfalso; omega)
                all_goals (
                  refine k_iconst C dX8_hire_57 ?_
                  refine k_iret C hr dX8_hire_58 ?_
                  first
                    | exact Or.inl ⟨by omega, (by first | rfl | (rw [hz21]; exact congrArg (fun qq => some (aI qq)) (by omega))), ⟨(by repeat (first | exact hs_eq _ _ _ | refine hs_ne (by omega) ?_ | assumption)), (by repeat (first | exact hs_eq _ _ _ | refine hs_ne (by omega) ?_ | assumption)), (by repeat (first | exact hs_eq _ _ _ | refine hs_ne (by omega) ?_ | assumption)), (by repeat (first | exact hs_eq _ _ _ | refine hs_ne (by omega) ?_ | assumption)), (by repeat (first | exact hs_eq _ _ _ | refine hs_ne (by omega) ?_ | assumption)), (by repeat (first | exact hs_eq _ _ _ | refine hs_ne (by omega) ?_ | assumption))⟩, Fr.tr (Fr.tr (fun aaa haa => by repeat (first | rfl | refine hs_ne (by omega) ?_)) hF1) hF2⟩
                    | exact Or.inr (Or.inl ⟨by omega, (by first | rfl | (rw [hz21]; exact congrArg (fun qq => some (aI qq)) (by omega))), ⟨(by repeat (first | exact hs_eq _ _ _ | refine hs_ne (by omega) ?_ | assumption)), (by repeat (first | exact hs_eq _ _ _ | refine hs_ne (by omega) ?_ | assumption)), (by repeat (first | exact hs_eq _ _ _ | refine hs_ne (by omega) ?_ | assumption)), (by repeat (first | exact hs_eq _ _ _ | refine hs_ne (by omega) ?_ | assumption)), (by repeat (first | exact hs_eq _ _ _ | refine hs_ne (by omega) ?_ | assumption)), (by repeat (first | exact hs_eq _ _ _ | refine hs_ne (by omega) ?_ | assumption))⟩, fun aaa haa => by repeat (first | rfl | refine hs_ne (by omega) ?_)⟩)
                    | exact Or.inr (Or.inr (Or.inl ⟨by omega, (by first | rfl | (rw [hz21]; exact congrArg (fun qq => some (aI qq)) (by omega))), ⟨(by repeat (first | exact hs_eq _ _ _ | refine hs_ne (by omega) ?_ | assumption)), (by repeat (first | exact hs_eq _ _ _ | refine hs_ne (by omega) ?_ | assumption)), (by repeat (first | exact hs_eq _ _ _ | refine hs_ne (by omega) ?_ | assumption)), (by repeat (first | exact hs_eq _ _ _ | refine hs_ne (by omega) ?_ | assumption)), (by repeat (first | exact hs_eq _ _ _ | refine hs_ne (by omega) ?_ | assumption)), (by repeat (first | exact hs_eq _ _ _ | refine hs_ne (by omega) ?_ | assumption))⟩, fun aaa haa => by repeat (first | rfl | refine hs_ne (by omega) ?_)⟩))
                    | exact Or.inr (Or.inr (Or.inr (⟨by omega, (by first | rfl | (rw [hz21]; exact congrArg (fun qq => some (aI qq)) (by omega))), ⟨(by repeat (first | exact hs_eq _ _ _ | refine hs_ne (by omega) ?_ | assumption)), (by repeat (first | exact hs_eq _ _ _ | refine hs_ne (by omega) ?_ | assumption)), (by repeat (first | exact hs_eq _ _ _ | refine hs_ne (by omega) ?_ | assumption)), (by repeat (first | exact hs_eq _ _ _ | refine hs_ne (by omega) ?_ | assumption)), (by repeat (first | exact hs_eq _ _ _ | refine hs_ne (by omega) ?_ | assumption)), (by repeat (first | exact hs_eq _ _ _ | refine hs_ne (by omega) ?_ | assumption))⟩, fun aaa haa => by repeat (first | rfl | refine hs_ne (by omega) ?_)⟩)))))
          · try (exfalso; omega)
            all_goals (
              refine k_iload_n C dX8_hire_19 rfl ?_
              refine k_callS C (n := 1) (as := [_]) (ct_X8_isPeriod l D tc base _ _ hpd) ml_X8_112 sm_X8_isPeriod ini_X8 co_X8_isPeriod ⟨by decide, by decide, by decide +kernel⟩ rfl ⟨by decide, by decide⟩ rfl (Nat.le_of_ble_eq_true rfl) ⟨Nat.zero_le _, Nat.zero_le _⟩ dX8_hire_20 ?_
              rintro _ _ (⟨rfl, rfl, hq20⟩ | ⟨rfl, rfl, hq20⟩)
              · skip
                refine k_if_ne (tgt := 30) C dX8_hire_23 (by decide) ⟨by omega, by omega⟩ (fun c23 => ?_) (fun c23 => ?_)
                · try (exfalso; omega)
                  all_goals (
                    refine k_aload_n C dX8_hire_30 rfl ?_
                    refine k_get C (k := 0) inX8 (ci := 8) rfl (by decide) fl_X8_7 dX8_hire_31 (by repeat (first | exact hs_eq _ _ _ | refine hs_ne (by omega) ?_ | assumption)) rfl ?_
                    refine k_bipush C dX8_hire_34 (by decide +kernel) ?_
                    refine k_iaload C dX8_hire_36 (by repeat (first | exact hs_eq _ _ _ | refine hs_ne (by omega) ?_ | assumption)) (by omega) (by omega) (by omega) ?_
                    refine k_bipush C dX8_hire_37 (by decide +kernel) ?_
                    refine k_icmp_ne (tgt := 46) C dX8_hire_39 (by decide) ⟨by omega, by omega⟩ ⟨by omega, by omega⟩ (fun c39 => ?_) (fun c39 => ?_)
                    · try (exfalso; omega)
                      all_goals (
                        refine k_iconst C dX8_hire_46 ?_
                        refine k_put C (k := 5) inX8 tyX8_ok nmX8 (ci := 8) rfl (by decide) fl_X8_25 rfl (Nat.le_of_ble_eq_true rfl) dX8_hire_47 (by repeat (first | exact hs_eq _ _ _ | refine hs_ne (by omega) ?_ | assumption)) ?_
                        refine k_aload_n C dX8_hire_50 rfl ?_
                        refine k_get C (k := 5) inX8 (ci := 8) rfl (by decide) fl_X8_25 dX8_hire_51 (by repeat (first | exact hs_eq _ _ _ | refine hs_ne (by omega) ?_ | assumption)) rfl ?_
                        refine k_if_le (tgt := 59) C dX8_hire_54 (by decide) ⟨by omega, by omega⟩ (fun c54 => ?_) (fun c54 => ?_)
                        · try (exfalso; omega)
                          all_goals (
                            refine k_aload_n C dX8_hire_59 rfl ?_
                            refine k_callV C (n := 0) (as := []) (ct_X8_save l D tc base oo zrr hhi htx has hro st ln (0) re du hsh _ ⟨(by repeat (first | exact hs_eq _ _ _ | refine hs_ne (by omega) ?_ | assumption)), (by repeat (first | exact hs_eq _ _ _ | refine hs_ne (by omega) ?_ | assumption)), (by repeat (first | exact hs_eq _ _ _ | refine hs_ne (by omega) ?_ | assumption)), (by repeat (first | exact hs_eq _ _ _ | refine hs_ne (by omega) ?_ | assumption)), (by repeat (first | exact hs_eq _ _ _ | refine hs_ne (by omega) ?_ | assumption)), (by repeat (first | exact hs_eq _ _ _ | refine hs_ne (by omega) ?_ | assumption))⟩ hst) ml_X8_102 im_X8_save se_X8_save ini_X8 co_X8_save ⟨rfl, by decide, by decide, by decide +kernel⟩ rfl (ci := 8) rfl (by repeat (first | exact hs_eq _ _ _ | refine hs_ne (by omega) ?_ | assumption)) ⟨by decide, by decide⟩ rfl (Nat.le_of_ble_eq_true rfl) ⟨Nat.zero_le _, Nat.zero_le _⟩ dX8_hire_60 ?_
                            rintro _ _ ⟨rfl, hM1, hF1⟩
                            obtain ⟨k0, k1, k2, k3, k4, k5⟩ := id hM1
                            refine k_aload_n C dX8_hire_63 rfl ?_
                            refine k_iload_n C dX8_hire_64 rfl ?_
                            refine k_iload_n C dX8_hire_65 rfl ?_
                            refine k_iload_n C dX8_hire_66 rfl ?_
                            refine k_callV C (n := 3) (as := [_, _, _]) (ct_X8_comes l D tc base oo zrr _ _ _ _ _ _ _ _ _ _ _ hM1 _ _ _ ⟨by omega, by omega⟩) ml_X8_115 im_X8_comes se_X8_comes ini_X8 co_X8_comes ⟨rfl, by decide, by decide, by decide +kernel⟩ rfl (ci := 8) rfl (by repeat (first | exact hs_eq _ _ _ | refine hs_ne (by omega) ?_ | assumption)) ⟨by decide, by decide⟩ rfl (Nat.le_of_ble_eq_true rfl) ⟨Nat.zero_le _, Nat.zero_le _⟩ dX8_hire_67 ?_
                            rintro _ _ ⟨rfl, hM2, hF2⟩
                            obtain ⟨k0, k1, k2, k3, k4, k5⟩ := id hM2
                            have hz21 : zComes zrr ww tt pd 21 = zrr 21 + 1 := iu_eq _ _ _
                            refine k_aload_n C dX8_hire_70 rfl ?_
                            refine k_get C (k := 0) inX8 (ci := 8) rfl (by decide) fl_X8_7 dX8_hire_71 (by repeat (first | exact hs_eq _ _ _ | refine hs_ne (by omega) ?_ | assumption)) rfl ?_
                            refine k_bipush C dX8_hire_74 (by decide +kernel) ?_
                            refine k_iaload C dX8_hire_76 (by repeat (first | exact hs_eq _ _ _ | refine hs_ne (by omega) ?_ | assumption)) (by omega) (by omega) (by omega) ?_
                            refine k_iconst C dX8_hire_77 ?_
                            refine k_isub C dX8_hire_78 ?_
                            refine k_iret C hr dX8_hire_79 ?_
                            first
                              | exact Or.inl ⟨by omega, (by first | rfl | (rw [hz21]; exact congrArg (fun qq => some (aI qq)) (by omega))), ⟨(by repeat (first | exact hs_eq _ _ _ | refine hs_ne (by omega) ?_ | assumption)), (by repeat (first | exact hs_eq _ _ _ | refine hs_ne (by omega) ?_ | assumption)), (by repeat (first | exact hs_eq _ _ _ | refine hs_ne (by omega) ?_ | assumption)), (by repeat (first | exact hs_eq _ _ _ | refine hs_ne (by omega) ?_ | assumption)), (by repeat (first | exact hs_eq _ _ _ | refine hs_ne (by omega) ?_ | assumption)), (by repeat (first | exact hs_eq _ _ _ | refine hs_ne (by omega) ?_ | assumption))⟩, Fr.tr (Fr.tr (fun aaa haa => by repeat (first | rfl | refine hs_ne (by omega) ?_)) hF1) hF2⟩
                              | exact Or.inr (Or.inl ⟨by omega, (by first | rfl | (rw [hz21]; exact congrArg (fun qq => some (aI qq)) (by omega))), ⟨(by repeat (first | exact hs_eq _ _ _ | refine hs_ne (by omega) ?_ | assumption)), (by repeat (first | exact hs_eq _ _ _ | refine hs_ne (by omega) ?_ | assumption)), (by repeat (first | exact hs_eq _ _ _ | refine hs_ne (by omega) ?_ | assumption)), (by repeat (first | exact hs_eq _ _ _ | refine hs_ne (by omega) ?_ | assumption)), (by repeat (first | exact hs_eq _ _ _ | refine hs_ne (by omega) ?_ | assumption)), (by repeat (first | exact hs_eq _ _ _ | refine hs_ne (by omega) ?_ | assumption))⟩, fun aaa haa => by repeat (first | rfl | refine hs_ne (by omega) ?_)⟩)
                              | exact Or.inr (Or.inr (Or.inl ⟨by omega, (by first | rfl | (rw [hz21]; exact congrArg (fun qq => some (aI qq)) (by omega))), ⟨(by repeat (first | exact hs_eq _ _ _ | refine hs_ne (by omega) ?_ | assumption)), (by repeat (first | exact hs_eq _ _ _ | refine hs_ne (by omega) ?_ | assumption)), (by repeat (first | exact hs_eq _ _ _ | refine hs_ne (by omega) ?_ | assumption)), (by repeat (first | exact hs_eq _ _ _ | refine hs_ne (by omega) ?_ | assumption)), (by repeat (first | exact hs_eq _ _ _ | refine hs_ne (by omega) ?_ | assumption)), (by repeat (first | exact hs_eq _ _ _ | refine hs_ne (by omega) ?_ | assumption))⟩, fun aaa haa => by repeat (first | rfl | refine hs_ne (by omega) ?_)⟩))
                              | exact Or.inr (Or.inr (Or.inr (⟨by omega, (by first | rfl | (rw [hz21]; exact congrArg (fun qq => some (aI qq)) (by omega))), ⟨(by repeat (first | exact hs_eq _ _ _ | refine hs_ne (by omega) ?_ | assumption)), (by repeat (first | exact hs_eq _ _ _ | refine hs_ne (by omega) ?_ | assumption)), (by repeat (first | exact hs_eq _ _ _ | refine hs_ne (by omega) ?_ | assumption)), (by repeat (first | exact hs_eq _ _ _ | refine hs_ne (by omega) ?_ | assumption)), (by repeat (first | exact hs_eq _ _ _ | refine hs_ne (by omega) ?_ | assumption)), (by repeat (first | exact hs_eq _ _ _ | refine hs_ne (by omega) ?_ | assumption))⟩, fun aaa haa => by repeat (first | rfl | refine hs_ne (by omega) ?_)⟩))))
                        · try (exfalso; omega)
                          all_goals (
                            refine k_iconst C dX8_hire_57 ?_
                            refine k_iret C hr dX8_hire_58 ?_
                            first
                              | exact Or.inl ⟨by omega, (by first | rfl | (rw [hz21]; exact congrArg (fun qq => some (aI qq)) (by omega))), ⟨(by repeat (first | exact hs_eq _ _ _ | refine hs_ne (by omega) ?_ | assumption)), (by repeat (first | exact hs_eq _ _ _ | refine hs_ne (by omega) ?_ | assumption)), (by repeat (first | exact hs_eq _ _ _ | refine hs_ne (by omega) ?_ | assumption)), (by repeat (first | exact hs_eq _ _ _ | refine hs_ne (by omega) ?_ | assumption)), (by repeat (first | exact hs_eq _ _ _ | refine hs_ne (by omega) ?_ | assumption)), (by repeat (first | exact hs_eq _ _ _ | refine hs_ne (by omega) ?_ | assumption))⟩, Fr.tr (Fr.tr (fun aaa haa => by repeat (first | rfl | refine hs_ne (by omega) ?_)) hF1) hF2⟩
                              | exact Or.inr (Or.inl ⟨by omega, (by first | rfl | (rw [hz21]; exact congrArg (fun qq => some (aI qq)) (by omega))), ⟨(by repeat (first | exact hs_eq _ _ _ | refine hs_ne (by omega) ?_ | assumption)), (by repeat (first | exact hs_eq _ _ _ | refine hs_ne (by omega) ?_ | assumption)), (by repeat (first | exact hs_eq _ _ _ | refine hs_ne (by omega) ?_ | assumption)), (by repeat (first | exact hs_eq _ _ _ | refine hs_ne (by omega) ?_ | assumption)), (by repeat (first | exact hs_eq _ _ _ | refine hs_ne (by omega) ?_ | assumption)), (by repeat (first | exact hs_eq _ _ _ | refine hs_ne (by omega) ?_ | assumption))⟩, fun aaa haa => by repeat (first | rfl | refine hs_ne (by omega) ?_)⟩)
                              | exact Or.inr (Or.inr (Or.inl ⟨by omega, (by first | rfl | (rw [hz21]; exact congrArg (fun qq => some (aI qq)) (by omega))), ⟨(by repeat (first | exact hs_eq _ _ _ | refine hs_ne (by omega) ?_ | assumption)), (by repeat (first | exact hs_eq _ _ _ | refine hs_ne (by omega) ?_ | assumption)), (by repeat (first | exact hs_eq _ _ _ | refine hs_ne (by omega) ?_ | assumption)), (by repeat (first | exact hs_eq _ _ _ | refine hs_ne (by omega) ?_ | assumption)), (by repeat (first | exact hs_eq _ _ _ | refine hs_ne (by omega) ?_ | assumption)), (by repeat (first | exact hs_eq _ _ _ | refine hs_ne (by omega) ?_ | assumption))⟩, fun aaa haa => by repeat (first | rfl | refine hs_ne (by omega) ?_)⟩))
                              | exact Or.inr (Or.inr (Or.inr (⟨by omega, (by first | rfl | (rw [hz21]; exact congrArg (fun qq => some (aI qq)) (by omega))), ⟨(by repeat (first | exact hs_eq _ _ _ | refine hs_ne (by omega) ?_ | assumption)), (by repeat (first | exact hs_eq _ _ _ | refine hs_ne (by omega) ?_ | assumption)), (by repeat (first | exact hs_eq _ _ _ | refine hs_ne (by omega) ?_ | assumption)), (by repeat (first | exact hs_eq _ _ _ | refine hs_ne (by omega) ?_ | assumption)), (by repeat (first | exact hs_eq _ _ _ | refine hs_ne (by omega) ?_ | assumption)), (by repeat (first | exact hs_eq _ _ _ | refine hs_ne (by omega) ?_ | assumption))⟩, fun aaa haa => by repeat (first | rfl | refine hs_ne (by omega) ?_)⟩)))))
                    · try (exfalso; omega)
                      all_goals (
                        refine k_iconst C dX8_hire_42 ?_
                        refine k_goto (tgt := 47) C dX8_hire_43 (by decide) ?_
                        refine k_put C (k := 5) inX8 tyX8_ok nmX8 (ci := 8) rfl (by decide) fl_X8_25 rfl (Nat.le_of_ble_eq_true rfl) dX8_hire_47 (by repeat (first | exact hs_eq _ _ _ | refine hs_ne (by omega) ?_ | assumption)) ?_
                        refine k_aload_n C dX8_hire_50 rfl ?_
                        refine k_get C (k := 5) inX8 (ci := 8) rfl (by decide) fl_X8_25 dX8_hire_51 (by repeat (first | exact hs_eq _ _ _ | refine hs_ne (by omega) ?_ | assumption)) rfl ?_
                        refine k_if_le (tgt := 59) C dX8_hire_54 (by decide) ⟨by omega, by omega⟩ (fun c54 => ?_) (fun c54 => ?_)
                        · try (exfalso; omega)
                          all_goals (
                            refine k_aload_n C dX8_hire_59 rfl ?_
                            refine k_callV C (n := 0) (as := []) (ct_X8_save l D tc base oo zrr hhi htx has hro st ln (0) re du hsh _ ⟨(by repeat (first | exact hs_eq _ _ _ | refine hs_ne (by omega) ?_ | assumption)), (by repeat (first | exact hs_eq _ _ _ | refine hs_ne (by omega) ?_ | assumption)), (by repeat (first | exact hs_eq _ _ _ | refine hs_ne (by omega) ?_ | assumption)), (by repeat (first | exact hs_eq _ _ _ | refine hs_ne (by omega) ?_ | assumption)), (by repeat (first | exact hs_eq _ _ _ | refine hs_ne (by omega) ?_ | assumption)), (by repeat (first | exact hs_eq _ _ _ | refine hs_ne (by omega) ?_ | assumption))⟩ hst) ml_X8_102 im_X8_save se_X8_save ini_X8 co_X8_save ⟨rfl, by decide, by decide, by decide +kernel⟩ rfl (ci := 8) rfl (by repeat (first | exact hs_eq _ _ _ | refine hs_ne (by omega) ?_ | assumption)) ⟨by decide, by decide⟩ rfl (Nat.le_of_ble_eq_true rfl) ⟨Nat.zero_le _, Nat.zero_le _⟩ dX8_hire_60 ?_
                            rintro _ _ ⟨rfl, hM1, hF1⟩
                            obtain ⟨k0, k1, k2, k3, k4, k5⟩ := id hM1
                            refine k_aload_n C dX8_hire_63 rfl ?_
                            refine k_iload_n C dX8_hire_64 rfl ?_
                            refine k_iload_n C dX8_hire_65 rfl ?_
                            refine k_iload_n C dX8_hire_66 rfl ?_
                            refine k_callV C (n := 3) (as := [_, _, _]) (ct_X8_comes l D tc base oo zrr _ _ _ _ _ _ _ _ _ _ _ hM1 _ _ _ ⟨by omega, by omega⟩) ml_X8_115 im_X8_comes se_X8_comes ini_X8 co_X8_comes ⟨rfl, by decide, by decide, by decide +kernel⟩ rfl (ci := 8) rfl (by repeat (first | exact hs_eq _ _ _ | refine hs_ne (by omega) ?_ | assumption)) ⟨by decide, by decide⟩ rfl (Nat.le_of_ble_eq_true rfl) ⟨Nat.zero_le _, Nat.zero_le _⟩ dX8_hire_67 ?_
                            rintro _ _ ⟨rfl, hM2, hF2⟩
                            obtain ⟨k0, k1, k2, k3, k4, k5⟩ := id hM2
                            have hz21 : zComes zrr ww tt pd 21 = zrr 21 + 1 := iu_eq _ _ _
                            refine k_aload_n C dX8_hire_70 rfl ?_
                            refine k_get C (k := 0) inX8 (ci := 8) rfl (by decide) fl_X8_7 dX8_hire_71 (by repeat (first | exact hs_eq _ _ _ | refine hs_ne (by omega) ?_ | assumption)) rfl ?_
                            refine k_bipush C dX8_hire_74 (by decide +kernel) ?_
                            refine k_iaload C dX8_hire_76 (by repeat (first | exact hs_eq _ _ _ | refine hs_ne (by omega) ?_ | assumption)) (by omega) (by omega) (by omega) ?_
                            refine k_iconst C dX8_hire_77 ?_
                            refine k_isub C dX8_hire_78 ?_
                            refine k_iret C hr dX8_hire_79 ?_
                            first
                              | exact Or.inl ⟨by omega, (by first | rfl | (rw [hz21]; exact congrArg (fun qq => some (aI qq)) (by omega))), ⟨(by repeat (first | exact hs_eq _ _ _ | refine hs_ne (by omega) ?_ | assumption)), (by repeat (first | exact hs_eq _ _ _ | refine hs_ne (by omega) ?_ | assumption)), (by repeat (first | exact hs_eq _ _ _ | refine hs_ne (by omega) ?_ | assumption)), (by repeat (first | exact hs_eq _ _ _ | refine hs_ne (by omega) ?_ | assumption)), (by repeat (first | exact hs_eq _ _ _ | refine hs_ne (by omega) ?_ | assumption)), (by repeat (first | exact hs_eq _ _ _ | refine hs_ne (by omega) ?_ | assumption))⟩, Fr.tr (Fr.tr (fun aaa haa => by repeat (first | rfl | refine hs_ne (by omega) ?_)) hF1) hF2⟩
                              | exact Or.inr (Or.inl ⟨by omega, (by first | rfl | (rw [hz21]; exact congrArg (fun qq => some (aI qq)) (by omega))), ⟨(by repeat (first | exact hs_eq _ _ _ | refine hs_ne (by omega) ?_ | assumption)), (by repeat (first | exact hs_eq _ _ _ | refine hs_ne (by omega) ?_ | assumption)), (by repeat (first | exact hs_eq _ _ _ | refine hs_ne (by omega) ?_ | assumption)), (by repeat (first | exact hs_eq _ _ _ | refine hs_ne (by omega) ?_ | assumption)), (by repeat (first | exact hs_eq _ _ _ | refine hs_ne (by omega) ?_ | assumption)), (by repeat (first | exact hs_eq _ _ _ | refine hs_ne (by omega) ?_ | assumption))⟩, fun aaa haa => by repeat (first | rfl | refine hs_ne (by omega) ?_)⟩)
                              | exact Or.inr (Or.inr (Or.inl ⟨by omega, (by first | rfl | (rw [hz21]; exact congrArg (fun qq => some (aI qq)) (by omega))), ⟨(by repeat (first | exact hs_eq _ _ _ | refine hs_ne (by omega) ?_ | assumption)), (by repeat (first | exact hs_eq _ _ _ | refine hs_ne (by omega) ?_ | assumption)), (by repeat (first | exact hs_eq _ _ _ | refine hs_ne (by omega) ?_ | assumption)), (by repeat (first | exact hs_eq _ _ _ | refine hs_ne (by omega) ?_ | assumption)), (by repeat (first | exact hs_eq _ _ _ | refine hs_ne (by omega) ?_ | assumption)), (by repeat (first | exact hs_eq _ _ _ | refine hs_ne (by omega) ?_ | assumption))⟩, fun aaa haa => by repeat (first | rfl | refine hs_ne (by omega) ?_)⟩))
                              | exact Or.inr (Or.inr (Or.inr (⟨by omega, (by first | rfl | (rw [hz21]; exact congrArg (fun qq => some (aI qq)) (by omega))), ⟨(by repeat (first | exact hs_eq _ _ _ | refine hs_ne (by omega) ?_ | assumption)), (by repeat (first | exact hs_eq _ _ _ | refine hs_ne (by omega) ?_ | assumption)), (by repeat (first | exact hs_eq _ _ _ | refine hs_ne (by omega) ?_ | assumption)), (by repeat (first | exact hs_eq _ _ _ | refine hs_ne (by omega) ?_ | assumption)), (by repeat (first | exact hs_eq _ _ _ | refine hs_ne (by omega) ?_ | assumption)), (by repeat (first | exact hs_eq _ _ _ | refine hs_ne (by omega) ?_ | assumption))⟩, fun aaa haa => by repeat (first | rfl | refine hs_ne (by omega) ?_)⟩))))
                        · try (exfalso; omega)
                          all_goals (
                            refine k_iconst C dX8_hire_57 ?_
                            refine k_iret C hr dX8_hire_58 ?_
                            first
                              | exact Or.inl ⟨by omega, (by first | rfl | (rw [hz21]; exact congrArg (fun qq => some (aI qq)) (by omega))), ⟨(by repeat (first | exact hs_eq _ _ _ | refine hs_ne (by omega) ?_ | assumption)), (by repeat (first | exact hs_eq _ _ _ | refine hs_ne (by omega) ?_ | assumption)), (by repeat (first | exact hs_eq _ _ _ | refine hs_ne (by omega) ?_ | assumption)), (by repeat (first | exact hs_eq _ _ _ | refine hs_ne (by omega) ?_ | assumption)), (by repeat (first | exact hs_eq _ _ _ | refine hs_ne (by omega) ?_ | assumption)), (by repeat (first | exact hs_eq _ _ _ | refine hs_ne (by omega) ?_ | assumption))⟩, Fr.tr (Fr.tr (fun aaa haa => by repeat (first | rfl | refine hs_ne (by omega) ?_)) hF1) hF2⟩
                              | exact Or.inr (Or.inl ⟨by omega, (by first | rfl | (rw [hz21]; exact congrArg (fun qq => some (aI qq)) (by omega))), ⟨(by repeat (first | exact hs_eq _ _ _ | refine hs_ne (by omega) ?_ | assumption)), (by repeat (first | exact hs_eq _ _ _ | refine hs_ne (by omega) ?_ | assumption)), (by repeat (first | exact hs_eq _ _ _ | refine hs_ne (by omega) ?_ | assumption)), (by repeat (first | exact hs_eq _ _ _ | refine hs_ne (by omega) ?_ | assumption)), (by repeat (first | exact hs_eq _ _ _ | refine hs_ne (by omega) ?_ | assumption)), (by repeat (first | exact hs_eq _ _ _ | refine hs_ne (by omega) ?_ | assumption))⟩, fun aaa haa => by repeat (first | rfl | refine hs_ne (by omega) ?_)⟩)
                              | exact Or.inr (Or.inr (Or.inl ⟨by omega, (by first | rfl | (rw [hz21]; exact congrArg (fun qq => some (aI qq)) (by omega))), ⟨(by repeat (first | exact hs_eq _ _ _ | refine hs_ne (by omega) ?_ | assumption)), (by repeat (first | exact hs_eq _ _ _ | refine hs_ne (by omega) ?_ | assumption)), (by repeat (first | exact hs_eq _ _ _ | refine hs_ne (by omega) ?_ | assumption)), (by repeat (first | exact hs_eq _ _ _ | refine hs_ne (by omega) ?_ | assumption)), (by repeat (first | exact hs_eq _ _ _ | refine hs_ne (by omega) ?_ | assumption)), (by repeat (first | exact hs_eq _ _ _ | refine hs_ne (by omega) ?_ | assumption))⟩, fun aaa haa => by repeat (first | rfl | refine hs_ne (by omega) ?_)⟩))
                              | exact Or.inr (Or.inr (Or.inr (⟨by omega, (by first | rfl | (rw [hz21]; exact congrArg (fun qq => some (aI qq)) (by omega))), ⟨(by repeat (first | exact hs_eq _ _ _ | refine hs_ne (by omega) ?_ | assumption)), (by repeat (first | exact hs_eq _ _ _ | refine hs_ne (by omega) ?_ | assumption)), (by repeat (first | exact hs_eq _ _ _ | refine hs_ne (by omega) ?_ | assumption)), (by repeat (first | exact hs_eq _ _ _ | refine hs_ne (by omega) ?_ | assumption)), (by repeat (first | exact hs_eq _ _ _ | refine hs_ne (by omega) ?_ | assumption)), (by repeat (first | exact hs_eq _ _ _ | refine hs_ne (by omega) ?_ | assumption))⟩, fun aaa haa => by repeat (first | rfl | refine hs_ne (by omega) ?_)⟩))))))
                · try (exfalso; omega)
                  all_goals (
                    refine k_iconst C dX8_hire_26 ?_
                    refine k_goto (tgt := 47) C dX8_hire_27 (by decide) ?_
                    refine k_put C (k := 5) inX8 tyX8_ok nmX8 (ci := 8) rfl (by decide) fl_X8_25 rfl (Nat.le_of_ble_eq_true rfl) dX8_hire_47 (by repeat (first | exact hs_eq _ _ _ | refine hs_ne (by omega) ?_ | assumption)) ?_
                    refine k_aload_n C dX8_hire_50 rfl ?_
                    refine k_get C (k := 5) inX8 (ci := 8) rfl (by decide) fl_X8_25 dX8_hire_51 (by repeat (first | exact hs_eq _ _ _ | refine hs_ne (by omega) ?_ | assumption)) rfl ?_
                    refine k_if_le (tgt := 59) C dX8_hire_54 (by decide) ⟨by omega, by omega⟩ (fun c54 => ?_) (fun c54 => ?_)
                    · try (exfalso; omega)
                      all_goals (
                        refine k_aload_n C dX8_hire_59 rfl ?_
                        refine k_callV C (n := 0) (as := []) (ct_X8_save l D tc base oo zrr hhi htx has hro st ln (0) re du hsh _ ⟨(by repeat (first | exact hs_eq _ _ _ | refine hs_ne (by omega) ?_ | assumption)), (by repeat (first | exact hs_eq _ _ _ | refine hs_ne (by omega) ?_ | assumption)), (by repeat (first | exact hs_eq _ _ _ | refine hs_ne (by omega) ?_ | assumption)), (by repeat (first | exact hs_eq _ _ _ | refine hs_ne (by omega) ?_ | assumption)), (by repeat (first | exact hs_eq _ _ _ | refine hs_ne (by omega) ?_ | assumption)), (by repeat (first | exact hs_eq _ _ _ | refine hs_ne (by omega) ?_ | assumption))⟩ hst) ml_X8_102 im_X8_save se_X8_save ini_X8 co_X8_save ⟨rfl, by decide, by decide, by decide +kernel⟩ rfl (ci := 8) rfl (by repeat (first | exact hs_eq _ _ _ | refine hs_ne (by omega) ?_ | assumption)) ⟨by decide, by decide⟩ rfl (Nat.le_of_ble_eq_true rfl) ⟨Nat.zero_le _, Nat.zero_le _⟩ dX8_hire_60 ?_
                        rintro _ _ ⟨rfl, hM1, hF1⟩
                        obtain ⟨k0, k1, k2, k3, k4, k5⟩ := id hM1
                        refine k_aload_n C dX8_hire_63 rfl ?_
                        refine k_iload_n C dX8_hire_64 rfl ?_
                        refine k_iload_n C dX8_hire_65 rfl ?_
                        refine k_iload_n C dX8_hire_66 rfl ?_
                        refine k_callV C (n := 3) (as := [_, _, _]) (ct_X8_comes l D tc base oo zrr _ _ _ _ _ _ _ _ _ _ _ hM1 _ _ _ ⟨by omega, by omega⟩) ml_X8_115 im_X8_comes se_X8_comes ini_X8 co_X8_comes ⟨rfl, by decide, by decide, by decide +kernel⟩ rfl (ci := 8) rfl (by repeat (first | exact hs_eq _ _ _ | refine hs_ne (by omega) ?_ | assumption)) ⟨by decide, by decide⟩ rfl (Nat.le_of_ble_eq_true rfl) ⟨Nat.zero_le _, Nat.zero_le _⟩ dX8_hire_67 ?_
                        rintro _ _ ⟨rfl, hM2, hF2⟩
                        obtain ⟨k0, k1, k2, k3, k4, k5⟩ := id hM2
                        have hz21 : zComes zrr ww tt pd 21 = zrr 21 + 1 := iu_eq _ _ _
                        refine k_aload_n C dX8_hire_70 rfl ?_
                        refine k_get C (k := 0) inX8 (ci := 8) rfl (by decide) fl_X8_7 dX8_hire_71 (by repeat (first | exact hs_eq _ _ _ | refine hs_ne (by omega) ?_ | assumption)) rfl ?_
                        refine k_bipush C dX8_hire_74 (by decide +kernel) ?_
                        refine k_iaload C dX8_hire_76 (by repeat (first | exact hs_eq _ _ _ | refine hs_ne (by omega) ?_ | assumption)) (by omega) (by omega) (by omega) ?_
                        refine k_iconst C dX8_hire_77 ?_
                        refine k_isub C dX8_hire_78 ?_
                        refine k_iret C hr dX8_hire_79 ?_
                        first
                          | exact Or.inl ⟨by omega, (by first | rfl | (rw [hz21]; exact congrArg (fun qq => some (aI qq)) (by omega))), ⟨(by repeat (first | exact hs_eq _ _ _ | refine hs_ne (by omega) ?_ | assumption)), (by repeat (first | exact hs_eq _ _ _ | refine hs_ne (by omega) ?_ | assumption)), (by repeat (first | exact hs_eq _ _ _ | refine hs_ne (by omega) ?_ | assumption)), (by repeat (first | exact hs_eq _ _ _ | refine hs_ne (by omega) ?_ | assumption)), (by repeat (first | exact hs_eq _ _ _ | refine hs_ne (by omega) ?_ | assumption)), (by repeat (first | exact hs_eq _ _ _ | refine hs_ne (by omega) ?_ | assumption))⟩, Fr.tr (Fr.tr (fun aaa haa => by repeat (first | rfl | refine hs_ne (by omega) ?_)) hF1) hF2⟩
                          | exact Or.inr (Or.inl ⟨by omega, (by first | rfl | (rw [hz21]; exact congrArg (fun qq => some (aI qq)) (by omega))), ⟨(by repeat (first | exact hs_eq _ _ _ | refine hs_ne (by omega) ?_ | assumption)), (by repeat (first | exact hs_eq _ _ _ | refine hs_ne (by omega) ?_ | assumption)), (by repeat (first | exact hs_eq _ _ _ | refine hs_ne (by omega) ?_ | assumption)), (by repeat (first | exact hs_eq _ _ _ | refine hs_ne (by omega) ?_ | assumption)), (by repeat (first | exact hs_eq _ _ _ | refine hs_ne (by omega) ?_ | assumption)), (by repeat (first | exact hs_eq _ _ _ | refine hs_ne (by omega) ?_ | assumption))⟩, fun aaa haa => by repeat (first | rfl | refine hs_ne (by omega) ?_)⟩)
                          | exact Or.inr (Or.inr (Or.inl ⟨by omega, (by first | rfl | (rw [hz21]; exact congrArg (fun qq => some (aI qq)) (by omega))), ⟨(by repeat (first | exact hs_eq _ _ _ | refine hs_ne (by omega) ?_ | assumption)), (by repeat (first | exact hs_eq _ _ _ | refine hs_ne (by omega) ?_ | assumption)), (by repeat (first | exact hs_eq _ _ _ | refine hs_ne (by omega) ?_ | assumption)), (by repeat (first | exact hs_eq _ _ _ | refine hs_ne (by omega) ?_ | assumption)), (by repeat (first | exact hs_eq _ _ _ | refine hs_ne (by omega) ?_ | assumption)), (by repeat (first | exact hs_eq _ _ _ | refine hs_ne (by omega) ?_ | assumption))⟩, fun aaa haa => by repeat (first | rfl | refine hs_ne (by omega) ?_)⟩))
                          | exact Or.inr (Or.inr (Or.inr (⟨by omega, (by first | rfl | (rw [hz21]; exact congrArg (fun qq => some (aI qq)) (by omega))), ⟨(by repeat (first | exact hs_eq _ _ _ | refine hs_ne (by omega) ?_ | assumption)), (by repeat (first | exact hs_eq _ _ _ | refine hs_ne (by omega) ?_ | assumption)), (by repeat (first | exact hs_eq _ _ _ | refine hs_ne (by omega) ?_ | assumption)), (by repeat (first | exact hs_eq _ _ _ | refine hs_ne (by omega) ?_ | assumption)), (by repeat (first | exact hs_eq _ _ _ | refine hs_ne (by omega) ?_ | assumption)), (by repeat (first | exact hs_eq _ _ _ | refine hs_ne (by omega) ?_ | assumption))⟩, fun aaa haa => by repeat (first | rfl | refine hs_ne (by omega) ?_)⟩))))
                    · try (exfalso; omega)
                      all_goals (
                        refine k_iconst C dX8_hire_57 ?_
                        refine k_iret C hr dX8_hire_58 ?_
                        first
                          | exact Or.inl ⟨by omega, (by first | rfl | (rw [hz21]; exact congrArg (fun qq => some (aI qq)) (by omega))), ⟨(by repeat (first | exact hs_eq _ _ _ | refine hs_ne (by omega) ?_ | assumption)), (by repeat (first | exact hs_eq _ _ _ | refine hs_ne (by omega) ?_ | assumption)), (by repeat (first | exact hs_eq _ _ _ | refine hs_ne (by omega) ?_ | assumption)), (by repeat (first | exact hs_eq _ _ _ | refine hs_ne (by omega) ?_ | assumption)), (by repeat (first | exact hs_eq _ _ _ | refine hs_ne (by omega) ?_ | assumption)), (by repeat (first | exact hs_eq _ _ _ | refine hs_ne (by omega) ?_ | assumption))⟩, Fr.tr (Fr.tr (fun aaa haa => by repeat (first | rfl | refine hs_ne (by omega) ?_)) hF1) hF2⟩
                          | exact Or.inr (Or.inl ⟨by omega, (by first | rfl | (rw [hz21]; exact congrArg (fun qq => some (aI qq)) (by omega))), ⟨(by repeat (first | exact hs_eq _ _ _ | refine hs_ne (by omega) ?_ | assumption)), (by repeat (first | exact hs_eq _ _ _ | refine hs_ne (by omega) ?_ | assumption)), (by repeat (first | exact hs_eq _ _ _ | refine hs_ne (by omega) ?_ | assumption)), (by repeat (first | exact hs_eq _ _ _ | refine hs_ne (by omega) ?_ | assumption)), (by repeat (first | exact hs_eq _ _ _ | refine hs_ne (by omega) ?_ | assumption)), (by repeat (first | exact hs_eq _ _ _ | refine hs_ne (by omega) ?_ | assumption))⟩, fun aaa haa => by repeat (first | rfl | refine hs_ne (by omega) ?_)⟩)
                          | exact Or.inr (Or.inr (Or.inl ⟨by omega, (by first | rfl | (rw [hz21]; exact congrArg (fun qq => some (aI qq)) (by omega))), ⟨(by repeat (first | exact hs_eq _ _ _ | refine hs_ne (by omega) ?_ | assumption)), (by repeat (first | exact hs_eq _ _ _ | refine hs_ne (by omega) ?_ | assumption)), (by repeat (first | exact hs_eq _ _ _ | refine hs_ne (by omega) ?_ | assumption)), (by repeat (first | exact hs_eq _ _ _ | refine hs_ne (by omega) ?_ | assumption)), (by repeat (first | exact hs_eq _ _ _ | refine hs_ne (by omega) ?_ | assumption)), (by repeat (first | exact hs_eq _ _ _ | refine hs_ne (by omega) ?_ | assumption))⟩, fun aaa haa => by repeat (first | rfl | refine hs_ne (by omega) ?_)⟩))
                          | exact Or.inr (Or.inr (Or.inr (⟨by omega, (by first | rfl | (rw [hz21]; exact congrArg (fun qq => some (aI qq)) (by omega))), ⟨(by repeat (first | exact hs_eq _ _ _ | refine hs_ne (by omega) ?_ | assumption)), (by repeat (first | exact hs_eq _ _ _ | refine hs_ne (by omega) ?_ | assumption)), (by repeat (first | exact hs_eq _ _ _ | refine hs_ne (by omega) ?_ | assumption)), (by repeat (first | exact hs_eq _ _ _ | refine hs_ne (by omega) ?_ | assumption)), (by repeat (first | exact hs_eq _ _ _ | refine hs_ne (by omega) ?_ | assumption)), (by repeat (first | exact hs_eq _ _ _ | refine hs_ne (by omega) ?_ | assumption))⟩, fun aaa haa => by repeat (first | rfl | refine hs_ne (by omega) ?_)⟩)))))
              · skip
                refine k_if_ne (tgt := 30) C dX8_hire_23 (by decide) ⟨by omega, by omega⟩ (fun c23 => ?_) (fun c23 => ?_)
                · try (exfalso; omega)
                  all_goals (
                    refine k_aload_n C dX8_hire_30 rfl ?_
                    refine k_get C (k := 0) inX8 (ci := 8) rfl (by decide) fl_X8_7 dX8_hire_31 (by repeat (first | exact hs_eq _ _ _ | refine hs_ne (by omega) ?_ | assumption)) rfl ?_
                    refine k_bipush C dX8_hire_34 (by decide +kernel) ?_
                    refine k_iaload C dX8_hire_36 (by repeat (first | exact hs_eq _ _ _ | refine hs_ne (by omega) ?_ | assumption)) (by omega) (by omega) (by omega) ?_
                    refine k_bipush C dX8_hire_37 (by decide +kernel) ?_
                    refine k_icmp_ne (tgt := 46) C dX8_hire_39 (by decide) ⟨by omega, by omega⟩ ⟨by omega, by omega⟩ (fun c39 => ?_) (fun c39 => ?_)
                    · try (exfalso; omega)
                      all_goals (
                        refine k_iconst C dX8_hire_46 ?_
                        refine k_put C (k := 5) inX8 tyX8_ok nmX8 (ci := 8) rfl (by decide) fl_X8_25 rfl (Nat.le_of_ble_eq_true rfl) dX8_hire_47 (by repeat (first | exact hs_eq _ _ _ | refine hs_ne (by omega) ?_ | assumption)) ?_
                        refine k_aload_n C dX8_hire_50 rfl ?_
                        refine k_get C (k := 5) inX8 (ci := 8) rfl (by decide) fl_X8_25 dX8_hire_51 (by repeat (first | exact hs_eq _ _ _ | refine hs_ne (by omega) ?_ | assumption)) rfl ?_
                        refine k_if_le (tgt := 59) C dX8_hire_54 (by decide) ⟨by omega, by omega⟩ (fun c54 => ?_) (fun c54 => ?_)
                        · try (exfalso; omega)
                          all_goals (
                            refine k_aload_n C dX8_hire_59 rfl ?_
                            refine k_callV C (n := 0) (as := []) (ct_X8_save l D tc base oo zrr hhi htx has hro st ln (0) re du hsh _ ⟨(by repeat (first | exact hs_eq _ _ _ | refine hs_ne (by omega) ?_ | assumption)), (by repeat (first | exact hs_eq _ _ _ | refine hs_ne (by omega) ?_ | assumption)), (by repeat (first | exact hs_eq _ _ _ | refine hs_ne (by omega) ?_ | assumption)), (by repeat (first | exact hs_eq _ _ _ | refine hs_ne (by omega) ?_ | assumption)), (by repeat (first | exact hs_eq _ _ _ | refine hs_ne (by omega) ?_ | assumption)), (by repeat (first | exact hs_eq _ _ _ | refine hs_ne (by omega) ?_ | assumption))⟩ hst) ml_X8_102 im_X8_save se_X8_save ini_X8 co_X8_save ⟨rfl, by decide, by decide, by decide +kernel⟩ rfl (ci := 8) rfl (by repeat (first | exact hs_eq _ _ _ | refine hs_ne (by omega) ?_ | assumption)) ⟨by decide, by decide⟩ rfl (Nat.le_of_ble_eq_true rfl) ⟨Nat.zero_le _, Nat.zero_le _⟩ dX8_hire_60 ?_
                            rintro _ _ ⟨rfl, hM1, hF1⟩
                            obtain ⟨k0, k1, k2, k3, k4, k5⟩ := id hM1
                            refine k_aload_n C dX8_hire_63 rfl ?_
                            refine k_iload_n C dX8_hire_64 rfl ?_
                            refine k_iload_n C dX8_hire_65 rfl ?_
                            refine k_iload_n C dX8_hire_66 rfl ?_
                            refine k_callV C (n := 3) (as := [_, _, _]) (ct_X8_comes l D tc base oo zrr _ _ _ _ _ _ _ _ _ _ _ hM1 _ _ _ ⟨by omega, by omega⟩) ml_X8_115 im_X8_comes se_X8_comes ini_X8 co_X8_comes ⟨rfl, by decide, by decide, by decide +kernel⟩ rfl (ci := 8) rfl (by repeat (first | exact hs_eq _ _ _ | refine hs_ne (by omega) ?_ | assumption)) ⟨by decide, by decide⟩ rfl (Nat.le_of_ble_eq_true rfl) ⟨Nat.zero_le _, Nat.zero_le _⟩ dX8_hire_67 ?_
                            rintro _ _ ⟨rfl, hM2, hF2⟩
                            obtain ⟨k0, k1, k2, k3, k4, k5⟩ := id hM2
                            have hz21 : zComes zrr ww tt pd 21 = zrr 21 + 1 := iu_eq _ _ _
                            refine k_aload_n C dX8_hire_70 rfl ?_
                            refine k_get C (k := 0) inX8 (ci := 8) rfl (by decide) fl_X8_7 dX8_hire_71 (by repeat (first | exact hs_eq _ _ _ | refine hs_ne (by omega) ?_ | assumption)) rfl ?_
                            refine k_bipush C dX8_hire_74 (by decide +kernel) ?_
                            refine k_iaload C dX8_hire_76 (by repeat (first | exact hs_eq _ _ _ | refine hs_ne (by omega) ?_ | assumption)) (by omega) (by omega) (by omega) ?_
                            refine k_iconst C dX8_hire_77 ?_
                            refine k_isub C dX8_hire_78 ?_
                            refine k_iret C hr dX8_hire_79 ?_
                            first
                              | exact Or.inl ⟨by omega, (by first | rfl | (rw [hz21]; exact congrArg (fun qq => some (aI qq)) (by omega))), ⟨(by repeat (first | exact hs_eq _ _ _ | refine hs_ne (by omega) ?_ | assumption)), (by repeat (first | exact hs_eq _ _ _ | refine hs_ne (by omega) ?_ | assumption)), (by repeat (first | exact hs_eq _ _ _ | refine hs_ne (by omega) ?_ | assumption)), (by repeat (first | exact hs_eq _ _ _ | refine hs_ne (by omega) ?_ | assumption)), (by repeat (first | exact hs_eq _ _ _ | refine hs_ne (by omega) ?_ | assumption)), (by repeat (first | exact hs_eq _ _ _ | refine hs_ne (by omega) ?_ | assumption))⟩, Fr.tr (Fr.tr (fun aaa haa => by repeat (first | rfl | refine hs_ne (by omega) ?_)) hF1) hF2⟩
                              | exact Or.inr (Or.inl ⟨by omega, (by first | rfl | (rw [hz21]; exact congrArg (fun qq => some (aI qq)) (by omega))), ⟨(by repeat (first | exact hs_eq _ _ _ | refine hs_ne (by omega) ?_ | assumption)), (by repeat (first | exact hs_eq _ _ _ | refine hs_ne (by omega) ?_ | assumption)), (by repeat (first | exact hs_eq _ _ _ | refine hs_ne (by omega) ?_ | assumption)), (by repeat (first | exact hs_eq _ _ _ | refine hs_ne (by omega) ?_ | assumption)), (by repeat (first | exact hs_eq _ _ _ | refine hs_ne (by omega) ?_ | assumption)), (by repeat (first | exact hs_eq _ _ _ | refine hs_ne (by omega) ?_ | assumption))⟩, fun aaa haa => by repeat (first | rfl | refine hs_ne (by omega) ?_)⟩)
                              | exact Or.inr (Or.inr (Or.inl ⟨by omega, (by first | rfl | (rw [hz21]; exact congrArg (fun qq => some (aI qq)) (by omega))), ⟨(by repeat (first | exact hs_eq _ _ _ | refine hs_ne (by omega) ?_ | assumption)), (by repeat (first | exact hs_eq _ _ _ | refine hs_ne (by omega) ?_ | assumption)), (by repeat (first | exact hs_eq _ _ _ | refine hs_ne (by omega) ?_ | assumption)), (by repeat (first | exact hs_eq _ _ _ | refine hs_ne (by omega) ?_ | assumption)), (by repeat (first | exact hs_eq _ _ _ | refine hs_ne (by omega) ?_ | assumption)), (by repeat (first | exact hs_eq _ _ _ | refine hs_ne (by omega) ?_ | assumption))⟩, fun aaa haa => by repeat (first | rfl | refine hs_ne (by omega) ?_)⟩))
                              | exact Or.inr (Or.inr (Or.inr (⟨by omega, (by first | rfl | (rw [hz21]; exact congrArg (fun qq => some (aI qq)) (by omega))), ⟨(by repeat (first | exact hs_eq _ _ _ | refine hs_ne (by omega) ?_ | assumption)), (by repeat (first | exact hs_eq _ _ _ | refine hs_ne (by omega) ?_ | assumption)), (by repeat (first | exact hs_eq _ _ _ | refine hs_ne (by omega) ?_ | assumption)), (by repeat (first | exact hs_eq _ _ _ | refine hs_ne (by omega) ?_ | assumption)), (by repeat (first | exact hs_eq _ _ _ | refine hs_ne (by omega) ?_ | assumption)), (by repeat (first | exact hs_eq _ _ _ | refine hs_ne (by omega) ?_ | assumption))⟩, fun aaa haa => by repeat (first | rfl | refine hs_ne (by omega) ?_)⟩))))
                        · try (exfalso; omega)
                          all_goals (
                            refine k_iconst C dX8_hire_57 ?_
                            refine k_iret C hr dX8_hire_58 ?_
                            first
                              | exact Or.inl ⟨by omega, (by first | rfl | (rw [hz21]; exact congrArg (fun qq => some (aI qq)) (by omega))), ⟨(by repeat (first | exact hs_eq _ _ _ | refine hs_ne (by omega) ?_ | assumption)), (by repeat (first | exact hs_eq _ _ _ | refine hs_ne (by omega) ?_ | assumption)), (by repeat (first | exact hs_eq _ _ _ | refine hs_ne (by omega) ?_ | assumption)), (by repeat (first | exact hs_eq _ _ _ | refine hs_ne (by omega) ?_ | assumption)), (by repeat (first | exact hs_eq _ _ _ | refine hs_ne (by omega) ?_ | assumption)), (by repeat (first | exact hs_eq _ _ _ | refine hs_ne (by omega) ?_ | assumption))⟩, Fr.tr (Fr.tr (fun aaa haa => by repeat (first | rfl | refine hs_ne (by omega) ?_)) hF1) hF2⟩
                              | exact Or.inr (Or.inl ⟨by omega, (by first | rfl | (rw [hz21]; exact congrArg (fun qq => some (aI qq)) (by omega))), ⟨(by repeat (first | exact hs_eq _ _ _ | refine hs_ne (by omega) ?_ | assumption)), (by repeat (first | exact hs_eq _ _ _ | refine hs_ne (by omega) ?_ | assumption)), (by repeat (first | exact hs_eq _ _ _ | refine hs_ne (by omega) ?_ | assumption)), (by repeat (first | exact hs_eq _ _ _ | refine hs_ne (by omega) ?_ | assumption)), (by repeat (first | exact hs_eq _ _ _ | refine hs_ne (by omega) ?_ | assumption)), (by repeat (first | exact hs_eq _ _ _ | refine hs_ne (by omega) ?_ | assumption))⟩, fun aaa haa => by repeat (first | rfl | refine hs_ne (by omega) ?_)⟩)
                              | exact Or.inr (Or.inr (Or.inl ⟨by omega, (by first | rfl | (rw [hz21]; exact congrArg (fun qq => some (aI qq)) (by omega))), ⟨(by repeat (first | exact hs_eq _ _ _ | refine hs_ne (by omega) ?_ | assumption)), (by repeat (first | exact hs_eq _ _ _ | refine hs_ne (by omega) ?_ | assumption)), (by repeat (first | exact hs_eq _ _ _ | refine hs_ne (by omega) ?_ | assumption)), (by repeat (first | exact hs_eq _ _ _ | refine hs_ne (by omega) ?_ | assumption)), (by repeat (first | exact hs_eq _ _ _ | refine hs_ne (by omega) ?_ | assumption)), (by repeat (first | exact hs_eq _ _ _ | refine hs_ne (by omega) ?_ | assumption))⟩, fun aaa haa => by repeat (first | rfl | refine hs_ne (by omega) ?_)⟩))
                              | exact Or.inr (Or.inr (Or.inr (⟨by omega, (by first | rfl | (rw [hz21]; exact congrArg (fun qq => some (aI qq)) (by omega))), ⟨(by repeat (first | exact hs_eq _ _ _ | refine hs_ne (by omega) ?_ | assumption)), (by repeat (first | exact hs_eq _ _ _ | refine hs_ne (by omega) ?_ | assumption)), (by repeat (first | exact hs_eq _ _ _ | refine hs_ne (by omega) ?_ | assumption)), (by repeat (first | exact hs_eq _ _ _ | refine hs_ne (by omega) ?_ | assumption)), (by repeat (first | exact hs_eq _ _ _ | refine hs_ne (by omega) ?_ | assumption)), (by repeat (first | exact hs_eq _ _ _ | refine hs_ne (by omega) ?_ | assumption))⟩, fun aaa haa => by repeat (first | rfl | refine hs_ne (by omega) ?_)⟩)))))
                    · try (exfalso; omega)
                      all_goals (
                        refine k_iconst C dX8_hire_42 ?_
                        refine k_goto (tgt := 47) C dX8_hire_43 (by decide) ?_
                        refine k_put C (k := 5) inX8 tyX8_ok nmX8 (ci := 8) rfl (by decide) fl_X8_25 rfl (Nat.le_of_ble_eq_true rfl) dX8_hire_47 (by repeat (first | exact hs_eq _ _ _ | refine hs_ne (by omega) ?_ | assumption)) ?_
                        refine k_aload_n C dX8_hire_50 rfl ?_
                        refine k_get C (k := 5) inX8 (ci := 8) rfl (by decide) fl_X8_25 dX8_hire_51 (by repeat (first | exact hs_eq _ _ _ | refine hs_ne (by omega) ?_ | assumption)) rfl ?_
                        refine k_if_le (tgt := 59) C dX8_hire_54 (by decide) ⟨by omega, by omega⟩ (fun c54 => ?_) (fun c54 => ?_)
                        · try (exfalso; omega)
                          all_goals (
                            refine k_aload_n C dX8_hire_59 rfl ?_
                            refine k_callV C (n := 0) (as := []) (ct_X8_save l D tc base oo zrr hhi htx has hro st ln (0) re du hsh _ ⟨(by repeat (first | exact hs_eq _ _ _ | refine hs_ne (by omega) ?_ | assumption)), (by repeat (first | exact hs_eq _ _ _ | refine hs_ne (by omega) ?_ | assumption)), (by repeat (first | exact hs_eq _ _ _ | refine hs_ne (by omega) ?_ | assumption)), (by repeat (first | exact hs_eq _ _ _ | refine hs_ne (by omega) ?_ | assumption)), (by repeat (first | exact hs_eq _ _ _ | refine hs_ne (by omega) ?_ | assumption)), (by repeat (first | exact hs_eq _ _ _ | refine hs_ne (by omega) ?_ | assumption))⟩ hst) ml_X8_102 im_X8_save se_X8_save ini_X8 co_X8_save ⟨rfl, by decide, by decide, by decide +kernel⟩ rfl (ci := 8) rfl (by repeat (first | exact hs_eq _ _ _ | refine hs_ne (by omega) ?_ | assumption)) ⟨by decide, by decide⟩ rfl (Nat.le_of_ble_eq_true rfl) ⟨Nat.zero_le _, Nat.zero_le _⟩ dX8_hire_60 ?_
                            rintro _ _ ⟨rfl, hM1, hF1⟩
                            obtain ⟨k0, k1, k2, k3, k4, k5⟩ := id hM1
                            refine k_aload_n C dX8_hire_63 rfl ?_
                            refine k_iload_n C dX8_hire_64 rfl ?_
                            refine k_iload_n C dX8_hire_65 rfl ?_
                            refine k_iload_n C dX8_hire_66 rfl ?_
                            refine k_callV C (n := 3) (as := [_, _, _]) (ct_X8_comes l D tc base oo zrr _ _ _ _ _ _ _ _ _ _ _ hM1 _ _ _ ⟨by omega, by omega⟩) ml_X8_115 im_X8_comes se_X8_comes ini_X8 co_X8_comes ⟨rfl, by decide, by decide, by decide +kernel⟩ rfl (ci := 8) rfl (by repeat (first | exact hs_eq _ _ _ | refine hs_ne (by omega) ?_ | assumption)) ⟨by decide, by decide⟩ rfl (Nat.le_of_ble_eq_true rfl) ⟨Nat.zero_le _, Nat.zero_le _⟩ dX8_hire_67 ?_
                            rintro _ _ ⟨rfl, hM2, hF2⟩
                            obtain ⟨k0, k1, k2, k3, k4, k5⟩ := id hM2
                            have hz21 : zComes zrr ww tt pd 21 = zrr 21 + 1 := iu_eq _ _ _
                            refine k_aload_n C dX8_hire_70 rfl ?_
                            refine k_get C (k := 0) inX8 (ci := 8) rfl (by decide) fl_X8_7 dX8_hire_71 (by repeat (first | exact hs_eq _ _ _ | refine hs_ne (by omega) ?_ | assumption)) rfl ?_
                            refine k_bipush C dX8_hire_74 (by decide +kernel) ?_
                            refine k_iaload C dX8_hire_76 (by repeat (first | exact hs_eq _ _ _ | refine hs_ne (by omega) ?_ | assumption)) (by omega) (by omega) (by omega) ?_
                            refine k_iconst C dX8_hire_77 ?_
                            refine k_isub C dX8_hire_78 ?_
                            refine k_iret C hr dX8_hire_79 ?_
                            first
                              | exact Or.inl ⟨by omega, (by first | rfl | (rw [hz21]; exact congrArg (fun qq => some (aI qq)) (by omega))), ⟨(by repeat (first | exact hs_eq _ _ _ | refine hs_ne (by omega) ?_ | assumption)), (by repeat (first | exact hs_eq _ _ _ | refine hs_ne (by omega) ?_ | assumption)), (by repeat (first | exact hs_eq _ _ _ | refine hs_ne (by omega) ?_ | assumption)), (by repeat (first | exact hs_eq _ _ _ | refine hs_ne (by omega) ?_ | assumption)), (by repeat (first | exact hs_eq _ _ _ | refine hs_ne (by omega) ?_ | assumption)), (by repeat (first | exact hs_eq _ _ _ | refine hs_ne (by omega) ?_ | assumption))⟩, Fr.tr (Fr.tr (fun aaa haa => by repeat (first | rfl | refine hs_ne (by omega) ?_)) hF1) hF2⟩
                              | exact Or.inr (Or.inl ⟨by omega, (by first | rfl | (rw [hz21]; exact congrArg (fun qq => some (aI qq)) (by omega))), ⟨(by repeat (first | exact hs_eq _ _ _ | refine hs_ne (by omega) ?_ | assumption)), (by repeat (first | exact hs_eq _ _ _ | refine hs_ne (by omega) ?_ | assumption)), (by repeat (first | exact hs_eq _ _ _ | refine hs_ne (by omega) ?_ | assumption)), (by repeat (first | exact hs_eq _ _ _ | refine hs_ne (by omega) ?_ | assumption)), (by repeat (first | exact hs_eq _ _ _ | refine hs_ne (by omega) ?_ | assumption)), (by repeat (first | exact hs_eq _ _ _ | refine hs_ne (by omega) ?_ | assumption))⟩, fun aaa haa => by repeat (first | rfl | refine hs_ne (by omega) ?_)⟩)
                              | exact Or.inr (Or.inr (Or.inl ⟨by omega, (by first | rfl | (rw [hz21]; exact congrArg (fun qq => some (aI qq)) (by omega))), ⟨(by repeat (first | exact hs_eq _ _ _ | refine hs_ne (by omega) ?_ | assumption)), (by repeat (first | exact hs_eq _ _ _ | refine hs_ne (by omega) ?_ | assumption)), (by repeat (first | exact hs_eq _ _ _ | refine hs_ne (by omega) ?_ | assumption)), (by repeat (first | exact hs_eq _ _ _ | refine hs_ne (by omega) ?_ | assumption)), (by repeat (first | exact hs_eq _ _ _ | refine hs_ne (by omega) ?_ | assumption)), (by repeat (first | exact hs_eq _ _ _ | refine hs_ne (by omega) ?_ | assumption))⟩, fun aaa haa => by repeat (first | rfl | refine hs_ne (by omega) ?_)⟩))
                              | exact Or.inr (Or.inr (Or.inr (⟨by omega, (by first | rfl | (rw [hz21]; exact congrArg (fun qq => some (aI qq)) (by omega))), ⟨(by repeat (first | exact hs_eq _ _ _ | refine hs_ne (by omega) ?_ | assumption)), (by repeat (first | exact hs_eq _ _ _ | refine hs_ne (by omega) ?_ | assumption)), (by repeat (first | exact hs_eq _ _ _ | refine hs_ne (by omega) ?_ | assumption)), (by repeat (first | exact hs_eq _ _ _ | refine hs_ne (by omega) ?_ | assumption)), (by repeat (first | exact hs_eq _ _ _ | refine hs_ne (by omega) ?_ | assumption)), (by repeat (first | exact hs_eq _ _ _ | refine hs_ne (by omega) ?_ | assumption))⟩, fun aaa haa => by repeat (first | rfl | refine hs_ne (by omega) ?_)⟩))))
                        · try (exfalso; omega)
                          all_goals (
                            refine k_iconst C dX8_hire_57 ?_
                            refine k_iret C hr dX8_hire_58 ?_
                            first
                              | exact Or.inl ⟨by omega, (by first | rfl | (rw [hz21]; exact congrArg (fun qq => some (aI qq)) (by omega))), ⟨(by repeat (first | exact hs_eq _ _ _ | refine hs_ne (by omega) ?_ | assumption)), (by repeat (first | exact hs_eq _ _ _ | refine hs_ne (by omega) ?_ | assumption)), (by repeat (first | exact hs_eq _ _ _ | refine hs_ne (by omega) ?_ | assumption)), (by repeat (first | exact hs_eq _ _ _ | refine hs_ne (by omega) ?_ | assumption)), (by repeat (first | exact hs_eq _ _ _ | refine hs_ne (by omega) ?_ | assumption)), (by repeat (first | exact hs_eq _ _ _ | refine hs_ne (by omega) ?_ | assumption))⟩, Fr.tr (Fr.tr (fun aaa haa => by repeat (first | rfl | refine hs_ne (by omega) ?_)) hF1) hF2⟩
                              | exact Or.inr (Or.inl ⟨by omega, (by first | rfl | (rw [hz21]; exact congrArg (fun qq => some (aI qq)) (by omega))), ⟨(by repeat (first | exact hs_eq _ _ _ | refine hs_ne (by omega) ?_ | assumption)), (by repeat (first | exact hs_eq _ _ _ | refine hs_ne (by omega) ?_ | assumption)), (by repeat (first | exact hs_eq _ _ _ | refine hs_ne (by omega) ?_ | assumption)), (by repeat (first | exact hs_eq _ _ _ | refine hs_ne (by omega) ?_ | assumption)), (by repeat (first | exact hs_eq _ _ _ | refine hs_ne (by omega) ?_ | assumption)), (by repeat (first | exact hs_eq _ _ _ | refine hs_ne (by omega) ?_ | assumption))⟩, fun aaa haa => by repeat (first | rfl | refine hs_ne (by omega) ?_)⟩)
                              | exact Or.inr (Or.inr (Or.inl ⟨by omega, (by first | rfl | (rw [hz21]; exact congrArg (fun qq => some (aI qq)) (by omega))), ⟨(by repeat (first | exact hs_eq _ _ _ | refine hs_ne (by omega) ?_ | assumption)), (by repeat (first | exact hs_eq _ _ _ | refine hs_ne (by omega) ?_ | assumption)), (by repeat (first | exact hs_eq _ _ _ | refine hs_ne (by omega) ?_ | assumption)), (by repeat (first | exact hs_eq _ _ _ | refine hs_ne (by omega) ?_ | assumption)), (by repeat (first | exact hs_eq _ _ _ | refine hs_ne (by omega) ?_ | assumption)), (by repeat (first | exact hs_eq _ _ _ | refine hs_ne (by omega) ?_ | assumption))⟩, fun aaa haa => by repeat (first | rfl | refine hs_ne (by omega) ?_)⟩))
                              | exact Or.inr (Or.inr (Or.inr (⟨by omega, (by first | rfl | (rw [hz21]; exact congrArg (fun qq => some (aI qq)) (by omega))), ⟨(by repeat (first | exact hs_eq _ _ _ | refine hs_ne (by omega) ?_ | assumption)), (by repeat (first | exact hs_eq _ _ _ | refine hs_ne (by omega) ?_ | assumption)), (by repeat (first | exact hs_eq _ _ _ | refine hs_ne (by omega) ?_ | assumption)), (by repeat (first | exact hs_eq _ _ _ | refine hs_ne (by omega) ?_ | assumption)), (by repeat (first | exact hs_eq _ _ _ | refine hs_ne (by omega) ?_ | assumption)), (by repeat (first | exact hs_eq _ _ _ | refine hs_ne (by omega) ?_ | assumption))⟩, fun aaa haa => by repeat (first | rfl | refine hs_ne (by omega) ?_)⟩))))))
                · try (exfalso; omega)
                  all_goals (
                    refine k_iconst C dX8_hire_26 ?_
                    refine k_goto (tgt := 47) C dX8_hire_27 (by decide) ?_
                    refine k_put C (k := 5) inX8 tyX8_ok nmX8 (ci := 8) rfl (by decide) fl_X8_25 rfl (Nat.le_of_ble_eq_true rfl) dX8_hire_47 (by repeat (first | exact hs_eq _ _ _ | refine hs_ne (by omega) ?_ | assumption)) ?_
                    refine k_aload_n C dX8_hire_50 rfl ?_
                    refine k_get C (k := 5) inX8 (ci := 8) rfl (by decide) fl_X8_25 dX8_hire_51 (by repeat (first | exact hs_eq _ _ _ | refine hs_ne (by omega) ?_ | assumption)) rfl ?_
                    refine k_if_le (tgt := 59) C dX8_hire_54 (by decide) ⟨by omega, by omega⟩ (fun c54 => ?_) (fun c54 => ?_)
                    · try (exfalso; omega)
                      all_goals (
                        refine k_aload_n C dX8_hire_59 rfl ?_
                        refine k_callV C (n := 0) (as := []) (ct_X8_save l D tc base oo zrr hhi htx has hro st ln (0) re du hsh _ ⟨(by repeat (first | exact hs_eq _ _ _ | refine hs_ne (by omega) ?_ | assumption)), (by repeat (first | exact hs_eq _ _ _ | refine hs_ne (by omega) ?_ | assumption)), (by repeat (first | exact hs_eq _ _ _ | refine hs_ne (by omega) ?_ | assumption)), (by repeat (first | exact hs_eq _ _ _ | refine hs_ne (by omega) ?_ | assumption)), (by repeat (first | exact hs_eq _ _ _ | refine hs_ne (by omega) ?_ | assumption)), (by repeat (first | exact hs_eq _ _ _ | refine hs_ne (by omega) ?_ | assumption))⟩ hst) ml_X8_102 im_X8_save se_X8_save ini_X8 co_X8_save ⟨rfl, by decide, by decide, by decide +kernel⟩ rfl (ci := 8) rfl (by repeat (first | exact hs_eq _ _ _ | refine hs_ne (by omega) ?_ | assumption)) ⟨by decide, by decide⟩ rfl (Nat.le_of_ble_eq_true rfl) ⟨Nat.zero_le _, Nat.zero_le _⟩ dX8_hire_60 ?_
                        rintro _ _ ⟨rfl, hM1, hF1⟩
                        obtain ⟨k0, k1, k2, k3, k4, k5⟩ := id hM1
                        refine k_aload_n C dX8_hire_63 rfl ?_
                        refine k_iload_n C dX8_hire_64 rfl ?_
                        refine k_iload_n C dX8_hire_65 rfl ?_
                        refine k_iload_n C dX8_hire_66 rfl ?_
                        refine k_callV C (n := 3) (as := [_, _, _]) (ct_X8_comes l D tc base oo zrr _ _ _ _ _ _ _ _ _ _ _ hM1 _ _ _ ⟨by omega, by omega⟩) ml_X8_115 im_X8_comes se_X8_comes ini_X8 co_X8_comes ⟨rfl, by decide, by decide, by decide +kernel⟩ rfl (ci := 8) rfl (by repeat (first | exact hs_eq _ _ _ | refine hs_ne (by omega) ?_ | assumption)) ⟨by decide, by decide⟩ rfl (Nat.le_of_ble_eq_true rfl) ⟨Nat.zero_le _, Nat.zero_le _⟩ dX8_hire_67 ?_
                        rintro _ _ ⟨rfl, hM2, hF2⟩
                        obtain ⟨k0, k1, k2, k3, k4, k5⟩ := id hM2
                        have hz21 : zComes zrr ww tt pd 21 = zrr 21 + 1 := iu_eq _ _ _
                        refine k_aload_n C dX8_hire_70 rfl ?_
                        refine k_get C (k := 0) inX8 (ci := 8) rfl (by decide) fl_X8_7 dX8_hire_71 (by repeat (first | exact hs_eq _ _ _ | refine hs_ne (by omega) ?_ | assumption)) rfl ?_
                        refine k_bipush C dX8_hire_74 (by decide +kernel) ?_
                        refine k_iaload C dX8_hire_76 (by repeat (first | exact hs_eq _ _ _ | refine hs_ne (by omega) ?_ | assumption)) (by omega) (by omega) (by omega) ?_
                        refine k_iconst C dX8_hire_77 ?_
                        refine k_isub C dX8_hire_78 ?_
                        refine k_iret C hr dX8_hire_79 ?_
                        first
                          | exact Or.inl ⟨by omega, (by first | rfl | (rw [hz21]; exact congrArg (fun qq => some (aI qq)) (by omega))), ⟨(by repeat (first | exact hs_eq _ _ _ | refine hs_ne (by omega) ?_ | assumption)), (by repeat (first | exact hs_eq _ _ _ | refine hs_ne (by omega) ?_ | assumption)), (by repeat (first | exact hs_eq _ _ _ | refine hs_ne (by omega) ?_ | assumption)), (by repeat (first | exact hs_eq _ _ _ | refine hs_ne (by omega) ?_ | assumption)), (by repeat (first | exact hs_eq _ _ _ | refine hs_ne (by omega) ?_ | assumption)), (by repeat (first | exact hs_eq _ _ _ | refine hs_ne (by omega) ?_ | assumption))⟩, Fr.tr (Fr.tr (fun aaa haa => by repeat (first | rfl | refine hs_ne (by omega) ?_)) hF1) hF2⟩
                          | exact Or.inr (Or.inl ⟨by omega, (by first | rfl | (rw [hz21]; exact congrArg (fun qq => some (aI qq)) (by omega))), ⟨(by repeat (first | exact hs_eq _ _ _ | refine hs_ne (by omega) ?_ | assumption)), (by repeat (first | exact hs_eq _ _ _ | refine hs_ne (by omega) ?_ | assumption)), (by repeat (first | exact hs_eq _ _ _ | refine hs_ne (by omega) ?_ | assumption)), (by repeat (first | exact hs_eq _ _ _ | refine hs_ne (by omega) ?_ | assumption)), (by repeat (first | exact hs_eq _ _ _ | refine hs_ne (by omega) ?_ | assumption)), (by repeat (first | exact hs_eq _ _ _ | refine hs_ne (by omega) ?_ | assumption))⟩, fun aaa haa => by repeat (first | rfl | refine hs_ne (by omega) ?_)⟩)
                          | exact Or.inr (Or.inr (Or.inl ⟨by omega, (by first | rfl | (rw [hz21]; exact congrArg (fun qq => some (aI qq)) (by omega))), ⟨(by repeat (first | exact hs_eq _ _ _ | refine hs_ne (by omega) ?_ | assumption)), (by repeat (first | exact hs_eq _ _ _ | refine hs_ne (by omega) ?_ | assumption)), (by repeat (first | exact hs_eq _ _ _ | refine hs_ne (by omega) ?_ | assumption)), (by repeat (first | exact hs_eq _ _ _ | refine hs_ne (by omega) ?_ | assumption)), (by repeat (first | exact hs_eq _ _ _ | refine hs_ne (by omega) ?_ | assumption)), (by repeat (first | exact hs_eq _ _ _ | refine hs_ne (by omega) ?_ | assumption))⟩, fun aaa haa => by repeat (first | rfl | refine hs_ne (by omega) ?_)⟩))
                          | exact Or.inr (Or.inr (Or.inr (⟨by omega, (by first | rfl | (rw [hz21]; exact congrArg (fun qq => some (aI qq)) (by omega))), ⟨(by repeat (first | exact hs_eq _ _ _ | refine hs_ne (by omega) ?_ | assumption)), (by repeat (first | exact hs_eq _ _ _ | refine hs_ne (by omega) ?_ | assumption)), (by repeat (first | exact hs_eq _ _ _ | refine hs_ne (by omega) ?_ | assumption)), (by repeat (first | exact hs_eq _ _ _ | refine hs_ne (by omega) ?_ | assumption)), (by repeat (first | exact hs_eq _ _ _ | refine hs_ne (by omega) ?_ | assumption)), (by repeat (first | exact hs_eq _ _ _ | refine hs_ne (by omega) ?_ | assumption))⟩, fun aaa haa => by repeat (first | rfl | refine hs_ne (by omega) ?_)⟩))))
                    · try (exfalso; omega)
                      all_goals (
                        refine k_iconst C dX8_hire_57 ?_
                        refine k_iret C hr dX8_hire_58 ?_
                        first
                          | exact Or.inl ⟨by omega, (by first | rfl | (rw [hz21]; exact congrArg (fun qq => some (aI qq)) (by omega))), ⟨(by repeat (first | exact hs_eq _ _ _ | refine hs_ne (by omega) ?_ | assumption)), (by repeat (first | exact hs_eq _ _ _ | refine hs_ne (by omega) ?_ | assumption)), (by repeat (first | exact hs_eq _ _ _ | refine hs_ne (by omega) ?_ | assumption)), (by repeat (first | exact hs_eq _ _ _ | refine hs_ne (by omega) ?_ | assumption)), (by repeat (first | exact hs_eq _ _ _ | refine hs_ne (by omega) ?_ | assumption)), (by repeat (first | exact hs_eq _ _ _ | refine hs_ne (by omega) ?_ | assumption))⟩, Fr.tr (Fr.tr (fun aaa haa => by repeat (first | rfl | refine hs_ne (by omega) ?_)) hF1) hF2⟩
                          | exact Or.inr (Or.inl ⟨by omega, (by first | rfl | (rw [hz21]; exact congrArg (fun qq => some (aI qq)) (by omega))), ⟨(by repeat (first | exact hs_eq _ _ _ | refine hs_ne (by omega) ?_ | assumption)), (by repeat (first | exact hs_eq _ _ _ | refine hs_ne (by omega) ?_ | assumption)), (by repeat (first | exact hs_eq _ _ _ | refine hs_ne (by omega) ?_ | assumption)), (by repeat (first | exact hs_eq _ _ _ | refine hs_ne (by omega) ?_ | assumption)), (by repeat (first | exact hs_eq _ _ _ | refine hs_ne (by omega) ?_ | assumption)), (by repeat (first | exact hs_eq _ _ _ | refine hs_ne (by omega) ?_ | assumption))⟩, fun aaa haa => by repeat (first | rfl | refine hs_ne (by omega) ?_)⟩)
                          | exact Or.inr (Or.inr (Or.inl ⟨by omega, (by first | rfl | (rw [hz21]; exact congrArg (fun qq => some (aI qq)) (by omega))), ⟨(by repeat (first | exact hs_eq _ _ _ | refine hs_ne (by omega) ?_ | assumption)), (by repeat (first | exact hs_eq _ _ _ | refine hs_ne (by omega) ?_ | assumption)), (by repeat (first | exact hs_eq _ _ _ | refine hs_ne (by omega) ?_ | assumption)), (by repeat (first | exact hs_eq _ _ _ | refine hs_ne (by omega) ?_ | assumption)), (by repeat (first | exact hs_eq _ _ _ | refine hs_ne (by omega) ?_ | assumption)), (by repeat (first | exact hs_eq _ _ _ | refine hs_ne (by omega) ?_ | assumption))⟩, fun aaa haa => by repeat (first | rfl | refine hs_ne (by omega) ?_)⟩))
                          | exact Or.inr (Or.inr (Or.inr (⟨by omega, (by first | rfl | (rw [hz21]; exact congrArg (fun qq => some (aI qq)) (by omega))), ⟨(by repeat (first | exact hs_eq _ _ _ | refine hs_ne (by omega) ?_ | assumption)), (by repeat (first | exact hs_eq _ _ _ | refine hs_ne (by omega) ?_ | assumption)), (by repeat (first | exact hs_eq _ _ _ | refine hs_ne (by omega) ?_ | assumption)), (by repeat (first | exact hs_eq _ _ _ | refine hs_ne (by omega) ?_ | assumption)), (by repeat (first | exact hs_eq _ _ _ | refine hs_ne (by omega) ?_ | assumption)), (by repeat (first | exact hs_eq _ _ _ | refine hs_ne (by omega) ?_ | assumption))⟩, fun aaa haa => by repeat (first | rfl | refine hs_ne (by omega) ?_)⟩))))))
        · skip
          refine k_if_eq (tgt := 26) C dX8_hire_16 (by decide) ⟨by omega, by omega⟩ (fun c16 => ?_) (fun c16 => ?_)
          · try (exfalso; omega)
            all_goals (
              refine k_iconst C dX8_hire_26 ?_
              refine k_goto (tgt := 47) C dX8_hire_27 (by decide) ?_
              refine k_put C (k := 5) inX8 tyX8_ok nmX8 (ci := 8) rfl (by decide) fl_X8_25 rfl (Nat.le_of_ble_eq_true rfl) dX8_hire_47 (by repeat (first | exact hs_eq _ _ _ | refine hs_ne (by omega) ?_ | assumption)) ?_
              refine k_aload_n C dX8_hire_50 rfl ?_
              refine k_get C (k := 5) inX8 (ci := 8) rfl (by decide) fl_X8_25 dX8_hire_51 (by repeat (first | exact hs_eq _ _ _ | refine hs_ne (by omega) ?_ | assumption)) rfl ?_
              refine k_if_le (tgt := 59) C dX8_hire_54 (by decide) ⟨by omega, by omega⟩ (fun c54 => ?_) (fun c54 => ?_)
              · try (exfalso; omega)
                all_goals (
                  refine k_aload_n C dX8_hire_59 rfl ?_
                  refine k_callV C (n := 0) (as := []) (ct_X8_save l D tc base oo zrr hhi htx has hro st ln (0) re du hsh _ ⟨(by repeat (first | exact hs_eq _ _ _ | refine hs_ne (by omega) ?_ | assumption)), (by repeat (first | exact hs_eq _ _ _ | refine hs_ne (by omega) ?_ | assumption)), (by repeat (first | exact hs_eq _ _ _ | refine hs_ne (by omega) ?_ | assumption)), (by repeat (first | exact hs_eq _ _ _ | refine hs_ne (by omega) ?_ | assumption)), (by repeat (first | exact hs_eq _ _ _ | refine hs_ne (by omega) ?_ | assumption)), (by repeat (first | exact hs_eq _ _ _ | refine hs_ne (by omega) ?_ | assumption))⟩ hst) ml_X8_102 im_X8_save se_X8_save ini_X8 co_X8_save ⟨rfl, by decide, by decide, by decide +kernel⟩ rfl (ci := 8) rfl (by repeat (first | exact hs_eq _ _ _ | refine hs_ne (by omega) ?_ | assumption)) ⟨by decide, by decide⟩ rfl (Nat.le_of_ble_eq_true rfl) ⟨Nat.zero_le _, Nat.zero_le _⟩ dX8_hire_60 ?_
                  rintro _ _ ⟨rfl, hM1, hF1⟩
                  obtain ⟨k0, k1, k2, k3, k4, k5⟩ := id hM1
                  refine k_aload_n C dX8_hire_63 rfl ?_
                  refine k_iload_n C dX8_hire_64 rfl ?_
                  refine k_iload_n C dX8_hire_65 rfl ?_
                  refine k_iload_n C dX8_hire_66 rfl ?_
                  refine k_callV C (n := 3) (as := [_, _, _]) (ct_X8_comes l D tc base oo zrr _ _ _ _ _ _ _ _ _ _ _ hM1 _ _ _ ⟨by omega, by omega⟩) ml_X8_115 im_X8_comes se_X8_comes ini_X8 co_X8_comes ⟨rfl, by decide, by decide, by decide +kernel⟩ rfl (ci := 8) rfl (by repeat (first | exact hs_eq _ _ _ | refine hs_ne (by omega) ?_ | assumption)) ⟨by decide, by decide⟩ rfl (Nat.le_of_ble_eq_true rfl) ⟨Nat.zero_le _, Nat.zero_le _⟩ dX8_hire_67 ?_
                  rintro _ _ ⟨rfl, hM2, hF2⟩
                  obtain ⟨k0, k1, k2, k3, k4, k5⟩ := id hM2
                  have hz21 : zComes zrr ww tt pd 21 = zrr 21 + 1 := iu_eq _ _ _
                  refine k_aload_n C dX8_hire_70 rfl ?_
                  refine k_get C (k := 0) inX8 (ci := 8) rfl (by decide) fl_X8_7 dX8_hire_71 (by repeat (first | exact hs_eq _ _ _ | refine hs_ne (by omega) ?_ | assumption)) rfl ?_
                  refine k_bipush C dX8_hire_74 (by decide +kernel) ?_
                  refine k_iaload C dX8_hire_76 (by repeat (first | exact hs_eq _ _ _ | refine hs_ne (by omega) ?_ | assumption)) (by omega) (by omega) (by omega) ?_
                  refine k_iconst C dX8_hire_77 ?_
                  refine k_isub C dX8_hire_78 ?_
                  refine k_iret C hr dX8_hire_79 ?_
                  first
                    | exact Or.inl ⟨by omega, (by first | rfl | (rw [hz21]; exact congrArg (fun qq => some (aI qq)) (by omega))), ⟨(by repeat (first | exact hs_eq _ _ _ | refine hs_ne (by omega) ?_ | assumption)), (by repeat (first | exact hs_eq _ _ _ | refine hs_ne (by omega) ?_ | assumption)), (by repeat (first | exact hs_eq _ _ _ | refine hs_ne (by omega) ?_ | assumption)), (by repeat (first | exact hs_eq _ _ _ | refine hs_ne (by omega) ?_ | assumption)), (by repeat (first | exact hs_eq _ _ _ | refine hs_ne (by omega) ?_ | assumption)), (by repeat (first | exact hs_eq _ _ _ | refine hs_ne (by omega) ?_ | assumption))⟩, Fr.tr (Fr.tr (fun aaa haa => by repeat (first | rfl | refine hs_ne (by omega) ?_)) hF1) hF2⟩
                    | exact Or.inr (Or.inl ⟨by omega, (by first | rfl | (rw [hz21]; exact congrArg (fun qq => some (aI qq)) (by omega))), ⟨(by repeat (first | exact hs_eq _ _ _ | refine hs_ne (by omega) ?_ | assumption)), (by repeat (first | exact hs_eq _ _ _ | refine hs_ne (by omega) ?_ | assumption)), (by repeat (first | exact hs_eq _ _ _ | refine hs_ne (by omega) ?_ | assumption)), (by repeat (first | exact hs_eq _ _ _ | refine hs_ne (by omega) ?_ | assumption)), (by repeat (first | exact hs_eq _ _ _ | refine hs_ne (by omega) ?_ | assumption)), (by repeat (first | exact hs_eq _ _ _ | refine hs_ne (by omega) ?_ | assumption))⟩, fun aaa haa => by repeat (first | rfl | refine hs_ne (by omega) ?_)⟩)
                    | exact Or.inr (Or.inr (Or.inl ⟨by omega, (by first | rfl | (rw [hz21]; exact congrArg (fun qq => some (aI qq)) (by omega))), ⟨(by repeat (first | exact hs_eq _ _ _ | refine hs_ne (by omega) ?_ | assumption)), (by repeat (first | exact hs_eq _ _ _ | refine hs_ne (by omega) ?_ | assumption)), (by repeat (first | exact hs_eq _ _ _ | refine hs_ne (by omega) ?_ | assumption)), (by repeat (first | exact hs_eq _ _ _ | refine hs_ne (by omega) ?_ | assumption)), (by repeat (first | exact hs_eq _ _ _ | refine hs_ne (by omega) ?_ | assumption)), (by repeat (first | exact hs_eq _ _ _ | refine hs_ne (by omega) ?_ | assumption))⟩, fun aaa haa => by repeat (first | rfl | refine hs_ne (by omega) ?_)⟩))
                    | exact Or.inr (Or.inr (Or.inr (⟨by omega, (by first | rfl | (rw [hz21]; exact congrArg (fun qq => some (aI qq)) (by omega))), ⟨(by repeat (first | exact hs_eq _ _ _ | refine hs_ne (by omega) ?_ | assumption)), (by repeat (first | exact hs_eq _ _ _ | refine hs_ne (by omega) ?_ | assumption)), (by repeat (first | exact hs_eq _ _ _ | refine hs_ne (by omega) ?_ | assumption)), (by repeat (first | exact hs_eq _ _ _ | refine hs_ne (by omega) ?_ | assumption)), (by repeat (first | exact hs_eq _ _ _ | refine hs_ne (by omega) ?_ | assumption)), (by repeat (first | exact hs_eq _ _ _ | refine hs_ne (by omega) ?_ | assumption))⟩, fun aaa haa => by repeat (first | rfl | refine hs_ne (by omega) ?_)⟩))))
              · try (exfalso; omega)
                all_goals (
                  refine k_iconst C dX8_hire_57 ?_
                  refine k_iret C hr dX8_hire_58 ?_
                  first
                    | exact Or.inl ⟨by omega, (by first | rfl | (rw [hz21]; exact congrArg (fun qq => some (aI qq)) (by omega))), ⟨(by repeat (first | exact hs_eq _ _ _ | refine hs_ne (by omega) ?_ | assumption)), (by repeat (first | exact hs_eq _ _ _ | refine hs_ne (by omega) ?_ | assumption)), (by repeat (first | exact hs_eq _ _ _ | refine hs_ne (by omega) ?_ | assumption)), (by repeat (first | exact hs_eq _ _ _ | refine hs_ne (by omega) ?_ | assumption)), (by repeat (first | exact hs_eq _ _ _ | refine hs_ne (by omega) ?_ | assumption)), (by repeat (first | exact hs_eq _ _ _ | refine hs_ne (by omega) ?_ | assumption))⟩, Fr.tr (Fr.tr (fun aaa haa => by repeat (first | rfl | refine hs_ne (by omega) ?_)) hF1) hF2⟩
                    | exact Or.inr (Or.inl ⟨by omega, (by first | rfl | (rw [hz21]; exact congrArg (fun qq => some (aI qq)) (by omega))), ⟨(by repeat (first | exact hs_eq _ _ _ | refine hs_ne (by omega) ?_ | assumption)), (by repeat (first | exact hs_eq _ _ _ | refine hs_ne (by omega) ?_ | assumption)), (by repeat (first | exact hs_eq _ _ _ | refine hs_ne (by omega) ?_ | assumption)), (by repeat (first | exact hs_eq _ _ _ | refine hs_ne (by omega) ?_ | assumption)), (by repeat (first | exact hs_eq _ _ _ | refine hs_ne (by omega) ?_ | assumption)), (by repeat (first | exact hs_eq _ _ _ | refine hs_ne (by omega) ?_ | assumption))⟩, fun aaa haa => by repeat (first | rfl | refine hs_ne (by omega) ?_)⟩)
                    | exact Or.inr (Or.inr (Or.inl ⟨by omega, (by first | rfl | (rw [hz21]; exact congrArg (fun qq => some (aI qq)) (by omega))), ⟨(by repeat (first | exact hs_eq _ _ _ | refine hs_ne (by omega) ?_ | assumption)), (by repeat (first | exact hs_eq _ _ _ | refine hs_ne (by omega) ?_ | assumption)), (by repeat (first | exact hs_eq _ _ _ | refine hs_ne (by omega) ?_ | assumption)), (by repeat (first | exact hs_eq _ _ _ | refine hs_ne (by omega) ?_ | assumption)), (by repeat (first | exact hs_eq _ _ _ | refine hs_ne (by omega) ?_ | assumption)), (by repeat (first | exact hs_eq _ _ _ | refine hs_ne (by omega) ?_ | assumption))⟩, fun aaa haa => by repeat (first | rfl | refine hs_ne (by omega) ?_)⟩))
                    | exact Or.inr (Or.inr (Or.inr (⟨by omega, (by first | rfl | (rw [hz21]; exact congrArg (fun qq => some (aI qq)) (by omega))), ⟨(by repeat (first | exact hs_eq _ _ _ | refine hs_ne (by omega) ?_ | assumption)), (by repeat (first | exact hs_eq _ _ _ | refine hs_ne (by omega) ?_ | assumption)), (by repeat (first | exact hs_eq _ _ _ | refine hs_ne (by omega) ?_ | assumption)), (by repeat (first | exact hs_eq _ _ _ | refine hs_ne (by omega) ?_ | assumption)), (by repeat (first | exact hs_eq _ _ _ | refine hs_ne (by omega) ?_ | assumption)), (by repeat (first | exact hs_eq _ _ _ | refine hs_ne (by omega) ?_ | assumption))⟩, fun aaa haa => by repeat (first | rfl | refine hs_ne (by omega) ?_)⟩)))))
          · try (exfalso; omega)
            all_goals (
              refine k_iload_n C dX8_hire_19 rfl ?_
              refine k_callS C (n := 1) (as := [_]) (ct_X8_isPeriod l D tc base _ _ hpd) ml_X8_112 sm_X8_isPeriod ini_X8 co_X8_isPeriod ⟨by decide, by decide, by decide +kernel⟩ rfl ⟨by decide, by decide⟩ rfl (Nat.le_of_ble_eq_true rfl) ⟨Nat.zero_le _, Nat.zero_le _⟩ dX8_hire_20 ?_
              rintro _ _ (⟨rfl, rfl, hq20⟩ | ⟨rfl, rfl, hq20⟩)
              · skip
                refine k_if_ne (tgt := 30) C dX8_hire_23 (by decide) ⟨by omega, by omega⟩ (fun c23 => ?_) (fun c23 => ?_)
                · try (exfalso; omega)
                  all_goals (
                    refine k_aload_n C dX8_hire_30 rfl ?_
                    refine k_get C (k := 0) inX8 (ci := 8) rfl (by decide) fl_X8_7 dX8_hire_31 (by repeat (first | exact hs_eq _ _ _ | refine hs_ne (by omega) ?_ | assumption)) rfl ?_
                    refine k_bipush C dX8_hire_34 (by decide +kernel) ?_
                    refine k_iaload C dX8_hire_36 (by repeat (first | exact hs_eq _ _ _ | refine hs_ne (by omega) ?_ | assumption)) (by omega) (by omega) (by omega) ?_
                    refine k_bipush C dX8_hire_37 (by decide +kernel) ?_
                    refine k_icmp_ne (tgt := 46) C dX8_hire_39 (by decide) ⟨by omega, by omega⟩ ⟨by omega, by omega⟩ (fun c39 => ?_) (fun c39 => ?_)
                    · try (exfalso; omega)
                      all_goals (
                        refine k_iconst C dX8_hire_46 ?_
                        refine k_put C (k := 5) inX8 tyX8_ok nmX8 (ci := 8) rfl (by decide) fl_X8_25 rfl (Nat.le_of_ble_eq_true rfl) dX8_hire_47 (by repeat (first | exact hs_eq _ _ _ | refine hs_ne (by omega) ?_ | assumption)) ?_
                        refine k_aload_n C dX8_hire_50 rfl ?_
                        refine k_get C (k := 5) inX8 (ci := 8) rfl (by decide) fl_X8_25 dX8_hire_51 (by repeat (first | exact hs_eq _ _ _ | refine hs_ne (by omega) ?_ | assumption)) rfl ?_
                        refine k_if_le (tgt := 59) C dX8_hire_54 (by decide) ⟨by omega, by omega⟩ (fun c54 => ?_) (fun c54 => ?_)
                        · try (exfalso; omega)
                          all_goals (
                            refine k_aload_n C dX8_hire_59 rfl ?_
                            refine k_callV C (n := 0) (as := []) (ct_X8_save l D tc base oo zrr hhi htx has hro st ln (0) re du hsh _ ⟨(by repeat (first | exact hs_eq _ _ _ | refine hs_ne (by omega) ?_ | assumption)), (by repeat (first | exact hs_eq _ _ _ | refine hs_ne (by omega) ?_ | assumption)), (by repeat (first | exact hs_eq _ _ _ | refine hs_ne (by omega) ?_ | assumption)), (by repeat (first | exact hs_eq _ _ _ | refine hs_ne (by omega) ?_ | assumption)), (by repeat (first | exact hs_eq _ _ _ | refine hs_ne (by omega) ?_ | assumption)), (by repeat (first | exact hs_eq _ _ _ | refine hs_ne (by omega) ?_ | assumption))⟩ hst) ml_X8_102 im_X8_save se_X8_save ini_X8 co_X8_save ⟨rfl, by decide, by decide, by decide +kernel⟩ rfl (ci := 8) rfl (by repeat (first | exact hs_eq _ _ _ | refine hs_ne (by omega) ?_ | assumption)) ⟨by decide, by decide⟩ rfl (Nat.le_of_ble_eq_true rfl) ⟨Nat.zero_le _, Nat.zero_le _⟩ dX8_hire_60 ?_
                            rintro _ _ ⟨rfl, hM1, hF1⟩
                            obtain ⟨k0, k1, k2, k3, k4, k5⟩ := id hM1
                            refine k_aload_n C dX8_hire_63 rfl ?_
                            refine k_iload_n C dX8_hire_64 rfl ?_
                            refine k_iload_n C dX8_hire_65 rfl ?_
                            refine k_iload_n C dX8_hire_66 rfl ?_
                            refine k_callV C (n := 3) (as := [_, _, _]) (ct_X8_comes l D tc base oo zrr _ _ _ _ _ _ _ _ _ _ _ hM1 _ _ _ ⟨by omega, by omega⟩) ml_X8_115 im_X8_comes se_X8_comes ini_X8 co_X8_comes ⟨rfl, by decide, by decide, by decide +kernel⟩ rfl (ci := 8) rfl (by repeat (first | exact hs_eq _ _ _ | refine hs_ne (by omega) ?_ | assumption)) ⟨by decide, by decide⟩ rfl (Nat.le_of_ble_eq_true rfl) ⟨Nat.zero_le _, Nat.zero_le _⟩ dX8_hire_67 ?_
                            rintro _ _ ⟨rfl, hM2, hF2⟩
                            obtain ⟨k0, k1, k2, k3, k4, k5⟩ := id hM2
                            have hz21 : zComes zrr ww tt pd 21 = zrr 21 + 1 := iu_eq _ _ _
                            refine k_aload_n C dX8_hire_70 rfl ?_
                            refine k_get C (k := 0) inX8 (ci := 8) rfl (by decide) fl_X8_7 dX8_hire_71 (by repeat (first | exact hs_eq _ _ _ | refine hs_ne (by omega) ?_ | assumption)) rfl ?_
                            refine k_bipush C dX8_hire_74 (by decide +kernel) ?_
                            refine k_iaload C dX8_hire_76 (by repeat (first | exact hs_eq _ _ _ | refine hs_ne (by omega) ?_ | assumption)) (by omega) (by omega) (by omega) ?_
                            refine k_iconst C dX8_hire_77 ?_
                            refine k_isub C dX8_hire_78 ?_
                            refine k_iret C hr dX8_hire_79 ?_
                            first
                              | exact Or.inl ⟨by omega, (by first | rfl | (rw [hz21]; exact congrArg (fun qq => some (aI qq)) (by omega))), ⟨(by repeat (first | exact hs_eq _ _ _ | refine hs_ne (by omega) ?_ | assumption)), (by repeat (first | exact hs_eq _ _ _ | refine hs_ne (by omega) ?_ | assumption)), (by repeat (first | exact hs_eq _ _ _ | refine hs_ne (by omega) ?_ | assumption)), (by repeat (first | exact hs_eq _ _ _ | refine hs_ne (by omega) ?_ | assumption)), (by repeat (first | exact hs_eq _ _ _ | refine hs_ne (by omega) ?_ | assumption)), (by repeat (first | exact hs_eq _ _ _ | refine hs_ne (by omega) ?_ | assumption))⟩, Fr.tr (Fr.tr (fun aaa haa => by repeat (first | rfl | refine hs_ne (by omega) ?_)) hF1) hF2⟩
                              | exact Or.inr (Or.inl ⟨by omega, (by first | rfl | (rw [hz21]; exact congrArg (fun qq => some (aI qq)) (by omega))), ⟨(by repeat (first | exact hs_eq _ _ _ | refine hs_ne (by omega) ?_ | assumption)), (by repeat (first | exact hs_eq _ _ _ | refine hs_ne (by omega) ?_ | assumption)), (by repeat (first | exact hs_eq _ _ _ | refine hs_ne (by omega) ?_ | assumption)), (by repeat (first | exact hs_eq _ _ _ | refine hs_ne (by omega) ?_ | assumption)), (by repeat (first | exact hs_eq _ _ _ | refine hs_ne (by omega) ?_ | assumption)), (by repeat (first | exact hs_eq _ _ _ | refine hs_ne (by omega) ?_ | assumption))⟩, fun aaa haa => by repeat (first | rfl | refine hs_ne (by omega) ?_)⟩)
                              | exact Or.inr (Or.inr (Or.inl ⟨by omega, (by first | rfl | (rw [hz21]; exact congrArg (fun qq => some (aI qq)) (by omega))), ⟨(by repeat (first | exact hs_eq _ _ _ | refine hs_ne (by omega) ?_ | assumption)), (by repeat (first | exact hs_eq _ _ _ | refine hs_ne (by omega) ?_ | assumption)), (by repeat (first | exact hs_eq _ _ _ | refine hs_ne (by omega) ?_ | assumption)), (by repeat (first | exact hs_eq _ _ _ | refine hs_ne (by omega) ?_ | assumption)), (by repeat (first | exact hs_eq _ _ _ | refine hs_ne (by omega) ?_ | assumption)), (by repeat (first | exact hs_eq _ _ _ | refine hs_ne (by omega) ?_ | assumption))⟩, fun aaa haa => by repeat (first | rfl | refine hs_ne (by omega) ?_)⟩))
                              | exact Or.inr (Or.inr (Or.inr (⟨by omega, (by first | rfl | (rw [hz21]; exact congrArg (fun qq => some (aI qq)) (by omega))), ⟨(by repeat (first | exact hs_eq _ _ _ | refine hs_ne (by omega) ?_ | assumption)), (by repeat (first | exact hs_eq _ _ _ | refine hs_ne (by omega) ?_ | assumption)), (by repeat (first | exact hs_eq _ _ _ | refine hs_ne (by omega) ?_ | assumption)), (by repeat (first | exact hs_eq _ _ _ | refine hs_ne (by omega) ?_ | assumption)), (by repeat (first | exact hs_eq _ _ _ | refine hs_ne (by omega) ?_ | assumption)), (by repeat (first | exact hs_eq _ _ _ | refine hs_ne (by omega) ?_ | assumption))⟩, fun aaa haa => by repeat (first | rfl | refine hs_ne (by omega) ?_)⟩))))
                        · try (exfalso; omega)
                          all_goals (
                            refine k_iconst C dX8_hire_57 ?_
                            refine k_iret C hr dX8_hire_58 ?_
                            first
                              | exact Or.inl ⟨by omega, (by first | rfl | (rw [hz21]; exact congrArg (fun qq => some (aI qq)) (by omega))), ⟨(by repeat (first | exact hs_eq _ _ _ | refine hs_ne (by omega) ?_ | assumption)), (by repeat (first | exact hs_eq _ _ _ | refine hs_ne (by omega) ?_ | assumption)), (by repeat (first | exact hs_eq _ _ _ | refine hs_ne (by omega) ?_ | assumption)), (by repeat (first | exact hs_eq _ _ _ | refine hs_ne (by omega) ?_ | assumption)), (by repeat (first | exact hs_eq _ _ _ | refine hs_ne (by omega) ?_ | assumption)), (by repeat (first | exact hs_eq _ _ _ | refine hs_ne (by omega) ?_ | assumption))⟩, Fr.tr (Fr.tr (fun aaa haa => by repeat (first | rfl | refine hs_ne (by omega) ?_)) hF1) hF2⟩
                              | exact Or.inr (Or.inl ⟨by omega, (by first | rfl | (rw [hz21]; exact congrArg (fun qq => some (aI qq)) (by omega))), ⟨(by repeat (first | exact hs_eq _ _ _ | refine hs_ne (by omega) ?_ | assumption)), (by repeat (first | exact hs_eq _ _ _ | refine hs_ne (by omega) ?_ | assumption)), (by repeat (first | exact hs_eq _ _ _ | refine hs_ne (by omega) ?_ | assumption)), (by repeat (first | exact hs_eq _ _ _ | refine hs_ne (by omega) ?_ | assumption)), (by repeat (first | exact hs_eq _ _ _ | refine hs_ne (by omega) ?_ | assumption)), (by repeat (first | exact hs_eq _ _ _ | refine hs_ne (by omega) ?_ | assumption))⟩, fun aaa haa => by repeat (first | rfl | refine hs_ne (by omega) ?_)⟩)
                              | exact Or.inr (Or.inr (Or.inl ⟨by omega, (by first | rfl | (rw [hz21]; exact congrArg (fun qq => some (aI qq)) (by omega))), ⟨(by repeat (first | exact hs_eq _ _ _ | refine hs_ne (by omega) ?_ | assumption)), (by repeat (first | exact hs_eq _ _ _ | refine hs_ne (by omega) ?_ | assumption)), (by repeat (first | exact hs_eq _ _ _ | refine hs_ne (by omega) ?_ | assumption)), (by repeat (first | exact hs_eq _ _ _ | refine hs_ne (by omega) ?_ | assumption)), (by repeat (first | exact hs_eq _ _ _ | refine hs_ne (by omega) ?_ | assumption)), (by repeat (first | exact hs_eq _ _ _ | refine hs_ne (by omega) ?_ | assumption))⟩, fun aaa haa => by repeat (first | rfl | refine hs_ne (by omega) ?_)⟩))
                              | exact Or.inr (Or.inr (Or.inr (⟨by omega, (by first | rfl | (rw [hz21]; exact congrArg (fun qq => some (aI qq)) (by omega))), ⟨(by repeat (first | exact hs_eq _ _ _ | refine hs_ne (by omega) ?_ | assumption)), (by repeat (first | exact hs_eq _ _ _ | refine hs_ne (by omega) ?_ | assumption)), (by repeat (first | exact hs_eq _ _ _ | refine hs_ne (by omega) ?_ | assumption)), (by repeat (first | exact hs_eq _ _ _ | refine hs_ne (by omega) ?_ | assumption)), (by repeat (first | exact hs_eq _ _ _ | refine hs_ne (by omega) ?_ | assumption)), (by repeat (first | exact hs_eq _ _ _ | refine hs_ne (by omega) ?_ | assumption))⟩, fun aaa haa => by repeat (first | rfl | refine hs_ne (by omega) ?_)⟩)))))
                    · try (exfalso; omega)
                      all_goals (
                        refine k_iconst C dX8_hire_42 ?_
                        refine k_goto (tgt := 47) C dX8_hire_43 (by decide) ?_
                        refine k_put C (k := 5) inX8 tyX8_ok nmX8 (ci := 8) rfl (by decide) fl_X8_25 rfl (Nat.le_of_ble_eq_true rfl) dX8_hire_47 (by repeat (first | exact hs_eq _ _ _ | refine hs_ne (by omega) ?_ | assumption)) ?_
                        refine k_aload_n C dX8_hire_50 rfl ?_
                        refine k_get C (k := 5) inX8 (ci := 8) rfl (by decide) fl_X8_25 dX8_hire_51 (by repeat (first | exact hs_eq _ _ _ | refine hs_ne (by omega) ?_ | assumption)) rfl ?_
                        refine k_if_le (tgt := 59) C dX8_hire_54 (by decide) ⟨by omega, by omega⟩ (fun c54 => ?_) (fun c54 => ?_)
                        · try (exfalso; omega)
                          all_goals (
                            refine k_aload_n C dX8_hire_59 rfl ?_
                            refine k_callV C (n := 0) (as := []) (ct_X8_save l D tc base oo zrr hhi htx has hro st ln (0) re du hsh _ ⟨(by repeat (first | exact hs_eq _ _ _ | refine hs_ne (by omega) ?_ | assumption)), (by repeat (first | exact hs_eq _ _ _ | refine hs_ne (by omega) ?_ | assumption)), (by repeat (first | exact hs_eq _ _ _ | refine hs_ne (by omega) ?_ | assumption)), (by repeat (first | exact hs_eq _ _ _ | refine hs_ne (by omega) ?_ | assumption)), (by repeat (first | exact hs_eq _ _ _ | refine hs_ne (by omega) ?_ | assumption)), (by repeat (first | exact hs_eq _ _ _ | refine hs_ne (by omega) ?_ | assumption))⟩ hst) ml_X8_102 im_X8_save se_X8_save ini_X8 co_X8_save ⟨rfl, by decide, by decide, by decide +kernel⟩ rfl (ci := 8) rfl (by repeat (first | exact hs_eq _ _ _ | refine hs_ne (by omega) ?_ | assumption)) ⟨by decide, by decide⟩ rfl (Nat.le_of_ble_eq_true rfl) ⟨Nat.zero_le _, Nat.zero_le _⟩ dX8_hire_60 ?_
                            rintro _ _ ⟨rfl, hM1, hF1⟩
                            obtain ⟨k0, k1, k2, k3, k4, k5⟩ := id hM1
                            refine k_aload_n C dX8_hire_63 rfl ?_
                            refine k_iload_n C dX8_hire_64 rfl ?_
                            refine k_iload_n C dX8_hire_65 rfl ?_
                            refine k_iload_n C dX8_hire_66 rfl ?_
                            refine k_callV C (n := 3) (as := [_, _, _]) (ct_X8_comes l D tc base oo zrr _ _ _ _ _ _ _ _ _ _ _ hM1 _ _ _ ⟨by omega, by omega⟩) ml_X8_115 im_X8_comes se_X8_comes ini_X8 co_X8_comes ⟨rfl, by decide, by decide, by decide +kernel⟩ rfl (ci := 8) rfl (by repeat (first | exact hs_eq _ _ _ | refine hs_ne (by omega) ?_ | assumption)) ⟨by decide, by decide⟩ rfl (Nat.le_of_ble_eq_true rfl) ⟨Nat.zero_le _, Nat.zero_le _⟩ dX8_hire_67 ?_
                            rintro _ _ ⟨rfl, hM2, hF2⟩
                            obtain ⟨k0, k1, k2, k3, k4, k5⟩ := id hM2
                            have hz21 : zComes zrr ww tt pd 21 = zrr 21 + 1 := iu_eq _ _ _
                            refine k_aload_n C dX8_hire_70 rfl ?_
                            refine k_get C (k := 0) inX8 (ci := 8) rfl (by decide) fl_X8_7 dX8_hire_71 (by repeat (first | exact hs_eq _ _ _ | refine hs_ne (by omega) ?_ | assumption)) rfl ?_
                            refine k_bipush C dX8_hire_74 (by decide +kernel) ?_
                            refine k_iaload C dX8_hire_76 (by repeat (first | exact hs_eq _ _ _ | refine hs_ne (by omega) ?_ | assumption)) (by omega) (by omega) (by omega) ?_
                            refine k_iconst C dX8_hire_77 ?_
                            refine k_isub C dX8_hire_78 ?_
                            refine k_iret C hr dX8_hire_79 ?_
                            first
                              | exact Or.inl ⟨by omega, (by first | rfl | (rw [hz21]; exact congrArg (fun qq => some (aI qq)) (by omega))), ⟨(by repeat (first | exact hs_eq _ _ _ | refine hs_ne (by omega) ?_ | assumption)), (by repeat (first | exact hs_eq _ _ _ | refine hs_ne (by omega) ?_ | assumption)), (by repeat (first | exact hs_eq _ _ _ | refine hs_ne (by omega) ?_ | assumption)), (by repeat (first | exact hs_eq _ _ _ | refine hs_ne (by omega) ?_ | assumption)), (by repeat (first | exact hs_eq _ _ _ | refine hs_ne (by omega) ?_ | assumption)), (by repeat (first | exact hs_eq _ _ _ | refine hs_ne (by omega) ?_ | assumption))⟩, Fr.tr (Fr.tr (fun aaa haa => by repeat (first | rfl | refine hs_ne (by omega) ?_)) hF1) hF2⟩
                              | exact Or.inr (Or.inl ⟨by omega, (by first | rfl | (rw [hz21]; exact congrArg (fun qq => some (aI qq)) (by omega))), ⟨(by repeat (first | exact hs_eq _ _ _ | refine hs_ne (by omega) ?_ | assumption)), (by repeat (first | exact hs_eq _ _ _ | refine hs_ne (by omega) ?_ | assumption)), (by repeat (first | exact hs_eq _ _ _ | refine hs_ne (by omega) ?_ | assumption)), (by repeat (first | exact hs_eq _ _ _ | refine hs_ne (by omega) ?_ | assumption)), (by repeat (first | exact hs_eq _ _ _ | refine hs_ne (by omega) ?_ | assumption)), (by repeat (first | exact hs_eq _ _ _ | refine hs_ne (by omega) ?_ | assumption))⟩, fun aaa haa => by repeat (first | rfl | refine hs_ne (by omega) ?_)⟩)
                              | exact Or.inr (Or.inr (Or.inl ⟨by omega, (by first | rfl | (rw [hz21]; exact congrArg (fun qq => some (aI qq)) (by omega))), ⟨(by repeat (first | exact hs_eq _ _ _ | refine hs_ne (by omega) ?_ | assumption)), (by repeat (first | exact hs_eq _ _ _ | refine hs_ne (by omega) ?_ | assumption)), (by repeat (first | exact hs_eq _ _ _ | refine hs_ne (by omega) ?_ | assumption)), (by repeat (first | exact hs_eq _ _ _ | refine hs_ne (by omega) ?_ | assumption)), (by repeat (first | exact hs_eq _ _ _ | refine hs_ne (by omega) ?_ | assumption)), (by repeat (first | exact hs_eq _ _ _ | refine hs_ne (by omega) ?_ | assumption))⟩, fun aaa haa => by repeat (first | rfl | refine hs_ne (by omega) ?_)⟩))
                              | exact Or.inr (Or.inr (Or.inr (⟨by omega, (by first | rfl | (rw [hz21]; exact congrArg (fun qq => some (aI qq)) (by omega))), ⟨(by repeat (first | exact hs_eq _ _ _ | refine hs_ne (by omega) ?_ | assumption)), (by repeat (first | exact hs_eq _ _ _ | refine hs_ne (by omega) ?_ | assumption)), (by repeat (first | exact hs_eq _ _ _ | refine hs_ne (by omega) ?_ | assumption)), (by repeat (first | exact hs_eq _ _ _ | refine hs_ne (by omega) ?_ | assumption)), (by repeat (first | exact hs_eq _ _ _ | refine hs_ne (by omega) ?_ | assumption)), (by repeat (first | exact hs_eq _ _ _ | refine hs_ne (by omega) ?_ | assumption))⟩, fun aaa haa => by repeat (first | rfl | refine hs_ne (by omega) ?_)⟩))))
                        · try (exfalso; omega)
                          all_goals (
                            refine k_iconst C dX8_hire_57 ?_
                            refine k_iret C hr dX8_hire_58 ?_
                            first
                              | exact Or.inl ⟨by omega, (by first | rfl | (rw [hz21]; exact congrArg (fun qq => some (aI qq)) (by omega))), ⟨(by repeat (first | exact hs_eq _ _ _ | refine hs_ne (by omega) ?_ | assumption)), (by repeat (first | exact hs_eq _ _ _ | refine hs_ne (by omega) ?_ | assumption)), (by repeat (first | exact hs_eq _ _ _ | refine hs_ne (by omega) ?_ | assumption)), (by repeat (first | exact hs_eq _ _ _ | refine hs_ne (by omega) ?_ | assumption)), (by repeat (first | exact hs_eq _ _ _ | refine hs_ne (by omega) ?_ | assumption)), (by repeat (first | exact hs_eq _ _ _ | refine hs_ne (by omega) ?_ | assumption))⟩, Fr.tr (Fr.tr (fun aaa haa => by repeat (first | rfl | refine hs_ne (by omega) ?_)) hF1) hF2⟩
                              | exact Or.inr (Or.inl ⟨by omega, (by first | rfl | (rw [hz21]; exact congrArg (fun qq => some (aI qq)) (by omega))), ⟨(by repeat (first | exact hs_eq _ _ _ | refine hs_ne (by omega) ?_ | assumption)), (by repeat (first | exact hs_eq _ _ _ | refine hs_ne (by omega) ?_ | assumption)), (by repeat (first | exact hs_eq _ _ _ | refine hs_ne (by omega) ?_ | assumption)), (by repeat (first | exact hs_eq _ _ _ | refine hs_ne (by omega) ?_ | assumption)), (by repeat (first | exact hs_eq _ _ _ | refine hs_ne (by omega) ?_ | assumption)), (by repeat (first | exact hs_eq _ _ _ | refine hs_ne (by omega) ?_ | assumption))⟩, fun aaa haa => by repeat (first | rfl | refine hs_ne (by omega) ?_)⟩)
                              | exact Or.inr (Or.inr (Or.inl ⟨by omega, (by first | rfl | (rw [hz21]; exact congrArg (fun qq => some (aI qq)) (by omega))), ⟨(by repeat (first | exact hs_eq _ _ _ | refine hs_ne (by omega) ?_ | assumption)), (by repeat (first | exact hs_eq _ _ _ | refine hs_ne (by omega) ?_ | assumption)), (by repeat (first | exact hs_eq _ _ _ | refine hs_ne (by omega) ?_ | assumption)), (by repeat (first | exact hs_eq _ _ _ | refine hs_ne (by omega) ?_ | assumption)), (by repeat (first | exact hs_eq _ _ _ | refine hs_ne (by omega) ?_ | assumption)), (by repeat (first | exact hs_eq _ _ _ | refine hs_ne (by omega) ?_ | assumption))⟩, fun aaa haa => by repeat (first | rfl | refine hs_ne (by omega) ?_)⟩))
                              | exact Or.inr (Or.inr (Or.inr (⟨by omega, (by first | rfl | (rw [hz21]; exact congrArg (fun qq => some (aI qq)) (by omega))), ⟨(by repeat (first | exact hs_eq _ _ _ | refine hs_ne (by omega) ?_ | assumption)), (by repeat (first | exact hs_eq _ _ _ | refine hs_ne (by omega) ?_ | assumption)), (by repeat (first | exact hs_eq _ _ _ | refine hs_ne (by omega) ?_ | assumption)), (by repeat (first | exact hs_eq _ _ _ | refine hs_ne (by omega) ?_ | assumption)), (by repeat (first | exact hs_eq _ _ _ | refine hs_ne (by omega) ?_ | assumption)), (by repeat (first | exact hs_eq _ _ _ | refine hs_ne (by omega) ?_ | assumption))⟩, fun aaa haa => by repeat (first | rfl | refine hs_ne (by omega) ?_)⟩))))))
                · try (exfalso; omega)
                  all_goals (
                    refine k_iconst C dX8_hire_26 ?_
                    refine k_goto (tgt := 47) C dX8_hire_27 (by decide) ?_
                    refine k_put C (k := 5) inX8 tyX8_ok nmX8 (ci := 8) rfl (by decide) fl_X8_25 rfl (Nat.le_of_ble_eq_true rfl) dX8_hire_47 (by repeat (first | exact hs_eq _ _ _ | refine hs_ne (by omega) ?_ | assumption)) ?_
                    refine k_aload_n C dX8_hire_50 rfl ?_
                    refine k_get C (k := 5) inX8 (ci := 8) rfl (by decide) fl_X8_25 dX8_hire_51 (by repeat (first | exact hs_eq _ _ _ | refine hs_ne (by omega) ?_ | assumption)) rfl ?_
                    refine k_if_le (tgt := 59) C dX8_hire_54 (by decide) ⟨by omega, by omega⟩ (fun c54 => ?_) (fun c54 => ?_)
                    · try (exfalso; omega)
                      all_goals (
                        refine k_aload_n C dX8_hire_59 rfl ?_
                        refine k_callV C (n := 0) (as := []) (ct_X8_save l D tc base oo zrr hhi htx has hro st ln (0) re du hsh _ ⟨(by repeat (first | exact hs_eq _ _ _ | refine hs_ne (by omega) ?_ | assumption)), (by repeat (first | exact hs_eq _ _ _ | refine hs_ne (by omega) ?_ | assumption)), (by repeat (first | exact hs_eq _ _ _ | refine hs_ne (by omega) ?_ | assumption)), (by repeat (first | exact hs_eq _ _ _ | refine hs_ne (by omega) ?_ | assumption)), (by repeat (first | exact hs_eq _ _ _ | refine hs_ne (by omega) ?_ | assumption)), (by repeat (first | exact hs_eq _ _ _ | refine hs_ne (by omega) ?_ | assumption))⟩ hst) ml_X8_102 im_X8_save se_X8_save ini_X8 co_X8_save ⟨rfl, by decide, by decide, by decide +kernel⟩ rfl (ci := 8) rfl (by repeat (first | exact hs_eq _ _ _ | refine hs_ne (by omega) ?_ | assumption)) ⟨by decide, by decide⟩ rfl (Nat.le_of_ble_eq_true rfl) ⟨Nat.zero_le _, Nat.zero_le _⟩ dX8_hire_60 ?_
                        rintro _ _ ⟨rfl, hM1, hF1⟩
                        obtain ⟨k0, k1, k2, k3, k4, k5⟩ := id hM1
                        refine k_aload_n C dX8_hire_63 rfl ?_
                        refine k_iload_n C dX8_hire_64 rfl ?_
                        refine k_iload_n C dX8_hire_65 rfl ?_
                        refine k_iload_n C dX8_hire_66 rfl ?_
                        refine k_callV C (n := 3) (as := [_, _, _]) (ct_X8_comes l D tc base oo zrr _ _ _ _ _ _ _ _ _ _ _ hM1 _ _ _ ⟨by omega, by omega⟩) ml_X8_115 im_X8_comes se_X8_comes ini_X8 co_X8_comes ⟨rfl, by decide, by decide, by decide +kernel⟩ rfl (ci := 8) rfl (by repeat (first | exact hs_eq _ _ _ | refine hs_ne (by omega) ?_ | assumption)) ⟨by decide, by decide⟩ rfl (Nat.le_of_ble_eq_true rfl) ⟨Nat.zero_le _, Nat.zero_le _⟩ dX8_hire_67 ?_
                        rintro _ _ ⟨rfl, hM2, hF2⟩
                        obtain ⟨k0, k1, k2, k3, k4, k5⟩ := id hM2
                        have hz21 : zComes zrr ww tt pd 21 = zrr 21 + 1 := iu_eq _ _ _
                        refine k_aload_n C dX8_hire_70 rfl ?_
                        refine k_get C (k := 0) inX8 (ci := 8) rfl (by decide) fl_X8_7 dX8_hire_71 (by repeat (first | exact hs_eq _ _ _ | refine hs_ne (by omega) ?_ | assumption)) rfl ?_
                        refine k_bipush C dX8_hire_74 (by decide +kernel) ?_
                        refine k_iaload C dX8_hire_76 (by repeat (first | exact hs_eq _ _ _ | refine hs_ne (by omega) ?_ | assumption)) (by omega) (by omega) (by omega) ?_
                        refine k_iconst C dX8_hire_77 ?_
                        refine k_isub C dX8_hire_78 ?_
                        refine k_iret C hr dX8_hire_79 ?_
                        first
                          | exact Or.inl ⟨by omega, (by first | rfl | (rw [hz21]; exact congrArg (fun qq => some (aI qq)) (by omega))), ⟨(by repeat (first | exact hs_eq _ _ _ | refine hs_ne (by omega) ?_ | assumption)), (by repeat (first | exact hs_eq _ _ _ | refine hs_ne (by omega) ?_ | assumption)), (by repeat (first | exact hs_eq _ _ _ | refine hs_ne (by omega) ?_ | assumption)), (by repeat (first | exact hs_eq _ _ _ | refine hs_ne (by omega) ?_ | assumption)), (by repeat (first | exact hs_eq _ _ _ | refine hs_ne (by omega) ?_ | assumption)), (by repeat (first | exact hs_eq _ _ _ | refine hs_ne (by omega) ?_ | assumption))⟩, Fr.tr (Fr.tr (fun aaa haa => by repeat (first | rfl | refine hs_ne (by omega) ?_)) hF1) hF2⟩
                          | exact Or.inr (Or.inl ⟨by omega, (by first | rfl | (rw [hz21]; exact congrArg (fun qq => some (aI qq)) (by omega))), ⟨(by repeat (first | exact hs_eq _ _ _ | refine hs_ne (by omega) ?_ | assumption)), (by repeat (first | exact hs_eq _ _ _ | refine hs_ne (by omega) ?_ | assumption)), (by repeat (first | exact hs_eq _ _ _ | refine hs_ne (by omega) ?_ | assumption)), (by repeat (first | exact hs_eq _ _ _ | refine hs_ne (by omega) ?_ | assumption)), (by repeat (first | exact hs_eq _ _ _ | refine hs_ne (by omega) ?_ | assumption)), (by repeat (first | exact hs_eq _ _ _ | refine hs_ne (by omega) ?_ | assumption))⟩, fun aaa haa => by repeat (first | rfl | refine hs_ne (by omega) ?_)⟩)
                          | exact Or.inr (Or.inr (Or.inl ⟨by omega, (by first | rfl | (rw [hz21]; exact congrArg (fun qq => some (aI qq)) (by omega))), ⟨(by repeat (first | exact hs_eq _ _ _ | refine hs_ne (by omega) ?_ | assumption)), (by repeat (first | exact hs_eq _ _ _ | refine hs_ne (by omega) ?_ | assumption)), (by repeat (first | exact hs_eq _ _ _ | refine hs_ne (by omega) ?_ | assumption)), (by repeat (first | exact hs_eq _ _ _ | refine hs_ne (by omega) ?_ | assumption)), (by repeat (first | exact hs_eq _ _ _ | refine hs_ne (by omega) ?_ | assumption)), (by repeat (first | exact hs_eq _ _ _ | refine hs_ne (by omega) ?_ | assumption))⟩, fun aaa haa => by repeat (first | rfl | refine hs_ne (by omega) ?_)⟩))
                          | exact Or.inr (Or.inr (Or.inr (⟨by omega, (by first | rfl | (rw [hz21]; exact congrArg (fun qq => some (aI qq)) (by omega))), ⟨(by repeat (first | exact hs_eq _ _ _ | refine hs_ne (by omega) ?_ | assumption)), (by repeat (first | exact hs_eq _ _ _ | refine hs_ne (by omega) ?_ | assumption)), (by repeat (first | exact hs_eq _ _ _ | refine hs_ne (by omega) ?_ | assumption)), (by repeat (first | exact hs_eq _ _ _ | refine hs_ne (by omega) ?_ | assumption)), (by repeat (first | exact hs_eq _ _ _ | refine hs_ne (by omega) ?_ | assumption)), (by repeat (first | exact hs_eq _ _ _ | refine hs_ne (by omega) ?_ | assumption))⟩, fun aaa haa => by repeat (first | rfl | refine hs_ne (by omega) ?_)⟩))))
                    · try (exfalso; omega)
                      all_goals (
                        refine k_iconst C dX8_hire_57 ?_
                        refine k_iret C hr dX8_hire_58 ?_
                        first
                          | exact Or.inl ⟨by omega, (by first | rfl | (rw [hz21]; exact congrArg (fun qq => some (aI qq)) (by omega))), ⟨(by repeat (first | exact hs_eq _ _ _ | refine hs_ne (by omega) ?_ | assumption)), (by repeat (first | exact hs_eq _ _ _ | refine hs_ne (by omega) ?_ | assumption)), (by repeat (first | exact hs_eq _ _ _ | refine hs_ne (by omega) ?_ | assumption)), (by repeat (first | exact hs_eq _ _ _ | refine hs_ne (by omega) ?_ | assumption)), (by repeat (first | exact hs_eq _ _ _ | refine hs_ne (by omega) ?_ | assumption)), (by repeat (first | exact hs_eq _ _ _ | refine hs_ne (by omega) ?_ | assumption))⟩, Fr.tr (Fr.tr (fun aaa haa => by repeat (first | rfl | refine hs_ne (by omega) ?_)) hF1) hF2⟩
                          | exact Or.inr (Or.inl ⟨by omega, (by first | rfl | (rw [hz21]; exact congrArg (fun qq => some (aI qq)) (by omega))), ⟨(by repeat (first | exact hs_eq _ _ _ | refine hs_ne (by omega) ?_ | assumption)), (by repeat (first | exact hs_eq _ _ _ | refine hs_ne (by omega) ?_ | assumption)), (by repeat (first | exact hs_eq _ _ _ | refine hs_ne (by omega) ?_ | assumption)), (by repeat (first | exact hs_eq _ _ _ | refine hs_ne (by omega) ?_ | assumption)), (by repeat (first | exact hs_eq _ _ _ | refine hs_ne (by omega) ?_ | assumption)), (by repeat (first | exact hs_eq _ _ _ | refine hs_ne (by omega) ?_ | assumption))⟩, fun aaa haa => by repeat (first | rfl | refine hs_ne (by omega) ?_)⟩)
                          | exact Or.inr (Or.inr (Or.inl ⟨by omega, (by first | rfl | (rw [hz21]; exact congrArg (fun qq => some (aI qq)) (by omega))), ⟨(by repeat (first | exact hs_eq _ _ _ | refine hs_ne (by omega) ?_ | assumption)), (by repeat (first | exact hs_eq _ _ _ | refine hs_ne (by omega) ?_ | assumption)), (by repeat (first | exact hs_eq _ _ _ | refine hs_ne (by omega) ?_ | assumption)), (by repeat (first | exact hs_eq _ _ _ | refine hs_ne (by omega) ?_ | assumption)), (by repeat (first | exact hs_eq _ _ _ | refine hs_ne (by omega) ?_ | assumption)), (by repeat (first | exact hs_eq _ _ _ | refine hs_ne (by omega) ?_ | assumption))⟩, fun aaa haa => by repeat (first | rfl | refine hs_ne (by omega) ?_)⟩))
                          | exact Or.inr (Or.inr (Or.inr (⟨by omega, (by first | rfl | (rw [hz21]; exact congrArg (fun qq => some (aI qq)) (by omega))), ⟨(by repeat (first | exact hs_eq _ _ _ | refine hs_ne (by omega) ?_ | assumption)), (by repeat (first | exact hs_eq _ _ _ | refine hs_ne (by omega) ?_ | assumption)), (by repeat (first | exact hs_eq _ _ _ | refine hs_ne (by omega) ?_ | assumption)), (by repeat (first | exact hs_eq _ _ _ | refine hs_ne (by omega) ?_ | assumption)), (by repeat (first | exact hs_eq _ _ _ | refine hs_ne (by omega) ?_ | assumption)), (by repeat (first | exact hs_eq _ _ _ | refine hs_ne (by omega) ?_ | assumption))⟩, fun aaa haa => by repeat (first | rfl | refine hs_ne (by omega) ?_)⟩)))))
              · skip
                refine k_if_ne (tgt := 30) C dX8_hire_23 (by decide) ⟨by omega, by omega⟩ (fun c23 => ?_) (fun c23 => ?_)
                · try (exfalso; omega)
                  all_goals (
                    refine k_aload_n C dX8_hire_30 rfl ?_
                    refine k_get C (k := 0) inX8 (ci := 8) rfl (by decide) fl_X8_7 dX8_hire_31 (by repeat (first | exact hs_eq _ _ _ | refine hs_ne (by omega) ?_ | assumption)) rfl ?_
                    refine k_bipush C dX8_hire_34 (by decide +kernel) ?_
                    refine k_iaload C dX8_hire_36 (by repeat (first | exact hs_eq _ _ _ | refine hs_ne (by omega) ?_ | assumption)) (by omega) (by omega) (by omega) ?_
                    refine k_bipush C dX8_hire_37 (by decide +kernel) ?_
                    refine k_icmp_ne (tgt := 46) C dX8_hire_39 (by decide) ⟨by omega, by omega⟩ ⟨by omega, by omega⟩ (fun c39 => ?_) (fun c39 => ?_)
                    · try (exfalso; omega)
                      all_goals (
                        refine k_iconst C dX8_hire_46 ?_
                        refine k_put C (k := 5) inX8 tyX8_ok nmX8 (ci := 8) rfl (by decide) fl_X8_25 rfl (Nat.le_of_ble_eq_true rfl) dX8_hire_47 (by repeat (first | exact hs_eq _ _ _ | refine hs_ne (by omega) ?_ | assumption)) ?_
                        refine k_aload_n C dX8_hire_50 rfl ?_
                        refine k_get C (k := 5) inX8 (ci := 8) rfl (by decide) fl_X8_25 dX8_hire_51 (by repeat (first | exact hs_eq _ _ _ | refine hs_ne (by omega) ?_ | assumption)) rfl ?_
                        refine k_if_le (tgt := 59) C dX8_hire_54 (by decide) ⟨by omega, by omega⟩ (fun c54 => ?_) (fun c54 => ?_)
                        · try (exfalso; omega)
                          all_goals (
                            refine k_aload_n C dX8_hire_59 rfl ?_
                            refine k_callV C (n := 0) (as := []) (ct_X8_save l D tc base oo zrr hhi htx has hro st ln (0) re du hsh _ ⟨(by repeat (first | exact hs_eq _ _ _ | refine hs_ne (by omega) ?_ | assumption)), (by repeat (first | exact hs_eq _ _ _ | refine hs_ne (by omega) ?_ | assumption)), (by repeat (first | exact hs_eq _ _ _ | refine hs_ne (by omega) ?_ | assumption)), (by repeat (first | exact hs_eq _ _ _ | refine hs_ne (by omega) ?_ | assumption)), (by repeat (first | exact hs_eq _ _ _ | refine hs_ne (by omega) ?_ | assumption)), (by repeat (first | exact hs_eq _ _ _ | refine hs_ne (by omega) ?_ | assumption))⟩ hst) ml_X8_102 im_X8_save se_X8_save ini_X8 co_X8_save ⟨rfl, by decide, by decide, by decide +kernel⟩ rfl (ci := 8) rfl (by repeat (first | exact hs_eq _ _ _ | refine hs_ne (by omega) ?_ | assumption)) ⟨by decide, by decide⟩ rfl (Nat.le_of_ble_eq_true rfl) ⟨Nat.zero_le _, Nat.zero_le _⟩ dX8_hire_60 ?_
                            rintro _ _ ⟨rfl, hM1, hF1⟩
                            obtain ⟨k0, k1, k2, k3, k4, k5⟩ := id hM1
                            refine k_aload_n C dX8_hire_63 rfl ?_
                            refine k_iload_n C dX8_hire_64 rfl ?_
                            refine k_iload_n C dX8_hire_65 rfl ?_
                            refine k_iload_n C dX8_hire_66 rfl ?_
                            refine k_callV C (n := 3) (as := [_, _, _]) (ct_X8_comes l D tc base oo zrr _ _ _ _ _ _ _ _ _ _ _ hM1 _ _ _ ⟨by omega, by omega⟩) ml_X8_115 im_X8_comes se_X8_comes ini_X8 co_X8_comes ⟨rfl, by decide, by decide, by decide +kernel⟩ rfl (ci := 8) rfl (by repeat (first | exact hs_eq _ _ _ | refine hs_ne (by omega) ?_ | assumption)) ⟨by decide, by decide⟩ rfl (Nat.le_of_ble_eq_true rfl) ⟨Nat.zero_le _, Nat.zero_le _⟩ dX8_hire_67 ?_
                            rintro _ _ ⟨rfl, hM2, hF2⟩
                            obtain ⟨k0, k1, k2, k3, k4, k5⟩ := id hM2
                            have hz21 : zComes zrr ww tt pd 21 = zrr 21 + 1 := iu_eq _ _ _
                            refine k_aload_n C dX8_hire_70 rfl ?_
                            refine k_get C (k := 0) inX8 (ci := 8) rfl (by decide) fl_X8_7 dX8_hire_71 (by repeat (first | exact hs_eq _ _ _ | refine hs_ne (by omega) ?_ | assumption)) rfl ?_
                            refine k_bipush C dX8_hire_74 (by decide +kernel) ?_
                            refine k_iaload C dX8_hire_76 (by repeat (first | exact hs_eq _ _ _ | refine hs_ne (by omega) ?_ | assumption)) (by omega) (by omega) (by omega) ?_
                            refine k_iconst C dX8_hire_77 ?_
                            refine k_isub C dX8_hire_78 ?_
                            refine k_iret C hr dX8_hire_79 ?_
                            first
                              | exact Or.inl ⟨by omega, (by first | rfl | (rw [hz21]; exact congrArg (fun qq => some (aI qq)) (by omega))), ⟨(by repeat (first | exact hs_eq _ _ _ | refine hs_ne (by omega) ?_ | assumption)), (by repeat (first | exact hs_eq _ _ _ | refine hs_ne (by omega) ?_ | assumption)), (by repeat (first | exact hs_eq _ _ _ | refine hs_ne (by omega) ?_ | assumption)), (by repeat (first | exact hs_eq _ _ _ | refine hs_ne (by omega) ?_ | assumption)), (by repeat (first | exact hs_eq _ _ _ | refine hs_ne (by omega) ?_ | assumption)), (by repeat (first | exact hs_eq _ _ _ | refine hs_ne (by omega) ?_ | assumption))⟩, Fr.tr (Fr.tr (fun aaa haa => by repeat (first | rfl | refine hs_ne (by omega) ?_)) hF1) hF2⟩
                              | exact Or.inr (Or.inl ⟨by omega, (by first | rfl | (rw [hz21]; exact congrArg (fun qq => some (aI qq)) (by omega))), ⟨(by repeat (first | exact hs_eq _ _ _ | refine hs_ne (by omega) ?_ | assumption)), (by repeat (first | exact hs_eq _ _ _ | refine hs_ne (by omega) ?_ | assumption)), (by repeat (first | exact hs_eq _ _ _ | refine hs_ne (by omega) ?_ | assumption)), (by repeat (first | exact hs_eq _ _ _ | refine hs_ne (by omega) ?_ | assumption)), (by repeat (first | exact hs_eq _ _ _ | refine hs_ne (by omega) ?_ | assumption)), (by repeat (first | exact hs_eq _ _ _ | refine hs_ne (by omega) ?_ | assumption))⟩, fun aaa haa => by repeat (first | rfl | refine hs_ne (by omega) ?_)⟩)
                              | exact Or.inr (Or.inr (Or.inl ⟨by omega, (by first | rfl | (rw [hz21]; exact congrArg (fun qq => some (aI qq)) (by omega))), ⟨(by repeat (first | exact hs_eq _ _ _ | refine hs_ne (by omega) ?_ | assumption)), (by repeat (first | exact hs_eq _ _ _ | refine hs_ne (by omega) ?_ | assumption)), (by repeat (first | exact hs_eq _ _ _ | refine hs_ne (by omega) ?_ | assumption)), (by repeat (first | exact hs_eq _ _ _ | refine hs_ne (by omega) ?_ | assumption)), (by repeat (first | exact hs_eq _ _ _ | refine hs_ne (by omega) ?_ | assumption)), (by repeat (first | exact hs_eq _ _ _ | refine hs_ne (by omega) ?_ | assumption))⟩, fun aaa haa => by repeat (first | rfl | refine hs_ne (by omega) ?_)⟩))
                              | exact Or.inr (Or.inr (Or.inr (⟨by omega, (by first | rfl | (rw [hz21]; exact congrArg (fun qq => some (aI qq)) (by omega))), ⟨(by repeat (first | exact hs_eq _ _ _ | refine hs_ne (by omega) ?_ | assumption)), (by repeat (first | exact hs_eq _ _ _ | refine hs_ne (by omega) ?_ | assumption)), (by repeat (first | exact hs_eq _ _ _ | refine hs_ne (by omega) ?_ | assumption)), (by repeat (first | exact hs_eq _ _ _ | refine hs_ne (by omega) ?_ | assumption)), (by repeat (first | exact hs_eq _ _ _ | refine hs_ne (by omega) ?_ | assumption)), (by repeat (first | exact hs_eq _ _ _ | refine hs_ne (by omega) ?_ | assumption))⟩, fun aaa haa => by repeat (first | rfl | refine hs_ne (by omega) ?_)⟩))))
                        · try (exfalso; omega)
                          all_goals (
                            refine k_iconst C dX8_hire_57 ?_
                            refine k_iret C hr dX8_hire_58 ?_
                            first
                              | exact Or.inl ⟨by omega, (by first | rfl | (rw [hz21]; exact congrArg (fun qq => some (aI qq)) (by omega))), ⟨(by repeat (first | exact hs_eq _ _ _ | refine hs_ne (by omega) ?_ | assumption)), (by repeat (first | exact hs_eq _ _ _ | refine hs_ne (by omega) ?_ | assumption)), (by repeat (first | exact hs_eq _ _ _ | refine hs_ne (by omega) ?_ | assumption)), (by repeat (first | exact hs_eq _ _ _ | refine hs_ne (by omega) ?_ | assumption)), (by repeat (first | exact hs_eq _ _ _ | refine hs_ne (by omega) ?_ | assumption)), (by repeat (first | exact hs_eq _ _ _ | refine hs_ne (by omega) ?_ | assumption))⟩, Fr.tr (Fr.tr (fun aaa haa => by repeat (first | rfl | refine hs_ne (by omega) ?_)) hF1) hF2⟩
                              | exact Or.inr (Or.inl ⟨by omega, (by first | rfl | (rw [hz21]; exact congrArg (fun qq => some (aI qq)) (by omega))), ⟨(by repeat (first | exact hs_eq _ _ _ | refine hs_ne (by omega) ?_ | assumption)), (by repeat (first | exact hs_eq _ _ _ | refine hs_ne (by omega) ?_ | assumption)), (by repeat (first | exact hs_eq _ _ _ | refine hs_ne (by omega) ?_ | assumption)), (by repeat (first | exact hs_eq _ _ _ | refine hs_ne (by omega) ?_ | assumption)), (by repeat (first | exact hs_eq _ _ _ | refine hs_ne (by omega) ?_ | assumption)), (by repeat (first | exact hs_eq _ _ _ | refine hs_ne (by omega) ?_ | assumption))⟩, fun aaa haa => by repeat (first | rfl | refine hs_ne (by omega) ?_)⟩)
                              | exact Or.inr (Or.inr (Or.inl ⟨by omega, (by first | rfl | (rw [hz21]; exact congrArg (fun qq => some (aI qq)) (by omega))), ⟨(by repeat (first | exact hs_eq _ _ _ | refine hs_ne (by omega) ?_ | assumption)), (by repeat (first | exact hs_eq _ _ _ | refine hs_ne (by omega) ?_ | assumption)), (by repeat (first | exact hs_eq _ _ _ | refine hs_ne (by omega) ?_ | assumption)), (by repeat (first | exact hs_eq _ _ _ | refine hs_ne (by omega) ?_ | assumption)), (by repeat (first | exact hs_eq _ _ _ | refine hs_ne (by omega) ?_ | assumption)), (by repeat (first | exact hs_eq _ _ _ | refine hs_ne (by omega) ?_ | assumption))⟩, fun aaa haa => by repeat (first | rfl | refine hs_ne (by omega) ?_)⟩))
                              | exact Or.inr (Or.inr (Or.inr (⟨by omega, (by first | rfl | (rw [hz21]; exact congrArg (fun qq => some (aI qq)) (by omega))), ⟨(by repeat (first | exact hs_eq _ _ _ | refine hs_ne (by omega) ?_ | assumption)), (by repeat (first | exact hs_eq _ _ _ | refine hs_ne (by omega) ?_ | assumption)), (by repeat (first | exact hs_eq _ _ _ | refine hs_ne (by omega) ?_ | assumption)), (by repeat (first | exact hs_eq _ _ _ | refine hs_ne (by omega) ?_ | assumption)), (by repeat (first | exact hs_eq _ _ _ | refine hs_ne (by omega) ?_ | assumption)), (by repeat (first | exact hs_eq _ _ _ | refine hs_ne (by omega) ?_ | assumption))⟩, fun aaa haa => by repeat (first | rfl | refine hs_ne (by omega) ?_)⟩)))))
                    · try (exfalso; omega)
                      all_goals (
                        refine k_iconst C dX8_hire_42 ?_
                        refine k_goto (tgt := 47) C dX8_hire_43 (by decide) ?_
                        refine k_put C (k := 5) inX8 tyX8_ok nmX8 (ci := 8) rfl (by decide) fl_X8_25 rfl (Nat.le_of_ble_eq_true rfl) dX8_hire_47 (by repeat (first | exact hs_eq _ _ _ | refine hs_ne (by omega) ?_ | assumption)) ?_
                        refine k_aload_n C dX8_hire_50 rfl ?_
                        refine k_get C (k := 5) inX8 (ci := 8) rfl (by decide) fl_X8_25 dX8_hire_51 (by repeat (first | exact hs_eq _ _ _ | refine hs_ne (by omega) ?_ | assumption)) rfl ?_
                        refine k_if_le (tgt := 59) C dX8_hire_54 (by decide) ⟨by omega, by omega⟩ (fun c54 => ?_) (fun c54 => ?_)
                        · try (exfalso; omega)
                          all_goals (
                            refine k_aload_n C dX8_hire_59 rfl ?_
                            refine k_callV C (n := 0) (as := []) (ct_X8_save l D tc base oo zrr hhi htx has hro st ln (0) re du hsh _ ⟨(by repeat (first | exact hs_eq _ _ _ | refine hs_ne (by omega) ?_ | assumption)), (by repeat (first | exact hs_eq _ _ _ | refine hs_ne (by omega) ?_ | assumption)), (by repeat (first | exact hs_eq _ _ _ | refine hs_ne (by omega) ?_ | assumption)), (by repeat (first | exact hs_eq _ _ _ | refine hs_ne (by omega) ?_ | assumption)), (by repeat (first | exact hs_eq _ _ _ | refine hs_ne (by omega) ?_ | assumption)), (by repeat (first | exact hs_eq _ _ _ | refine hs_ne (by omega) ?_ | assumption))⟩ hst) ml_X8_102 im_X8_save se_X8_save ini_X8 co_X8_save ⟨rfl, by decide, by decide, by decide +kernel⟩ rfl (ci := 8) rfl (by repeat (first | exact hs_eq _ _ _ | refine hs_ne (by omega) ?_ | assumption)) ⟨by decide, by decide⟩ rfl (Nat.le_of_ble_eq_true rfl) ⟨Nat.zero_le _, Nat.zero_le _⟩ dX8_hire_60 ?_
                            rintro _ _ ⟨rfl, hM1, hF1⟩
                            obtain ⟨k0, k1, k2, k3, k4, k5⟩ := id hM1
                            refine k_aload_n C dX8_hire_63 rfl ?_
                            refine k_iload_n C dX8_hire_64 rfl ?_
                            refine k_iload_n C dX8_hire_65 rfl ?_
                            refine k_iload_n C dX8_hire_66 rfl ?_
                            refine k_callV C (n := 3) (as := [_, _, _]) (ct_X8_comes l D tc base oo zrr _ _ _ _ _ _ _ _ _ _ _ hM1 _ _ _ ⟨by omega, by omega⟩) ml_X8_115 im_X8_comes se_X8_comes ini_X8 co_X8_comes ⟨rfl, by decide, by decide, by decide +kernel⟩ rfl (ci := 8) rfl (by repeat (first | exact hs_eq _ _ _ | refine hs_ne (by omega) ?_ | assumption)) ⟨by decide, by decide⟩ rfl (Nat.le_of_ble_eq_true rfl) ⟨Nat.zero_le _, Nat.zero_le _⟩ dX8_hire_67 ?_
                            rintro _ _ ⟨rfl, hM2, hF2⟩
                            obtain ⟨k0, k1, k2, k3, k4, k5⟩ := id hM2
                            have hz21 : zComes zrr ww tt pd 21 = zrr 21 + 1 := iu_eq _ _ _
                            refine k_aload_n C dX8_hire_70 rfl ?_
                            refine k_get C (k := 0) inX8 (ci := 8) rfl (by decide) fl_X8_7 dX8_hire_71 (by repeat (first | exact hs_eq _ _ _ | refine hs_ne (by omega) ?_ | assumption)) rfl ?_
                            refine k_bipush C dX8_hire_74 (by decide +kernel) ?_
                            refine k_iaload C dX8_hire_76 (by repeat (first | exact hs_eq _ _ _ | refine hs_ne (by omega) ?_ | assumption)) (by omega) (by omega) (by omega) ?_
                            refine k_iconst C dX8_hire_77 ?_
                            refine k_isub C dX8_hire_78 ?_
                            refine k_iret C hr dX8_hire_79 ?_
                            first
                              | exact Or.inl ⟨by omega, (by first | rfl | (rw [hz21]; exact congrArg (fun qq => some (aI qq)) (by omega))), ⟨(by repeat (first | exact hs_eq _ _ _ | refine hs_ne (by omega) ?_ | assumption)), (by repeat (first | exact hs_eq _ _ _ | refine hs_ne (by omega) ?_ | assumption)), (by repeat (first | exact hs_eq _ _ _ | refine hs_ne (by omega) ?_ | assumption)), (by repeat (first | exact hs_eq _ _ _ | refine hs_ne (by omega) ?_ | assumption)), (by repeat (first | exact hs_eq _ _ _ | refine hs_ne (by omega) ?_ | assumption)), (by repeat (first | exact hs_eq _ _ _ | refine hs_ne (by omega) ?_ | assumption))⟩, Fr.tr (Fr.tr (fun aaa haa => by repeat (first | rfl | refine hs_ne (by omega) ?_)) hF1) hF2⟩
                              | exact Or.inr (Or.inl ⟨by omega, (by first | rfl | (rw [hz21]; exact congrArg (fun qq => some (aI qq)) (by omega))), ⟨(by repeat (first | exact hs_eq _ _ _ | refine hs_ne (by omega) ?_ | assumption)), (by repeat (first | exact hs_eq _ _ _ | refine hs_ne (by omega) ?_ | assumption)), (by repeat (first | exact hs_eq _ _ _ | refine hs_ne (by omega) ?_ | assumption)), (by repeat (first | exact hs_eq _ _ _ | refine hs_ne (by omega) ?_ | assumption)), (by repeat (first | exact hs_eq _ _ _ | refine hs_ne (by omega) ?_ | assumption)), (by repeat (first | exact hs_eq _ _ _ | refine hs_ne (by omega) ?_ | assumption))⟩, fun aaa haa => by repeat (first | rfl | refine hs_ne (by omega) ?_)⟩)
                              | exact Or.inr (Or.inr (Or.inl ⟨by omega, (by first | rfl | (rw [hz21]; exact congrArg (fun qq => some (aI qq)) (by omega))), ⟨(by repeat (first | exact hs_eq _ _ _ | refine hs_ne (by omega) ?_ | assumption)), (by repeat (first | exact hs_eq _ _ _ | refine hs_ne (by omega) ?_ | assumption)), (by repeat (first | exact hs_eq _ _ _ | refine hs_ne (by omega) ?_ | assumption)), (by repeat (first | exact hs_eq _ _ _ | refine hs_ne (by omega) ?_ | assumption)), (by repeat (first | exact hs_eq _ _ _ | refine hs_ne (by omega) ?_ | assumption)), (by repeat (first | exact hs_eq _ _ _ | refine hs_ne (by omega) ?_ | assumption))⟩, fun aaa haa => by repeat (first | rfl | refine hs_ne (by omega) ?_)⟩))
                              | exact Or.inr (Or.inr (Or.inr (⟨by omega, (by first | rfl | (rw [hz21]; exact congrArg (fun qq => some (aI qq)) (by omega))), ⟨(by repeat (first | exact hs_eq _ _ _ | refine hs_ne (by omega) ?_ | assumption)), (by repeat (first | exact hs_eq _ _ _ | refine hs_ne (by omega) ?_ | assumption)), (by repeat (first | exact hs_eq _ _ _ | refine hs_ne (by omega) ?_ | assumption)), (by repeat (first | exact hs_eq _ _ _ | refine hs_ne (by omega) ?_ | assumption)), (by repeat (first | exact hs_eq _ _ _ | refine hs_ne (by omega) ?_ | assumption)), (by repeat (first | exact hs_eq _ _ _ | refine hs_ne (by omega) ?_ | assumption))⟩, fun aaa haa => by repeat (first | rfl | refine hs_ne (by omega) ?_)⟩))))
                        · try (exfalso; omega)
                          all_goals (
                            refine k_iconst C dX8_hire_57 ?_
                            refine k_iret C hr dX8_hire_58 ?_
                            first
                              | exact Or.inl ⟨by omega, (by first | rfl | (rw [hz21]; exact congrArg (fun qq => some (aI qq)) (by omega))), ⟨(by repeat (first | exact hs_eq _ _ _ | refine hs_ne (by omega) ?_ | assumption)), (by repeat (first | exact hs_eq _ _ _ | refine hs_ne (by omega) ?_ | assumption)), (by repeat (first | exact hs_eq _ _ _ | refine hs_ne (by omega) ?_ | assumption)), (by repeat (first | exact hs_eq _ _ _ | refine hs_ne (by omega) ?_ | assumption)), (by repeat (first | exact hs_eq _ _ _ | refine hs_ne (by omega) ?_ | assumption)), (by repeat (first | exact hs_eq _ _ _ | refine hs_ne (by omega) ?_ | assumption))⟩, Fr.tr (Fr.tr (fun aaa haa => by repeat (first | rfl | refine hs_ne (by omega) ?_)) hF1) hF2⟩
                              | exact Or.inr (Or.inl ⟨by omega, (by first | rfl | (rw [hz21]; exact congrArg (fun qq => some (aI qq)) (by omega))), ⟨(by repeat (first | exact hs_eq _ _ _ | refine hs_ne (by omega) ?_ | assumption)), (by repeat (first | exact hs_eq _ _ _ | refine hs_ne (by omega) ?_ | assumption)), (by repeat (first | exact hs_eq _ _ _ | refine hs_ne (by omega) ?_ | assumption)), (by repeat (first | exact hs_eq _ _ _ | refine hs_ne (by omega) ?_ | assumption)), (by repeat (first | exact hs_eq _ _ _ | refine hs_ne (by omega) ?_ | assumption)), (by repeat (first | exact hs_eq _ _ _ | refine hs_ne (by omega) ?_ | assumption))⟩, fun aaa haa => by repeat (first | rfl | refine hs_ne (by omega) ?_)⟩)
                              | exact Or.inr (Or.inr (Or.inl ⟨by omega, (by first | rfl | (rw [hz21]; exact congrArg (fun qq => some (aI qq)) (by omega))), ⟨(by repeat (first | exact hs_eq _ _ _ | refine hs_ne (by omega) ?_ | assumption)), (by repeat (first | exact hs_eq _ _ _ | refine hs_ne (by omega) ?_ | assumption)), (by repeat (first | exact hs_eq _ _ _ | refine hs_ne (by omega) ?_ | assumption)), (by repeat (first | exact hs_eq _ _ _ | refine hs_ne (by omega) ?_ | assumption)), (by repeat (first | exact hs_eq _ _ _ | refine hs_ne (by omega) ?_ | assumption)), (by repeat (first | exact hs_eq _ _ _ | refine hs_ne (by omega) ?_ | assumption))⟩, fun aaa haa => by repeat (first | rfl | refine hs_ne (by omega) ?_)⟩))
                              | exact Or.inr (Or.inr (Or.inr (⟨by omega, (by first | rfl | (rw [hz21]; exact congrArg (fun qq => some (aI qq)) (by omega))), ⟨(by repeat (first | exact hs_eq _ _ _ | refine hs_ne (by omega) ?_ | assumption)), (by repeat (first | exact hs_eq _ _ _ | refine hs_ne (by omega) ?_ | assumption)), (by repeat (first | exact hs_eq _ _ _ | refine hs_ne (by omega) ?_ | assumption)), (by repeat (first | exact hs_eq _ _ _ | refine hs_ne (by omega) ?_ | assumption)), (by repeat (first | exact hs_eq _ _ _ | refine hs_ne (by omega) ?_ | assumption)), (by repeat (first | exact hs_eq _ _ _ | refine hs_ne (by omega) ?_ | assumption))⟩, fun aaa haa => by repeat (first | rfl | refine hs_ne (by omega) ?_)⟩))))))
                · try (exfalso; omega)
                  all_goals (
                    refine k_iconst C dX8_hire_26 ?_
                    refine k_goto (tgt := 47) C dX8_hire_27 (by decide) ?_
                    refine k_put C (k := 5) inX8 tyX8_ok nmX8 (ci := 8) rfl (by decide) fl_X8_25 rfl (Nat.le_of_ble_eq_true rfl) dX8_hire_47 (by repeat (first | exact hs_eq _ _ _ | refine hs_ne (by omega) ?_ | assumption)) ?_
                    refine k_aload_n C dX8_hire_50 rfl ?_
                    refine k_get C (k := 5) inX8 (ci := 8) rfl (by decide) fl_X8_25 dX8_hire_51 (by repeat (first | exact hs_eq _ _ _ | refine hs_ne (by omega) ?_ | assumption)) rfl ?_
                    refine k_if_le (tgt := 59) C dX8_hire_54 (by decide) ⟨by omega, by omega⟩ (fun c54 => ?_) (fun c54 => ?_)
                    · try (exfalso; omega)
                      all_goals (
                        refine k_aload_n C dX8_hire_59 rfl ?_
                        refine k_callV C (n := 0) (as := []) (ct_X8_save l D tc base oo zrr hhi htx has hro st ln (0) re du hsh _ ⟨(by repeat (first | exact hs_eq _ _ _ | refine hs_ne (by omega) ?_ | assumption)), (by repeat (first | exact hs_eq _ _ _ | refine hs_ne (by omega) ?_ | assumption)), (by repeat (first | exact hs_eq _ _ _ | refine hs_ne (by omega) ?_ | assumption)), (by repeat (first | exact hs_eq _ _ _ | refine hs_ne (by omega) ?_ | assumption)), (by repeat (first | exact hs_eq _ _ _ | refine hs_ne (by omega) ?_ | assumption)), (by repeat (first | exact hs_eq _ _ _ | refine hs_ne (by omega) ?_ | assumption))⟩ hst) ml_X8_102 im_X8_save se_X8_save ini_X8 co_X8_save ⟨rfl, by decide, by decide, by decide +kernel⟩ rfl (ci := 8) rfl (by repeat (first | exact hs_eq _ _ _ | refine hs_ne (by omega) ?_ | assumption)) ⟨by decide, by decide⟩ rfl (Nat.le_of_ble_eq_true rfl) ⟨Nat.zero_le _, Nat.zero_le _⟩ dX8_hire_60 ?_
                        rintro _ _ ⟨rfl, hM1, hF1⟩
                        obtain ⟨k0, k1, k2, k3, k4, k5⟩ := id hM1
                        refine k_aload_n C dX8_hire_63 rfl ?_
                        refine k_iload_n C dX8_hire_64 rfl ?_
                        refine k_iload_n C dX8_hire_65 rfl ?_
                        refine k_iload_n C dX8_hire_66 rfl ?_
                        refine k_callV C (n := 3) (as := [_, _, _]) (ct_X8_comes l D tc base oo zrr _ _ _ _ _ _ _ _ _ _ _ hM1 _ _ _ ⟨by omega, by omega⟩) ml_X8_115 im_X8_comes se_X8_comes ini_X8 co_X8_comes ⟨rfl, by decide, by decide, by decide +kernel⟩ rfl (ci := 8) rfl (by repeat (first | exact hs_eq _ _ _ | refine hs_ne (by omega) ?_ | assumption)) ⟨by decide, by decide⟩ rfl (Nat.le_of_ble_eq_true rfl) ⟨Nat.zero_le _, Nat.zero_le _⟩ dX8_hire_67 ?_
                        rintro _ _ ⟨rfl, hM2, hF2⟩
                        obtain ⟨k0, k1, k2, k3, k4, k5⟩ := id hM2
                        have hz21 : zComes zrr ww tt pd 21 = zrr 21 + 1 := iu_eq _ _ _
                        refine k_aload_n C dX8_hire_70 rfl ?_
                        refine k_get C (k := 0) inX8 (ci := 8) rfl (by decide) fl_X8_7 dX8_hire_71 (by repeat (first | exact hs_eq _ _ _ | refine hs_ne (by omega) ?_ | assumption)) rfl ?_
                        refine k_bipush C dX8_hire_74 (by decide +kernel) ?_
                        refine k_iaload C dX8_hire_76 (by repeat (first | exact hs_eq _ _ _ | refine hs_ne (by omega) ?_ | assumption)) (by omega) (by omega) (by omega) ?_
                        refine k_iconst C dX8_hire_77 ?_
                        refine k_isub C dX8_hire_78 ?_
                        refine k_iret C hr dX8_hire_79 ?_
                        first
                          | exact Or.inl ⟨by omega, (by first | rfl | (rw [hz21]; exact congrArg (fun qq => some (aI qq)) (by omega))), ⟨(by repeat (first | exact hs_eq _ _ _ | refine hs_ne (by omega) ?_ | assumption)), (by repeat (first | exact hs_eq _ _ _ | refine hs_ne (by omega) ?_ | assumption)), (by repeat (first | exact hs_eq _ _ _ | refine hs_ne (by omega) ?_ | assumption)), (by repeat (first | exact hs_eq _ _ _ | refine hs_ne (by omega) ?_ | assumption)), (by repeat (first | exact hs_eq _ _ _ | refine hs_ne (by omega) ?_ | assumption)), (by repeat (first | exact hs_eq _ _ _ | refine hs_ne (by omega) ?_ | assumption))⟩, Fr.tr (Fr.tr (fun aaa haa => by repeat (first | rfl | refine hs_ne (by omega) ?_)) hF1) hF2⟩
                          | exact Or.inr (Or.inl ⟨by omega, (by first | rfl | (rw [hz21]; exact congrArg (fun qq => some (aI qq)) (by omega))), ⟨(by repeat (first | exact hs_eq _ _ _ | refine hs_ne (by omega) ?_ | assumption)), (by repeat (first | exact hs_eq _ _ _ | refine hs_ne (by omega) ?_ | assumption)), (by repeat (first | exact hs_eq _ _ _ | refine hs_ne (by omega) ?_ | assumption)), (by repeat (first | exact hs_eq _ _ _ | refine hs_ne (by omega) ?_ | assumption)), (by repeat (first | exact hs_eq _ _ _ | refine hs_ne (by omega) ?_ | assumption)), (by repeat (first | exact hs_eq _ _ _ | refine hs_ne (by omega) ?_ | assumption))⟩, fun aaa haa => by repeat (first | rfl | refine hs_ne (by omega) ?_)⟩)
                          | exact Or.inr (Or.inr (Or.inl ⟨by omega, (by first | rfl | (rw [hz21]; exact congrArg (fun qq => some (aI qq)) (by omega))), ⟨(by repeat (first | exact hs_eq _ _ _ | refine hs_ne (by omega) ?_ | assumption)), (by repeat (first | exact hs_eq _ _ _ | refine hs_ne (by omega) ?_ | assumption)), (by repeat (first | exact hs_eq _ _ _ | refine hs_ne (by omega) ?_ | assumption)), (by repeat (first | exact hs_eq _ _ _ | refine hs_ne (by omega) ?_ | assumption)), (by repeat (first | exact hs_eq _ _ _ | refine hs_ne (by omega) ?_ | assumption)), (by repeat (first | exact hs_eq _ _ _ | refine hs_ne (by omega) ?_ | assumption))⟩, fun aaa haa => by repeat (first | rfl | refine hs_ne (by omega) ?_)⟩))
                          | exact Or.inr (Or.inr (Or.inr (⟨by omega, (by first | rfl | (rw [hz21]; exact congrArg (fun qq => some (aI qq)) (by omega))), ⟨(by repeat (first | exact hs_eq _ _ _ | refine hs_ne (by omega) ?_ | assumption)), (by repeat (first | exact hs_eq _ _ _ | refine hs_ne (by omega) ?_ | assumption)), (by repeat (first | exact hs_eq _ _ _ | refine hs_ne (by omega) ?_ | assumption)), (by repeat (first | exact hs_eq _ _ _ | refine hs_ne (by omega) ?_ | assumption)), (by repeat (first | exact hs_eq _ _ _ | refine hs_ne (by omega) ?_ | assumption)), (by repeat (first | exact hs_eq _ _ _ | refine hs_ne (by omega) ?_ | assumption))⟩, fun aaa haa => by repeat (first | rfl | refine hs_ne (by omega) ?_)⟩))))
                    · try (exfalso; omega)
                      all_goals (
                        refine k_iconst C dX8_hire_57 ?_
                        refine k_iret C hr dX8_hire_58 ?_
                        first
                          | exact Or.inl ⟨by omega, (by first | rfl | (rw [hz21]; exact congrArg (fun qq => some (aI qq)) (by omega))), ⟨(by repeat (first | exact hs_eq _ _ _ | refine hs_ne (by omega) ?_ | assumption)), (by repeat (first | exact hs_eq _ _ _ | refine hs_ne (by omega) ?_ | assumption)), (by repeat (first | exact hs_eq _ _ _ | refine hs_ne (by omega) ?_ | assumption)), (by repeat (first | exact hs_eq _ _ _ | refine hs_ne (by omega) ?_ | assumption)), (by repeat (first | exact hs_eq _ _ _ | refine hs_ne (by omega) ?_ | assumption)), (by repeat (first | exact hs_eq _ _ _ | refine hs_ne (by omega) ?_ | assumption))⟩, Fr.tr (Fr.tr (fun aaa haa => by repeat (first | rfl | refine hs_ne (by omega) ?_)) hF1) hF2⟩
                          | exact Or.inr (Or.inl ⟨by omega, (by first | rfl | (rw [hz21]; exact congrArg (fun qq => some (aI qq)) (by omega))), ⟨(by repeat (first | exact hs_eq _ _ _ | refine hs_ne (by omega) ?_ | assumption)), (by repeat (first | exact hs_eq _ _ _ | refine hs_ne (by omega) ?_ | assumption)), (by repeat (first | exact hs_eq _ _ _ | refine hs_ne (by omega) ?_ | assumption)), (by repeat (first | exact hs_eq _ _ _ | refine hs_ne (by omega) ?_ | assumption)), (by repeat (first | exact hs_eq _ _ _ | refine hs_ne (by omega) ?_ | assumption)), (by repeat (first | exact hs_eq _ _ _ | refine hs_ne (by omega) ?_ | assumption))⟩, fun aaa haa => by repeat (first | rfl | refine hs_ne (by omega) ?_)⟩)
                          | exact Or.inr (Or.inr (Or.inl ⟨by omega, (by first | rfl | (rw [hz21]; exact congrArg (fun qq => some (aI qq)) (by omega))), ⟨(by repeat (first | exact hs_eq _ _ _ | refine hs_ne (by omega) ?_ | assumption)), (by repeat (first | exact hs_eq _ _ _ | refine hs_ne (by omega) ?_ | assumption)), (by repeat (first | exact hs_eq _ _ _ | refine hs_ne (by omega) ?_ | assumption)), (by repeat (first | exact hs_eq _ _ _ | refine hs_ne (by omega) ?_ | assumption)), (by repeat (first | exact hs_eq _ _ _ | refine hs_ne (by omega) ?_ | assumption)), (by repeat (first | exact hs_eq _ _ _ | refine hs_ne (by omega) ?_ | assumption))⟩, fun aaa haa => by repeat (first | rfl | refine hs_ne (by omega) ?_)⟩))
                          | exact Or.inr (Or.inr (Or.inr (⟨by omega, (by first | rfl | (rw [hz21]; exact congrArg (fun qq => some (aI qq)) (by omega))), ⟨(by repeat (first | exact hs_eq _ _ _ | refine hs_ne (by omega) ?_ | assumption)), (by repeat (first | exact hs_eq _ _ _ | refine hs_ne (by omega) ?_ | assumption)), (by repeat (first | exact hs_eq _ _ _ | refine hs_ne (by omega) ?_ | assumption)), (by repeat (first | exact hs_eq _ _ _ | refine hs_ne (by omega) ?_ | assumption)), (by repeat (first | exact hs_eq _ _ _ | refine hs_ne (by omega) ?_ | assumption)), (by repeat (first | exact hs_eq _ _ _ | refine hs_ne (by omega) ?_ | assumption))⟩, fun aaa haa => by repeat (first | rfl | refine hs_ne (by omega) ?_)⟩)))))))
    · try (exfalso; omega)
      all_goals (
        refine k_iconst C dX8_hire_8 ?_
        refine k_goto (tgt := 47) C dX8_hire_9 (by decide) ?_
        refine k_put C (k := 5) inX8 tyX8_ok nmX8 (ci := 8) rfl (by decide) fl_X8_25 rfl (Nat.le_of_ble_eq_true rfl) dX8_hire_47 (by repeat (first | exact hs_eq _ _ _ | refine hs_ne (by omega) ?_ | assumption)) ?_
        refine k_aload_n C dX8_hire_50 rfl ?_
        refine k_get C (k := 5) inX8 (ci := 8) rfl (by decide) fl_X8_25 dX8_hire_51 (by repeat (first | exact hs_eq _ _ _ | refine hs_ne (by omega) ?_ | assumption)) rfl ?_
        refine k_if_le (tgt := 59) C dX8_hire_54 (by decide) ⟨by omega, by omega⟩ (fun c54 => ?_) (fun c54 => ?_)
        · try (exfalso; omega)
          all_goals (
            refine k_aload_n C dX8_hire_59 rfl ?_
            refine k_callV C (n := 0) (as := []) (ct_X8_save l D tc base oo zrr hhi htx has hro st ln (0) re du hsh _ ⟨(by repeat (first | exact hs_eq _ _ _ | refine hs_ne (by omega) ?_ | assumption)), (by repeat (first | exact hs_eq _ _ _ | refine hs_ne (by omega) ?_ | assumption)), (by repeat (first | exact hs_eq _ _ _ | refine hs_ne (by omega) ?_ | assumption)), (by repeat (first | exact hs_eq _ _ _ | refine hs_ne (by omega) ?_ | assumption)), (by repeat (first | exact hs_eq _ _ _ | refine hs_ne (by omega) ?_ | assumption)), (by repeat (first | exact hs_eq _ _ _ | refine hs_ne (by omega) ?_ | assumption))⟩ hst) ml_X8_102 im_X8_save se_X8_save ini_X8 co_X8_save ⟨rfl, by decide, by decide, by decide +kernel⟩ rfl (ci := 8) rfl (by repeat (first | exact hs_eq _ _ _ | refine hs_ne (by omega) ?_ | assumption)) ⟨by decide, by decide⟩ rfl (Nat.le_of_ble_eq_true rfl) ⟨Nat.zero_le _, Nat.zero_le _⟩ dX8_hire_60 ?_
            rintro _ _ ⟨rfl, hM1, hF1⟩
            obtain ⟨k0, k1, k2, k3, k4, k5⟩ := id hM1
            refine k_aload_n C dX8_hire_63 rfl ?_
            refine k_iload_n C dX8_hire_64 rfl ?_
            refine k_iload_n C dX8_hire_65 rfl ?_
            refine k_iload_n C dX8_hire_66 rfl ?_
            refine k_callV C (n := 3) (as := [_, _, _]) (ct_X8_comes l D tc base oo zrr _ _ _ _ _ _ _ _ _ _ _ hM1 _ _ _ ⟨by omega, by omega⟩) ml_X8_115 im_X8_comes se_X8_comes ini_X8 co_X8_comes ⟨rfl, by decide, by decide, by decide +kernel⟩ rfl (ci := 8) rfl (by repeat (first | exact hs_eq _ _ _ | refine hs_ne (by omega) ?_ | assumption)) ⟨by decide, by decide⟩ rfl (Nat.le_of_ble_eq_true rfl) ⟨Nat.zero_le _, Nat.zero_le _⟩ dX8_hire_67 ?_
            rintro _ _ ⟨rfl, hM2, hF2⟩
            obtain ⟨k0, k1, k2, k3, k4, k5⟩ := id hM2
            have hz21 : zComes zrr ww tt pd 21 = zrr 21 + 1 := iu_eq _ _ _
            refine k_aload_n C dX8_hire_70 rfl ?_
            refine k_get C (k := 0) inX8 (ci := 8) rfl (by decide) fl_X8_7 dX8_hire_71 (by repeat (first | exact hs_eq _ _ _ | refine hs_ne (by omega) ?_ | assumption)) rfl ?_
            refine k_bipush C dX8_hire_74 (by decide +kernel) ?_
            refine k_iaload C dX8_hire_76 (by repeat (first | exact hs_eq _ _ _ | refine hs_ne (by omega) ?_ | assumption)) (by omega) (by omega) (by omega) ?_
            refine k_iconst C dX8_hire_77 ?_
            refine k_isub C dX8_hire_78 ?_
            refine k_iret C hr dX8_hire_79 ?_
            first
              | exact Or.inl ⟨by omega, (by first | rfl | (rw [hz21]; exact congrArg (fun qq => some (aI qq)) (by omega))), ⟨(by repeat (first | exact hs_eq _ _ _ | refine hs_ne (by omega) ?_ | assumption)), (by repeat (first | exact hs_eq _ _ _ | refine hs_ne (by omega) ?_ | assumption)), (by repeat (first | exact hs_eq _ _ _ | refine hs_ne (by omega) ?_ | assumption)), (by repeat (first | exact hs_eq _ _ _ | refine hs_ne (by omega) ?_ | assumption)), (by repeat (first | exact hs_eq _ _ _ | refine hs_ne (by omega) ?_ | assumption)), (by repeat (first | exact hs_eq _ _ _ | refine hs_ne (by omega) ?_ | assumption))⟩, Fr.tr (Fr.tr (fun aaa haa => by repeat (first | rfl | refine hs_ne (by omega) ?_)) hF1) hF2⟩
              | exact Or.inr (Or.inl ⟨by omega, (by first | rfl | (rw [hz21]; exact congrArg (fun qq => some (aI qq)) (by omega))), ⟨(by repeat (first | exact hs_eq _ _ _ | refine hs_ne (by omega) ?_ | assumption)), (by repeat (first | exact hs_eq _ _ _ | refine hs_ne (by omega) ?_ | assumption)), (by repeat (first | exact hs_eq _ _ _ | refine hs_ne (by omega) ?_ | assumption)), (by repeat (first | exact hs_eq _ _ _ | refine hs_ne (by omega) ?_ | assumption)), (by repeat (first | exact hs_eq _ _ _ | refine hs_ne (by omega) ?_ | assumption)), (by repeat (first | exact hs_eq _ _ _ | refine hs_ne (by omega) ?_ | assumption))⟩, fun aaa haa => by repeat (first | rfl | refine hs_ne (by omega) ?_)⟩)
              | exact Or.inr (Or.inr (Or.inl ⟨by omega, (by first | rfl | (rw [hz21]; exact congrArg (fun qq => some (aI qq)) (by omega))), ⟨(by repeat (first | exact hs_eq _ _ _ | refine hs_ne (by omega) ?_ | assumption)), (by repeat (first | exact hs_eq _ _ _ | refine hs_ne (by omega) ?_ | assumption)), (by repeat (first | exact hs_eq _ _ _ | refine hs_ne (by omega) ?_ | assumption)), (by repeat (first | exact hs_eq _ _ _ | refine hs_ne (by omega) ?_ | assumption)), (by repeat (first | exact hs_eq _ _ _ | refine hs_ne (by omega) ?_ | assumption)), (by repeat (first | exact hs_eq _ _ _ | refine hs_ne (by omega) ?_ | assumption))⟩, fun aaa haa => by repeat (first | rfl | refine hs_ne (by omega) ?_)⟩))
              | exact Or.inr (Or.inr (Or.inr (⟨by omega, (by first | rfl | (rw [hz21]; exact congrArg (fun qq => some (aI qq)) (by omega))), ⟨(by repeat (first | exact hs_eq _ _ _ | refine hs_ne (by omega) ?_ | assumption)), (by repeat (first | exact hs_eq _ _ _ | refine hs_ne (by omega) ?_ | assumption)), (by repeat (first | exact hs_eq _ _ _ | refine hs_ne (by omega) ?_ | assumption)), (by repeat (first | exact hs_eq _ _ _ | refine hs_ne (by omega) ?_ | assumption)), (by repeat (first | exact hs_eq _ _ _ | refine hs_ne (by omega) ?_ | assumption)), (by repeat (first | exact hs_eq _ _ _ | refine hs_ne (by omega) ?_ | assumption))⟩, fun aaa haa => by repeat (first | rfl | refine hs_ne (by omega) ?_)⟩))))
        · try (exfalso; omega)
          all_goals (
            refine k_iconst C dX8_hire_57 ?_
            refine k_iret C hr dX8_hire_58 ?_
            first
              | exact Or.inl ⟨by omega, (by first | rfl | (rw [hz21]; exact congrArg (fun qq => some (aI qq)) (by omega))), ⟨(by repeat (first | exact hs_eq _ _ _ | refine hs_ne (by omega) ?_ | assumption)), (by repeat (first | exact hs_eq _ _ _ | refine hs_ne (by omega) ?_ | assumption)), (by repeat (first | exact hs_eq _ _ _ | refine hs_ne (by omega) ?_ | assumption)), (by repeat (first | exact hs_eq _ _ _ | refine hs_ne (by omega) ?_ | assumption)), (by repeat (first | exact hs_eq _ _ _ | refine hs_ne (by omega) ?_ | assumption)), (by repeat (first | exact hs_eq _ _ _ | refine hs_ne (by omega) ?_ | assumption))⟩, Fr.tr (Fr.tr (fun aaa haa => by repeat (first | rfl | refine hs_ne (by omega) ?_)) hF1) hF2⟩
              | exact Or.inr (Or.inl ⟨by omega, (by first | rfl | (rw [hz21]; exact congrArg (fun qq => some (aI qq)) (by omega))), ⟨(by repeat (first | exact hs_eq _ _ _ | refine hs_ne (by omega) ?_ | assumption)), (by repeat (first | exact hs_eq _ _ _ | refine hs_ne (by omega) ?_ | assumption)), (by repeat (first | exact hs_eq _ _ _ | refine hs_ne (by omega) ?_ | assumption)), (by repeat (first | exact hs_eq _ _ _ | refine hs_ne (by omega) ?_ | assumption)), (by repeat (first | exact hs_eq _ _ _ | refine hs_ne (by omega) ?_ | assumption)), (by repeat (first | exact hs_eq _ _ _ | refine hs_ne (by omega) ?_ | assumption))⟩, fun aaa haa => by repeat (first | rfl | refine hs_ne (by omega) ?_)⟩)
              | exact Or.inr (Or.inr (Or.inl ⟨by omega, (by first | rfl | (rw [hz21]; exact congrArg (fun qq => some (aI qq)) (by omega))), ⟨(by repeat (first | exact hs_eq _ _ _ | refine hs_ne (by omega) ?_ | assumption)), (by repeat (first | exact hs_eq _ _ _ | refine hs_ne (by omega) ?_ | assumption)), (by repeat (first | exact hs_eq _ _ _ | refine hs_ne (by omega) ?_ | assumption)), (by repeat (first | exact hs_eq _ _ _ | refine hs_ne (by omega) ?_ | assumption)), (by repeat (first | exact hs_eq _ _ _ | refine hs_ne (by omega) ?_ | assumption)), (by repeat (first | exact hs_eq _ _ _ | refine hs_ne (by omega) ?_ | assumption))⟩, fun aaa haa => by repeat (first | rfl | refine hs_ne (by omega) ?_)⟩))
              | exact Or.inr (Or.inr (Or.inr (⟨by omega, (by first | rfl | (rw [hz21]; exact congrArg (fun qq => some (aI qq)) (by omega))), ⟨(by repeat (first | exact hs_eq _ _ _ | refine hs_ne (by omega) ?_ | assumption)), (by repeat (first | exact hs_eq _ _ _ | refine hs_ne (by omega) ?_ | assumption)), (by repeat (first | exact hs_eq _ _ _ | refine hs_ne (by omega) ?_ | assumption)), (by repeat (first | exact hs_eq _ _ _ | refine hs_ne (by omega) ?_ | assumption)), (by repeat (first | exact hs_eq _ _ _ | refine hs_ne (by omega) ?_ | assumption)), (by repeat (first | exact hs_eq _ _ _ | refine hs_ne (by omega) ?_ | assumption))⟩, fun aaa haa => by repeat (first | rfl | refine hs_ne (by omega) ?_)⟩)))))
  · skip
    refine k_if_ne (tgt := 12) C dX8_hire_5 (by decide) ⟨by omega, by omega⟩ (fun c5 => ?_) (fun c5 => ?_)
    · try (exfalso; omega)
      all_goals (
        refine k_iload_n C dX8_hire_12 rfl ?_
        refine k_callS C (n := 1) (as := [_]) (ct_X8_areTurns l D tc base _ _ ht) ml_X8_99 sm_X8_areTurns ini_X8 co_X8_areTurns ⟨by decide, by decide, by decide +kernel⟩ rfl ⟨by decide, by decide⟩ rfl (Nat.le_of_ble_eq_true rfl) ⟨Nat.zero_le _, Nat.zero_le _⟩ dX8_hire_13 ?_
        rintro _ _ (⟨rfl, rfl, hq13⟩ | ⟨rfl, rfl, hq13⟩)
        · skip
          refine k_if_eq (tgt := 26) C dX8_hire_16 (by decide) ⟨by omega, by omega⟩ (fun c16 => ?_) (fun c16 => ?_)
          · try (exfalso; omega)
            all_goals (
              refine k_iconst C dX8_hire_26 ?_
              refine k_goto (tgt := 47) C dX8_hire_27 (by decide) ?_
              refine k_put C (k := 5) inX8 tyX8_ok nmX8 (ci := 8) rfl (by decide) fl_X8_25 rfl (Nat.le_of_ble_eq_true rfl) dX8_hire_47 (by repeat (first | exact hs_eq _ _ _ | refine hs_ne (by omega) ?_ | assumption)) ?_
              refine k_aload_n C dX8_hire_50 rfl ?_
              refine k_get C (k := 5) inX8 (ci := 8) rfl (by decide) fl_X8_25 dX8_hire_51 (by repeat (first | exact hs_eq _ _ _ | refine hs_ne (by omega) ?_ | assumption)) rfl ?_
              refine k_if_le (tgt := 59) C dX8_hire_54 (by decide) ⟨by omega, by omega⟩ (fun c54 => ?_) (fun c54 => ?_)
              · try (exfalso; omega)
                all_goals (
                  refine k_aload_n C dX8_hire_59 rfl ?_
                  refine k_callV C (n := 0) (as := []) (ct_X8_save l D tc base oo zrr hhi htx has hro st ln (0) re du hsh _ ⟨(by repeat (first | exact hs_eq _ _ _ | refine hs_ne (by omega) ?_ | assumption)), (by repeat (first | exact hs_eq _ _ _ | refine hs_ne (by omega) ?_ | assumption)), (by repeat (first | exact hs_eq _ _ _ | refine hs_ne (by omega) ?_ | assumption)), (by repeat (first | exact hs_eq _ _ _ | refine hs_ne (by omega) ?_ | assumption)), (by repeat (first | exact hs_eq _ _ _ | refine hs_ne (by omega) ?_ | assumption)), (by repeat (first | exact hs_eq _ _ _ | refine hs_ne (by omega) ?_ | assumption))⟩ hst) ml_X8_102 im_X8_save se_X8_save ini_X8 co_X8_save ⟨rfl, by decide, by decide, by decide +kernel⟩ rfl (ci := 8) rfl (by repeat (first | exact hs_eq _ _ _ | refine hs_ne (by omega) ?_ | assumption)) ⟨by decide, by decide⟩ rfl (Nat.le_of_ble_eq_true rfl) ⟨Nat.zero_le _, Nat.zero_le _⟩ dX8_hire_60 ?_
                  rintro _ _ ⟨rfl, hM1, hF1⟩
                  obtain ⟨k0, k1, k2, k3, k4, k5⟩ := id hM1
                  refine k_aload_n C dX8_hire_63 rfl ?_
                  refine k_iload_n C dX8_hire_64 rfl ?_
                  refine k_iload_n C dX8_hire_65 rfl ?_
                  refine k_iload_n C dX8_hire_66 rfl ?_
                  refine k_callV C (n := 3) (as := [_, _, _]) (ct_X8_comes l D tc base oo zrr _ _ _ _ _ _ _ _ _ _ _ hM1 _ _ _ ⟨by omega, by omega⟩) ml_X8_115 im_X8_comes se_X8_comes ini_X8 co_X8_comes ⟨rfl, by decide, by decide, by decide +kernel⟩ rfl (ci := 8) rfl (by repeat (first | exact hs_eq _ _ _ | refine hs_ne (by omega) ?_ | assumption)) ⟨by decide, by decide⟩ rfl (Nat.le_of_ble_eq_true rfl) ⟨Nat.zero_le _, Nat.zero_le _⟩ dX8_hire_67 ?_
                  rintro _ _ ⟨rfl, hM2, hF2⟩
                  obtain ⟨k0, k1, k2, k3, k4, k5⟩ := id hM2
                  have hz21 : zComes zrr ww tt pd 21 = zrr 21 + 1 := iu_eq _ _ _
                  refine k_aload_n C dX8_hire_70 rfl ?_
                  refine k_get C (k := 0) inX8 (ci := 8) rfl (by decide) fl_X8_7 dX8_hire_71 (by repeat (first | exact hs_eq _ _ _ | refine hs_ne (by omega) ?_ | assumption)) rfl ?_
                  refine k_bipush C dX8_hire_74 (by decide +kernel) ?_
                  refine k_iaload C dX8_hire_76 (by repeat (first | exact hs_eq _ _ _ | refine hs_ne (by omega) ?_ | assumption)) (by omega) (by omega) (by omega) ?_
                  refine k_iconst C dX8_hire_77 ?_
                  refine k_isub C dX8_hire_78 ?_
                  refine k_iret C hr dX8_hire_79 ?_
                  first
                    | exact Or.inl ⟨by omega, (by first | rfl | (rw [hz21]; exact congrArg (fun qq => some (aI qq)) (by omega))), ⟨(by repeat (first | exact hs_eq _ _ _ | refine hs_ne (by omega) ?_ | assumption)), (by repeat (first | exact hs_eq _ _ _ | refine hs_ne (by omega) ?_ | assumption)), (by repeat (first | exact hs_eq _ _ _ | refine hs_ne (by omega) ?_ | assumption)), (by repeat (first | exact hs_eq _ _ _ | refine hs_ne (by omega) ?_ | assumption)), (by repeat (first | exact hs_eq _ _ _ | refine hs_ne (by omega) ?_ | assumption)), (by repeat (first | exact hs_eq _ _ _ | refine hs_ne (by omega) ?_ | assumption))⟩, Fr.tr (Fr.tr (fun aaa haa => by repeat (first | rfl | refine hs_ne (by omega) ?_)) hF1) hF2⟩
                    | exact Or.inr (Or.inl ⟨by omega, (by first | rfl | (rw [hz21]; exact congrArg (fun qq => some (aI qq)) (by omega))), ⟨(by repeat (first | exact hs_eq _ _ _ | refine hs_ne (by omega) ?_ | assumption)), (by repeat (first | exact hs_eq _ _ _ | refine hs_ne (by omega) ?_ | assumption)), (by repeat (first | exact hs_eq _ _ _ | refine hs_ne (by omega) ?_ | assumption)), (by repeat (first | exact hs_eq _ _ _ | refine hs_ne (by omega) ?_ | assumption)), (by repeat (first | exact hs_eq _ _ _ | refine hs_ne (by omega) ?_ | assumption)), (by repeat (first | exact hs_eq _ _ _ | refine hs_ne (by omega) ?_ | assumption))⟩, fun aaa haa => by repeat (first | rfl | refine hs_ne (by omega) ?_)⟩)
                    | exact Or.inr (Or.inr (Or.inl ⟨by omega, (by first | rfl | (rw [hz21]; exact congrArg (fun qq => some (aI qq)) (by omega))), ⟨(by repeat (first | exact hs_eq _ _ _ | refine hs_ne (by omega) ?_ | assumption)), (by repeat (first | exact hs_eq _ _ _ | refine hs_ne (by omega) ?_ | assumption)), (by repeat (first | exact hs_eq _ _ _ | refine hs_ne (by omega) ?_ | assumption)), (by repeat (first | exact hs_eq _ _ _ | refine hs_ne (by omega) ?_ | assumption)), (by repeat (first | exact hs_eq _ _ _ | refine hs_ne (by omega) ?_ | assumption)), (by repeat (first | exact hs_eq _ _ _ | refine hs_ne (by omega) ?_ | assumption))⟩, fun aaa haa => by repeat (first | rfl | refine hs_ne (by omega) ?_)⟩))
                    | exact Or.inr (Or.inr (Or.inr (⟨by omega, (by first | rfl | (rw [hz21]; exact congrArg (fun qq => some (aI qq)) (by omega))), ⟨(by repeat (first | exact hs_eq _ _ _ | refine hs_ne (by omega) ?_ | assumption)), (by repeat (first | exact hs_eq _ _ _ | refine hs_ne (by omega) ?_ | assumption)), (by repeat (first | exact hs_eq _ _ _ | refine hs_ne (by omega) ?_ | assumption)), (by repeat (first | exact hs_eq _ _ _ | refine hs_ne (by omega) ?_ | assumption)), (by repeat (first | exact hs_eq _ _ _ | refine hs_ne (by omega) ?_ | assumption)), (by repeat (first | exact hs_eq _ _ _ | refine hs_ne (by omega) ?_ | assumption))⟩, fun aaa haa => by repeat (first | rfl | refine hs_ne (by omega) ?_)⟩))))
              · try (exfalso; omega)
                all_goals (
                  refine k_iconst C dX8_hire_57 ?_
                  refine k_iret C hr dX8_hire_58 ?_
                  first
                    | exact Or.inl ⟨by omega, (by first | rfl | (rw [hz21]; exact congrArg (fun qq => some (aI qq)) (by omega))), ⟨(by repeat (first | exact hs_eq _ _ _ | refine hs_ne (by omega) ?_ | assumption)), (by repeat (first | exact hs_eq _ _ _ | refine hs_ne (by omega) ?_ | assumption)), (by repeat (first | exact hs_eq _ _ _ | refine hs_ne (by omega) ?_ | assumption)), (by repeat (first | exact hs_eq _ _ _ | refine hs_ne (by omega) ?_ | assumption)), (by repeat (first | exact hs_eq _ _ _ | refine hs_ne (by omega) ?_ | assumption)), (by repeat (first | exact hs_eq _ _ _ | refine hs_ne (by omega) ?_ | assumption))⟩, Fr.tr (Fr.tr (fun aaa haa => by repeat (first | rfl | refine hs_ne (by omega) ?_)) hF1) hF2⟩
                    | exact Or.inr (Or.inl ⟨by omega, (by first | rfl | (rw [hz21]; exact congrArg (fun qq => some (aI qq)) (by omega))), ⟨(by repeat (first | exact hs_eq _ _ _ | refine hs_ne (by omega) ?_ | assumption)), (by repeat (first | exact hs_eq _ _ _ | refine hs_ne (by omega) ?_ | assumption)), (by repeat (first | exact hs_eq _ _ _ | refine hs_ne (by omega) ?_ | assumption)), (by repeat (first | exact hs_eq _ _ _ | refine hs_ne (by omega) ?_ | assumption)), (by repeat (first | exact hs_eq _ _ _ | refine hs_ne (by omega) ?_ | assumption)), (by repeat (first | exact hs_eq _ _ _ | refine hs_ne (by omega) ?_ | assumption))⟩, fun aaa haa => by repeat (first | rfl | refine hs_ne (by omega) ?_)⟩)
                    | exact Or.inr (Or.inr (Or.inl ⟨by omega, (by first | rfl | (rw [hz21]; exact congrArg (fun qq => some (aI qq)) (by omega))), ⟨(by repeat (first | exact hs_eq _ _ _ | refine hs_ne (by omega) ?_ | assumption)), (by repeat (first | exact hs_eq _ _ _ | refine hs_ne (by omega) ?_ | assumption)), (by repeat (first | exact hs_eq _ _ _ | refine hs_ne (by omega) ?_ | assumption)), (by repeat (first | exact hs_eq _ _ _ | refine hs_ne (by omega) ?_ | assumption)), (by repeat (first | exact hs_eq _ _ _ | refine hs_ne (by omega) ?_ | assumption)), (by repeat (first | exact hs_eq _ _ _ | refine hs_ne (by omega) ?_ | assumption))⟩, fun aaa haa => by repeat (first | rfl | refine hs_ne (by omega) ?_)⟩))
                    | exact Or.inr (Or.inr (Or.inr (⟨by omega, (by first | rfl | (rw [hz21]; exact congrArg (fun qq => some (aI qq)) (by omega))), ⟨(by repeat (first | exact hs_eq _ _ _ | refine hs_ne (by omega) ?_ | assumption)), (by repeat (first | exact hs_eq _ _ _ | refine hs_ne (by omega) ?_ | assumption)), (by repeat (first | exact hs_eq _ _ _ | refine hs_ne (by omega) ?_ | assumption)), (by repeat (first | exact hs_eq _ _ _ | refine hs_ne (by omega) ?_ | assumption)), (by repeat (first | exact hs_eq _ _ _ | refine hs_ne (by omega) ?_ | assumption)), (by repeat (first | exact hs_eq _ _ _ | refine hs_ne (by omega) ?_ | assumption))⟩, fun aaa haa => by repeat (first | rfl | refine hs_ne (by omega) ?_)⟩)))))
          · try (exfalso; omega)
            all_goals (
              refine k_iload_n C dX8_hire_19 rfl ?_
              refine k_callS C (n := 1) (as := [_]) (ct_X8_isPeriod l D tc base _ _ hpd) ml_X8_112 sm_X8_isPeriod ini_X8 co_X8_isPeriod ⟨by decide, by decide, by decide +kernel⟩ rfl ⟨by decide, by decide⟩ rfl (Nat.le_of_ble_eq_true rfl) ⟨Nat.zero_le _, Nat.zero_le _⟩ dX8_hire_20 ?_
              rintro _ _ (⟨rfl, rfl, hq20⟩ | ⟨rfl, rfl, hq20⟩)
              · skip
                refine k_if_ne (tgt := 30) C dX8_hire_23 (by decide) ⟨by omega, by omega⟩ (fun c23 => ?_) (fun c23 => ?_)
                · try (exfalso; omega)
                  all_goals (
                    refine k_aload_n C dX8_hire_30 rfl ?_
                    refine k_get C (k := 0) inX8 (ci := 8) rfl (by decide) fl_X8_7 dX8_hire_31 (by repeat (first | exact hs_eq _ _ _ | refine hs_ne (by omega) ?_ | assumption)) rfl ?_
                    refine k_bipush C dX8_hire_34 (by decide +kernel) ?_
                    refine k_iaload C dX8_hire_36 (by repeat (first | exact hs_eq _ _ _ | refine hs_ne (by omega) ?_ | assumption)) (by omega) (by omega) (by omega) ?_
                    refine k_bipush C dX8_hire_37 (by decide +kernel) ?_
                    refine k_icmp_ne (tgt := 46) C dX8_hire_39 (by decide) ⟨by omega, by omega⟩ ⟨by omega, by omega⟩ (fun c39 => ?_) (fun c39 => ?_)
                    · try (exfalso; omega)
                      all_goals (
                        refine k_iconst C dX8_hire_46 ?_
                        refine k_put C (k := 5) inX8 tyX8_ok nmX8 (ci := 8) rfl (by decide) fl_X8_25 rfl (Nat.le_of_ble_eq_true rfl) dX8_hire_47 (by repeat (first | exact hs_eq _ _ _ | refine hs_ne (by omega) ?_ | assumption)) ?_
                        refine k_aload_n C dX8_hire_50 rfl ?_
                        refine k_get C (k := 5) inX8 (ci := 8) rfl (by decide) fl_X8_25 dX8_hire_51 (by repeat (first | exact hs_eq _ _ _ | refine hs_ne (by omega) ?_ | assumption)) rfl ?_
                        refine k_if_le (tgt := 59) C dX8_hire_54 (by decide) ⟨by omega, by omega⟩ (fun c54 => ?_) (fun c54 => ?_)
                        · try (exfalso; omega)
                          all_goals (
                            refine k_aload_n C dX8_hire_59 rfl ?_
                            refine k_callV C (n := 0) (as := []) (ct_X8_save l D tc base oo zrr hhi htx has hro st ln (0) re du hsh _ ⟨(by repeat (first | exact hs_eq _ _ _ | refine hs_ne (by omega) ?_ | assumption)), (by repeat (first | exact hs_eq _ _ _ | refine hs_ne (by omega) ?_ | assumption)), (by repeat (first | exact hs_eq _ _ _ | refine hs_ne (by omega) ?_ | assumption)), (by repeat (first | exact hs_eq _ _ _ | refine hs_ne (by omega) ?_ | assumption)), (by repeat (first | exact hs_eq _ _ _ | refine hs_ne (by omega) ?_ | assumption)), (by repeat (first | exact hs_eq _ _ _ | refine hs_ne (by omega) ?_ | assumption))⟩ hst) ml_X8_102 im_X8_save se_X8_save ini_X8 co_X8_save ⟨rfl, by decide, by decide, by decide +kernel⟩ rfl (ci := 8) rfl (by repeat (first | exact hs_eq _ _ _ | refine hs_ne (by omega) ?_ | assumption)) ⟨by decide, by decide⟩ rfl (Nat.le_of_ble_eq_true rfl) ⟨Nat.zero_le _, Nat.zero_le _⟩ dX8_hire_60 ?_
                            rintro _ _ ⟨rfl, hM1, hF1⟩
                            obtain ⟨k0, k1, k2, k3, k4, k5⟩ := id hM1
                            refine k_aload_n C dX8_hire_63 rfl ?_
                            refine k_iload_n C dX8_hire_64 rfl ?_
                            refine k_iload_n C dX8_hire_65 rfl ?_
                            refine k_iload_n C dX8_hire_66 rfl ?_
                            refine k_callV C (n := 3) (as := [_, _, _]) (ct_X8_comes l D tc base oo zrr _ _ _ _ _ _ _ _ _ _ _ hM1 _ _ _ ⟨by omega, by omega⟩) ml_X8_115 im_X8_comes se_X8_comes ini_X8 co_X8_comes ⟨rfl, by decide, by decide, by decide +kernel⟩ rfl (ci := 8) rfl (by repeat (first | exact hs_eq _ _ _ | refine hs_ne (by omega) ?_ | assumption)) ⟨by decide, by decide⟩ rfl (Nat.le_of_ble_eq_true rfl) ⟨Nat.zero_le _, Nat.zero_le _⟩ dX8_hire_67 ?_
                            rintro _ _ ⟨rfl, hM2, hF2⟩
                            obtain ⟨k0, k1, k2, k3, k4, k5⟩ := id hM2
                            have hz21 : zComes zrr ww tt pd 21 = zrr 21 + 1 := iu_eq _ _ _
                            refine k_aload_n C dX8_hire_70 rfl ?_
                            refine k_get C (k := 0) inX8 (ci := 8) rfl (by decide) fl_X8_7 dX8_hire_71 (by repeat (first | exact hs_eq _ _ _ | refine hs_ne (by omega) ?_ | assumption)) rfl ?_
                            refine k_bipush C dX8_hire_74 (by decide +kernel) ?_
                            refine k_iaload C dX8_hire_76 (by repeat (first | exact hs_eq _ _ _ | refine hs_ne (by omega) ?_ | assumption)) (by omega) (by omega) (by omega) ?_
                            refine k_iconst C dX8_hire_77 ?_
                            refine k_isub C dX8_hire_78 ?_
                            refine k_iret C hr dX8_hire_79 ?_
                            first
                              | exact Or.inl ⟨by omega, (by first | rfl | (rw [hz21]; exact congrArg (fun qq => some (aI qq)) (by omega))), ⟨(by repeat (first | exact hs_eq _ _ _ | refine hs_ne (by omega) ?_ | assumption)), (by repeat (first | exact hs_eq _ _ _ | refine hs_ne (by omega) ?_ | assumption)), (by repeat (first | exact hs_eq _ _ _ | refine hs_ne (by omega) ?_ | assumption)), (by repeat (first | exact hs_eq _ _ _ | refine hs_ne (by omega) ?_ | assumption)), (by repeat (first | exact hs_eq _ _ _ | refine hs_ne (by omega) ?_ | assumption)), (by repeat (first | exact hs_eq _ _ _ | refine hs_ne (by omega) ?_ | assumption))⟩, Fr.tr (Fr.tr (fun aaa haa => by repeat (first | rfl | refine hs_ne (by omega) ?_)) hF1) hF2⟩
                              | exact Or.inr (Or.inl ⟨by omega, (by first | rfl | (rw [hz21]; exact congrArg (fun qq => some (aI qq)) (by omega))), ⟨(by repeat (first | exact hs_eq _ _ _ | refine hs_ne (by omega) ?_ | assumption)), (by repeat (first | exact hs_eq _ _ _ | refine hs_ne (by omega) ?_ | assumption)), (by repeat (first | exact hs_eq _ _ _ | refine hs_ne (by omega) ?_ | assumption)), (by repeat (first | exact hs_eq _ _ _ | refine hs_ne (by omega) ?_ | assumption)), (by repeat (first | exact hs_eq _ _ _ | refine hs_ne (by omega) ?_ | assumption)), (by repeat (first | exact hs_eq _ _ _ | refine hs_ne (by omega) ?_ | assumption))⟩, fun aaa haa => by repeat (first | rfl | refine hs_ne (by omega) ?_)⟩)
                              | exact Or.inr (Or.inr (Or.inl ⟨by omega, (by first | rfl | (rw [hz21]; exact congrArg (fun qq => some (aI qq)) (by omega))), ⟨(by repeat (first | exact hs_eq _ _ _ | refine hs_ne (by omega) ?_ | assumption)), (by repeat (first | exact hs_eq _ _ _ | refine hs_ne (by omega) ?_ | assumption)), (by repeat (first | exact hs_eq _ _ _ | refine hs_ne (by omega) ?_ | assumption)), (by repeat (first | exact hs_eq _ _ _ | refine hs_ne (by omega) ?_ | assumption)), (by repeat (first | exact hs_eq _ _ _ | refine hs_ne (by omega) ?_ | assumption)), (by repeat (first | exact hs_eq _ _ _ | refine hs_ne (by omega) ?_ | assumption))⟩, fun aaa haa => by repeat (first | rfl | refine hs_ne (by omega) ?_)⟩))
                              | exact Or.inr (Or.inr (Or.inr (⟨by omega, (by first | rfl | (rw [hz21]; exact congrArg (fun qq => some (aI qq)) (by omega))), ⟨(by repeat (first | exact hs_eq _ _ _ | refine hs_ne (by omega) ?_ | assumption)), (by repeat (first | exact hs_eq _ _ _ | refine hs_ne (by omega) ?_ | assumption)), (by repeat (first | exact hs_eq _ _ _ | refine hs_ne (by omega) ?_ | assumption)), (by repeat (first | exact hs_eq _ _ _ | refine hs_ne (by omega) ?_ | assumption)), (by repeat (first | exact hs_eq _ _ _ | refine hs_ne (by omega) ?_ | assumption)), (by repeat (first | exact hs_eq _ _ _ | refine hs_ne (by omega) ?_ | assumption))⟩, fun aaa haa => by repeat (first | rfl | refine hs_ne (by omega) ?_)⟩))))
                        · try (exfalso; omega)
                          all_goals (
                            refine k_iconst C dX8_hire_57 ?_
                            refine k_iret C hr dX8_hire_58 ?_
                            first
                              | exact Or.inl ⟨by omega, (by first | rfl | (rw [hz21]; exact congrArg (fun qq => some (aI qq)) (by omega))), ⟨(by repeat (first | exact hs_eq _ _ _ | refine hs_ne (by omega) ?_ | assumption)), (by repeat (first | exact hs_eq _ _ _ | refine hs_ne (by omega) ?_ | assumption)), (by repeat (first | exact hs_eq _ _ _ | refine hs_ne (by omega) ?_ | assumption)), (by repeat (first | exact hs_eq _ _ _ | refine hs_ne (by omega) ?_ | assumption)), (by repeat (first | exact hs_eq _ _ _ | refine hs_ne (by omega) ?_ | assumption)), (by repeat (first | exact hs_eq _ _ _ | refine hs_ne (by omega) ?_ | assumption))⟩, Fr.tr (Fr.tr (fun aaa haa => by repeat (first | rfl | refine hs_ne (by omega) ?_)) hF1) hF2⟩
                              | exact Or.inr (Or.inl ⟨by omega, (by first | rfl | (rw [hz21]; exact congrArg (fun qq => some (aI qq)) (by omega))), ⟨(by repeat (first | exact hs_eq _ _ _ | refine hs_ne (by omega) ?_ | assumption)), (by repeat (first | exact hs_eq _ _ _ | refine hs_ne (by omega) ?_ | assumption)), (by repeat (first | exact hs_eq _ _ _ | refine hs_ne (by omega) ?_ | assumption)), (by repeat (first | exact hs_eq _ _ _ | refine hs_ne (by omega) ?_ | assumption)), (by repeat (first | exact hs_eq _ _ _ | refine hs_ne (by omega) ?_ | assumption)), (by repeat (first | exact hs_eq _ _ _ | refine hs_ne (by omega) ?_ | assumption))⟩, fun aaa haa => by repeat (first | rfl | refine hs_ne (by omega) ?_)⟩)
                              | exact Or.inr (Or.inr (Or.inl ⟨by omega, (by first | rfl | (rw [hz21]; exact congrArg (fun qq => some (aI qq)) (by omega))), ⟨(by repeat (first | exact hs_eq _ _ _ | refine hs_ne (by omega) ?_ | assumption)), (by repeat (first | exact hs_eq _ _ _ | refine hs_ne (by omega) ?_ | assumption)), (by repeat (first | exact hs_eq _ _ _ | refine hs_ne (by omega) ?_ | assumption)), (by repeat (first | exact hs_eq _ _ _ | refine hs_ne (by omega) ?_ | assumption)), (by repeat (first | exact hs_eq _ _ _ | refine hs_ne (by omega) ?_ | assumption)), (by repeat (first | exact hs_eq _ _ _ | refine hs_ne (by omega) ?_ | assumption))⟩, fun aaa haa => by repeat (first | rfl | refine hs_ne (by omega) ?_)⟩))
                              | exact Or.inr (Or.inr (Or.inr (⟨by omega, (by first | rfl | (rw [hz21]; exact congrArg (fun qq => some (aI qq)) (by omega))), ⟨(by repeat (first | exact hs_eq _ _ _ | refine hs_ne (by omega) ?_ | assumption)), (by repeat (first | exact hs_eq _ _ _ | refine hs_ne (by omega) ?_ | assumption)), (by repeat (first | exact hs_eq _ _ _ | refine hs_ne (by omega) ?_ | assumption)), (by repeat (first | exact hs_eq _ _ _ | refine hs_ne (by omega) ?_ | assumption)), (by repeat (first | exact hs_eq _ _ _ | refine hs_ne (by omega) ?_ | assumption)), (by repeat (first | exact hs_eq _ _ _ | refine hs_ne (by omega) ?_ | assumption))⟩, fun aaa haa => by repeat (first | rfl | refine hs_ne (by omega) ?_)⟩)))))
                    · try (exfalso; omega)
                      all_goals (
                        refine k_iconst C dX8_hire_42 ?_
                        refine k_goto (tgt := 47) C dX8_hire_43 (by decide) ?_
                        refine k_put C (k := 5) inX8 tyX8_ok nmX8 (ci := 8) rfl (by decide) fl_X8_25 rfl (Nat.le_of_ble_eq_true rfl) dX8_hire_47 (by repeat (first | exact hs_eq _ _ _ | refine hs_ne (by omega) ?_ | assumption)) ?_
                        refine k_aload_n C dX8_hire_50 rfl ?_
                        refine k_get C (k := 5) inX8 (ci := 8) rfl (by decide) fl_X8_25 dX8_hire_51 (by repeat (first | exact hs_eq _ _ _ | refine hs_ne (by omega) ?_ | assumption)) rfl ?_
                        refine k_if_le (tgt := 59) C dX8_hire_54 (by decide) ⟨by omega, by omega⟩ (fun c54 => ?_) (fun c54 => ?_)
                        · try (exfalso; omega)
                          all_goals (
                            refine k_aload_n C dX8_hire_59 rfl ?_
                            refine k_callV C (n := 0) (as := []) (ct_X8_save l D tc base oo zrr hhi htx has hro st ln (0) re du hsh _ ⟨(by repeat (first | exact hs_eq _ _ _ | refine hs_ne (by omega) ?_ | assumption)), (by repeat (first | exact hs_eq _ _ _ | refine hs_ne (by omega) ?_ | assumption)), (by repeat (first | exact hs_eq _ _ _ | refine hs_ne (by omega) ?_ | assumption)), (by repeat (first | exact hs_eq _ _ _ | refine hs_ne (by omega) ?_ | assumption)), (by repeat (first | exact hs_eq _ _ _ | refine hs_ne (by omega) ?_ | assumption)), (by repeat (first | exact hs_eq _ _ _ | refine hs_ne (by omega) ?_ | assumption))⟩ hst) ml_X8_102 im_X8_save se_X8_save ini_X8 co_X8_save ⟨rfl, by decide, by decide, by decide +kernel⟩ rfl (ci := 8) rfl (by repeat (first | exact hs_eq _ _ _ | refine hs_ne (by omega) ?_ | assumption)) ⟨by decide, by decide⟩ rfl (Nat.le_of_ble_eq_true rfl) ⟨Nat.zero_le _, Nat.zero_le _⟩ dX8_hire_60 ?_
                            rintro _ _ ⟨rfl, hM1, hF1⟩
                            obtain ⟨k0, k1, k2, k3, k4, k5⟩ := id hM1
                            refine k_aload_n C dX8_hire_63 rfl ?_
                            refine k_iload_n C dX8_hire_64 rfl ?_
                            refine k_iload_n C dX8_hire_65 rfl ?_
                            refine k_iload_n C dX8_hire_66 rfl ?_
                            refine k_callV C (n := 3) (as := [_, _, _]) (ct_X8_comes l D tc base oo zrr _ _ _ _ _ _ _ _ _ _ _ hM1 _ _ _ ⟨by omega, by omega⟩) ml_X8_115 im_X8_comes se_X8_comes ini_X8 co_X8_comes ⟨rfl, by decide, by decide, by decide +kernel⟩ rfl (ci := 8) rfl (by repeat (first | exact hs_eq _ _ _ | refine hs_ne (by omega) ?_ | assumption)) ⟨by decide, by decide⟩ rfl (Nat.le_of_ble_eq_true rfl) ⟨Nat.zero_le _, Nat.zero_le _⟩ dX8_hire_67 ?_
                            rintro _ _ ⟨rfl, hM2, hF2⟩
                            obtain ⟨k0, k1, k2, k3, k4, k5⟩ := id hM2
                            have hz21 : zComes zrr ww tt pd 21 = zrr 21 + 1 := iu_eq _ _ _
                            refine k_aload_n C dX8_hire_70 rfl ?_
                            refine k_get C (k := 0) inX8 (ci := 8) rfl (by decide) fl_X8_7 dX8_hire_71 (by repeat (first | exact hs_eq _ _ _ | refine hs_ne (by omega) ?_ | assumption)) rfl ?_
                            refine k_bipush C dX8_hire_74 (by decide +kernel) ?_
                            refine k_iaload C dX8_hire_76 (by repeat (first | exact hs_eq _ _ _ | refine hs_ne (by omega) ?_ | assumption)) (by omega) (by omega) (by omega) ?_
                            refine k_iconst C dX8_hire_77 ?_
                            refine k_isub C dX8_hire_78 ?_
                            refine k_iret C hr dX8_hire_79 ?_
                            first
                              | exact Or.inl ⟨by omega, (by first | rfl | (rw [hz21]; exact congrArg (fun qq => some (aI qq)) (by omega))), ⟨(by repeat (first | exact hs_eq _ _ _ | refine hs_ne (by omega) ?_ | assumption)), (by repeat (first | exact hs_eq _ _ _ | refine hs_ne (by omega) ?_ | assumption)), (by repeat (first | exact hs_eq _ _ _ | refine hs_ne (by omega) ?_ | assumption)), (by repeat (first | exact hs_eq _ _ _ | refine hs_ne (by omega) ?_ | assumption)), (by repeat (first | exact hs_eq _ _ _ | refine hs_ne (by omega) ?_ | assumption)), (by repeat (first | exact hs_eq _ _ _ | refine hs_ne (by omega) ?_ | assumption))⟩, Fr.tr (Fr.tr (fun aaa haa => by repeat (first | rfl | refine hs_ne (by omega) ?_)) hF1) hF2⟩
                              | exact Or.inr (Or.inl ⟨by omega, (by first | rfl | (rw [hz21]; exact congrArg (fun qq => some (aI qq)) (by omega))), ⟨(by repeat (first | exact hs_eq _ _ _ | refine hs_ne (by omega) ?_ | assumption)), (by repeat (first | exact hs_eq _ _ _ | refine hs_ne (by omega) ?_ | assumption)), (by repeat (first | exact hs_eq _ _ _ | refine hs_ne (by omega) ?_ | assumption)), (by repeat (first | exact hs_eq _ _ _ | refine hs_ne (by omega) ?_ | assumption)), (by repeat (first | exact hs_eq _ _ _ | refine hs_ne (by omega) ?_ | assumption)), (by repeat (first | exact hs_eq _ _ _ | refine hs_ne (by omega) ?_ | assumption))⟩, fun aaa haa => by repeat (first | rfl | refine hs_ne (by omega) ?_)⟩)
                              | exact Or.inr (Or.inr (Or.inl ⟨by omega, (by first | rfl | (rw [hz21]; exact congrArg (fun qq => some (aI qq)) (by omega))), ⟨(by repeat (first | exact hs_eq _ _ _ | refine hs_ne (by omega) ?_ | assumption)), (by repeat (first | exact hs_eq _ _ _ | refine hs_ne (by omega) ?_ | assumption)), (by repeat (first | exact hs_eq _ _ _ | refine hs_ne (by omega) ?_ | assumption)), (by repeat (first | exact hs_eq _ _ _ | refine hs_ne (by omega) ?_ | assumption)), (by repeat (first | exact hs_eq _ _ _ | refine hs_ne (by omega) ?_ | assumption)), (by repeat (first | exact hs_eq _ _ _ | refine hs_ne (by omega) ?_ | assumption))⟩, fun aaa haa => by repeat (first | rfl | refine hs_ne (by omega) ?_)⟩))
                              | exact Or.inr (Or.inr (Or.inr (⟨by omega, (by first | rfl | (rw [hz21]; exact congrArg (fun qq => some (aI qq)) (by omega))), ⟨(by repeat (first | exact hs_eq _ _ _ | refine hs_ne (by omega) ?_ | assumption)), (by repeat (first | exact hs_eq _ _ _ | refine hs_ne (by omega) ?_ | assumption)), (by repeat (first | exact hs_eq _ _ _ | refine hs_ne (by omega) ?_ | assumption)), (by repeat (first | exact hs_eq _ _ _ | refine hs_ne (by omega) ?_ | assumption)), (by repeat (first | exact hs_eq _ _ _ | refine hs_ne (by omega) ?_ | assumption)), (by repeat (first | exact hs_eq _ _ _ | refine hs_ne (by omega) ?_ | assumption))⟩, fun aaa haa => by repeat (first | rfl | refine hs_ne (by omega) ?_)⟩))))
                        · try (exfalso; omega)
                          all_goals (
                            refine k_iconst C dX8_hire_57 ?_
                            refine k_iret C hr dX8_hire_58 ?_
                            first
                              | exact Or.inl ⟨by omega, (by first | rfl | (rw [hz21]; exact congrArg (fun qq => some (aI qq)) (by omega))), ⟨(by repeat (first | exact hs_eq _ _ _ | refine hs_ne (by omega) ?_ | assumption)), (by repeat (first | exact hs_eq _ _ _ | refine hs_ne (by omega) ?_ | assumption)), (by repeat (first | exact hs_eq _ _ _ | refine hs_ne (by omega) ?_ | assumption)), (by repeat (first | exact hs_eq _ _ _ | refine hs_ne (by omega) ?_ | assumption)), (by repeat (first | exact hs_eq _ _ _ | refine hs_ne (by omega) ?_ | assumption)), (by repeat (first | exact hs_eq _ _ _ | refine hs_ne (by omega) ?_ | assumption))⟩, Fr.tr (Fr.tr (fun aaa haa => by repeat (first | rfl | refine hs_ne (by omega) ?_)) hF1) hF2⟩
                              | exact Or.inr (Or.inl ⟨by omega, (by first | rfl | (rw [hz21]; exact congrArg (fun qq => some (aI qq)) (by omega))), ⟨(by repeat (first | exact hs_eq _ _ _ | refine hs_ne (by omega) ?_ | assumption)), (by repeat (first | exact hs_eq _ _ _ | refine hs_ne (by omega) ?_ | assumption)), (by repeat (first | exact hs_eq _ _ _ | refine hs_ne (by omega) ?_ | assumption)), (by repeat (first | exact hs_eq _ _ _ | refine hs_ne (by omega) ?_ | assumption)), (by repeat (first | exact hs_eq _ _ _ | refine hs_ne (by omega) ?_ | assumption)), (by repeat (first | exact hs_eq _ _ _ | refine hs_ne (by omega) ?_ | assumption))⟩, fun aaa haa => by repeat (first | rfl | refine hs_ne (by omega) ?_)⟩)
                              | exact Or.inr (Or.inr (Or.inl ⟨by omega, (by first | rfl | (rw [hz21]; exact congrArg (fun qq => some (aI qq)) (by omega))), ⟨(by repeat (first | exact hs_eq _ _ _ | refine hs_ne (by omega) ?_ | assumption)), (by repeat (first | exact hs_eq _ _ _ | refine hs_ne (by omega) ?_ | assumption)), (by repeat (first | exact hs_eq _ _ _ | refine hs_ne (by omega) ?_ | assumption)), (by repeat (first | exact hs_eq _ _ _ | refine hs_ne (by omega) ?_ | assumption)), (by repeat (first | exact hs_eq _ _ _ | refine hs_ne (by omega) ?_ | assumption)), (by repeat (first | exact hs_eq _ _ _ | refine hs_ne (by omega) ?_ | assumption))⟩, fun aaa haa => by repeat (first | rfl | refine hs_ne (by omega) ?_)⟩))
                              | exact Or.inr (Or.inr (Or.inr (⟨by omega, (by first | rfl | (rw [hz21]; exact congrArg (fun qq => some (aI qq)) (by omega))), ⟨(by repeat (first | exact hs_eq _ _ _ | refine hs_ne (by omega) ?_ | assumption)), (by repeat (first | exact hs_eq _ _ _ | refine hs_ne (by omega) ?_ | assumption)), (by repeat (first | exact hs_eq _ _ _ | refine hs_ne (by omega) ?_ | assumption)), (by repeat (first | exact hs_eq _ _ _ | refine hs_ne (by omega) ?_ | assumption)), (by repeat (first | exact hs_eq _ _ _ | refine hs_ne (by omega) ?_ | assumption)), (by repeat (first | exact hs_eq _ _ _ | refine hs_ne (by omega) ?_ | assumption))⟩, fun aaa haa => by repeat (first | rfl | refine hs_ne (by omega) ?_)⟩))))))
                · try (exfalso; omega)
                  all_goals (
                    refine k_iconst C dX8_hire_26 ?_
                    refine k_goto (tgt := 47) C dX8_hire_27 (by decide) ?_
                    refine k_put C (k := 5) inX8 tyX8_ok nmX8 (ci := 8) rfl (by decide) fl_X8_25 rfl (Nat.le_of_ble_eq_true rfl) dX8_hire_47 (by repeat (first | exact hs_eq _ _ _ | refine hs_ne (by omega) ?_ | assumption)) ?_
                    refine k_aload_n C dX8_hire_50 rfl ?_
                    refine k_get C (k := 5) inX8 (ci := 8) rfl (by decide) fl_X8_25 dX8_hire_51 (by repeat (first | exact hs_eq _ _ _ | refine hs_ne (by omega) ?_ | assumption)) rfl ?_
                    refine k_if_le (tgt := 59) C dX8_hire_54 (by decide) ⟨by omega, by omega⟩ (fun c54 => ?_) (fun c54 => ?_)
                    · try (exfalso; omega)
                      all_goals (
                        refine k_aload_n C dX8_hire_59 rfl ?_
                        refine k_callV C (n := 0) (as := []) (ct_X8_save l D tc base oo zrr hhi htx has hro st ln (0) re du hsh _ ⟨(by repeat (first | exact hs_eq _ _ _ | refine hs_ne (by omega) ?_ | assumption)), (by repeat (first | exact hs_eq _ _ _ | refine hs_ne (by omega) ?_ | assumption)), (by repeat (first | exact hs_eq _ _ _ | refine hs_ne (by omega) ?_ | assumption)), (by repeat (first | exact hs_eq _ _ _ | refine hs_ne (by omega) ?_ | assumption)), (by repeat (first | exact hs_eq _ _ _ | refine hs_ne (by omega) ?_ | assumption)), (by repeat (first | exact hs_eq _ _ _ | refine hs_ne (by omega) ?_ | assumption))⟩ hst) ml_X8_102 im_X8_save se_X8_save ini_X8 co_X8_save ⟨rfl, by decide, by decide, by decide +kernel⟩ rfl (ci := 8) rfl (by repeat (first | exact hs_eq _ _ _ | refine hs_ne (by omega) ?_ | assumption)) ⟨by decide, by decide⟩ rfl (Nat.le_of_ble_eq_true rfl) ⟨Nat.zero_le _, Nat.zero_le _⟩ dX8_hire_60 ?_
                        rintro _ _ ⟨rfl, hM1, hF1⟩
                        obtain ⟨k0, k1, k2, k3, k4, k5⟩ := id hM1
                        refine k_aload_n C dX8_hire_63 rfl ?_
                        refine k_iload_n C dX8_hire_64 rfl ?_
                        refine k_iload_n C dX8_hire_65 rfl ?_
                        refine k_iload_n C dX8_hire_66 rfl ?_
                        refine k_callV C (n := 3) (as := [_, _, _]) (ct_X8_comes l D tc base oo zrr _ _ _ _ _ _ _ _ _ _ _ hM1 _ _ _ ⟨by omega, by omega⟩) ml_X8_115 im_X8_comes se_X8_comes ini_X8 co_X8_comes ⟨rfl, by decide, by decide, by decide +kernel⟩ rfl (ci := 8) rfl (by repeat (first | exact hs_eq _ _ _ | refine hs_ne (by omega) ?_ | assumption)) ⟨by decide, by decide⟩ rfl (Nat.le_of_ble_eq_true rfl) ⟨Nat.zero_le _, Nat.zero_le _⟩ dX8_hire_67 ?_
                        rintro _ _ ⟨rfl, hM2, hF2⟩
                        obtain ⟨k0, k1, k2, k3, k4, k5⟩ := id hM2
                        have hz21 : zComes zrr ww tt pd 21 = zrr 21 + 1 := iu_eq _ _ _
                        refine k_aload_n C dX8_hire_70 rfl ?_
                        refine k_get C (k := 0) inX8 (ci := 8) rfl (by decide) fl_X8_7 dX8_hire_71 (by repeat (first | exact hs_eq _ _ _ | refine hs_ne (by omega) ?_ | assumption)) rfl ?_
                        refine k_bipush C dX8_hire_74 (by decide +kernel) ?_
                        refine k_iaload C dX8_hire_76 (by repeat (first | exact hs_eq _ _ _ | refine hs_ne (by omega) ?_ | assumption)) (by omega) (by omega) (by omega) ?_
                        refine k_iconst C dX8_hire_77 ?_
                        refine k_isub C dX8_hire_78 ?_
                        refine k_iret C hr dX8_hire_79 ?_
                        first
                          | exact Or.inl ⟨by omega, (by first | rfl | (rw [hz21]; exact congrArg (fun qq => some (aI qq)) (by omega))), ⟨(by repeat (first | exact hs_eq _ _ _ | refine hs_ne (by omega) ?_ | assumption)), (by repeat (first | exact hs_eq _ _ _ | refine hs_ne (by omega) ?_ | assumption)), (by repeat (first | exact hs_eq _ _ _ | refine hs_ne (by omega) ?_ | assumption)), (by repeat (first | exact hs_eq _ _ _ | refine hs_ne (by omega) ?_ | assumption)), (by repeat (first | exact hs_eq _ _ _ | refine hs_ne (by omega) ?_ | assumption)), (by repeat (first | exact hs_eq _ _ _ | refine hs_ne (by omega) ?_ | assumption))⟩, Fr.tr (Fr.tr (fun aaa haa => by repeat (first | rfl | refine hs_ne (by omega) ?_)) hF1) hF2⟩
                          | exact Or.inr (Or.inl ⟨by omega, (by first | rfl | (rw [hz21]; exact congrArg (fun qq => some (aI qq)) (by omega))), ⟨(by repeat (first | exact hs_eq _ _ _ | refine hs_ne (by omega) ?_ | assumption)), (by repeat (first | exact hs_eq _ _ _ | refine hs_ne (by omega) ?_ | assumption)), (by repeat (first | exact hs_eq _ _ _ | refine hs_ne (by omega) ?_ | assumption)), (by repeat (first | exact hs_eq _ _ _ | refine hs_ne (by omega) ?_ | assumption)), (by repeat (first | exact hs_eq _ _ _ | refine hs_ne (by omega) ?_ | assumption)), (by repeat (first | exact hs_eq _ _ _ | refine hs_ne (by omega) ?_ | assumption))⟩, fun aaa haa => by repeat (first | rfl | refine hs_ne (by omega) ?_)⟩)
                          | exact Or.inr (Or.inr (Or.inl ⟨by omega, (by first | rfl | (rw [hz21]; exact congrArg (fun qq => some (aI qq)) (by omega))), ⟨(by repeat (first | exact hs_eq _ _ _ | refine hs_ne (by omega) ?_ | assumption)), (by repeat (first | exact hs_eq _ _ _ | refine hs_ne (by omega) ?_ | assumption)), (by repeat (first | exact hs_eq _ _ _ | refine hs_ne (by omega) ?_ | assumption)), (by repeat (first | exact hs_eq _ _ _ | refine hs_ne (by omega) ?_ | assumption)), (by repeat (first | exact hs_eq _ _ _ | refine hs_ne (by omega) ?_ | assumption)), (by repeat (first | exact hs_eq _ _ _ | refine hs_ne (by omega) ?_ | assumption))⟩, fun aaa haa => by repeat (first | rfl | refine hs_ne (by omega) ?_)⟩))
                          | exact Or.inr (Or.inr (Or.inr (⟨by omega, (by first | rfl | (rw [hz21]; exact congrArg (fun qq => some (aI qq)) (by omega))), ⟨(by repeat (first | exact hs_eq _ _ _ | refine hs_ne (by omega) ?_ | assumption)), (by repeat (first | exact hs_eq _ _ _ | refine hs_ne (by omega) ?_ | assumption)), (by repeat (first | exact hs_eq _ _ _ | refine hs_ne (by omega) ?_ | assumption)), (by repeat (first | exact hs_eq _ _ _ | refine hs_ne (by omega) ?_ | assumption)), (by repeat (first | exact hs_eq _ _ _ | refine hs_ne (by omega) ?_ | assumption)), (by repeat (first | exact hs_eq _ _ _ | refine hs_ne (by omega) ?_ | assumption))⟩, fun aaa haa => by repeat (first | rfl | refine hs_ne (by omega) ?_)⟩))))
                    · try (exfalso; omega)
                      all_goals (
                        refine k_iconst C dX8_hire_57 ?_
                        refine k_iret C hr dX8_hire_58 ?_
                        first
                          | exact Or.inl ⟨by omega, (by first | rfl | (rw [hz21]; exact congrArg (fun qq => some (aI qq)) (by omega))), ⟨(by repeat (first | exact hs_eq _ _ _ | refine hs_ne (by omega) ?_ | assumption)), (by repeat (first | exact hs_eq _ _ _ | refine hs_ne (by omega) ?_ | assumption)), (by repeat (first | exact hs_eq _ _ _ | refine hs_ne (by omega) ?_ | assumption)), (by repeat (first | exact hs_eq _ _ _ | refine hs_ne (by omega) ?_ | assumption)), (by repeat (first | exact hs_eq _ _ _ | refine hs_ne (by omega) ?_ | assumption)), (by repeat (first | exact hs_eq _ _ _ | refine hs_ne (by omega) ?_ | assumption))⟩, Fr.tr (Fr.tr (fun aaa haa => by repeat (first | rfl | refine hs_ne (by omega) ?_)) hF1) hF2⟩
                          | exact Or.inr (Or.inl ⟨by omega, (by first | rfl | (rw [hz21]; exact congrArg (fun qq => some (aI qq)) (by omega))), ⟨(by repeat (first | exact hs_eq _ _ _ | refine hs_ne (by omega) ?_ | assumption)), (by repeat (first | exact hs_eq _ _ _ | refine hs_ne (by omega) ?_ | assumption)), (by repeat (first | exact hs_eq _ _ _ | refine hs_ne (by omega) ?_ | assumption)), (by repeat (first | exact hs_eq _ _ _ | refine hs_ne (by omega) ?_ | assumption)), (by repeat (first | exact hs_eq _ _ _ | refine hs_ne (by omega) ?_ | assumption)), (by repeat (first | exact hs_eq _ _ _ | refine hs_ne (by omega) ?_ | assumption))⟩, fun aaa haa => by repeat (first | rfl | refine hs_ne (by omega) ?_)⟩)
                          | exact Or.inr (Or.inr (Or.inl ⟨by omega, (by first | rfl | (rw [hz21]; exact congrArg (fun qq => some (aI qq)) (by omega))), ⟨(by repeat (first | exact hs_eq _ _ _ | refine hs_ne (by omega) ?_ | assumption)), (by repeat (first | exact hs_eq _ _ _ | refine hs_ne (by omega) ?_ | assumption)), (by repeat (first | exact hs_eq _ _ _ | refine hs_ne (by omega) ?_ | assumption)), (by repeat (first | exact hs_eq _ _ _ | refine hs_ne (by omega) ?_ | assumption)), (by repeat (first | exact hs_eq _ _ _ | refine hs_ne (by omega) ?_ | assumption)), (by repeat (first | exact hs_eq _ _ _ | refine hs_ne (by omega) ?_ | assumption))⟩, fun aaa haa => by repeat (first | rfl | refine hs_ne (by omega) ?_)⟩))
                          | exact Or.inr (Or.inr (Or.inr (⟨by omega, (by first | rfl | (rw [hz21]; exact congrArg (fun qq => some (aI qq)) (by omega))), ⟨(by repeat (first | exact hs_eq _ _ _ | refine hs_ne (by omega) ?_ | assumption)), (by repeat (first | exact hs_eq _ _ _ | refine hs_ne (by omega) ?_ | assumption)), (by repeat (first | exact hs_eq _ _ _ | refine hs_ne (by omega) ?_ | assumption)), (by repeat (first | exact hs_eq _ _ _ | refine hs_ne (by omega) ?_ | assumption)), (by repeat (first | exact hs_eq _ _ _ | refine hs_ne (by omega) ?_ | assumption)), (by repeat (first | exact hs_eq _ _ _ | refine hs_ne (by omega) ?_ | assumption))⟩, fun aaa haa => by repeat (first | rfl | refine hs_ne (by omega) ?_)⟩)))))
              · skip
                refine k_if_ne (tgt := 30) C dX8_hire_23 (by decide) ⟨by omega, by omega⟩ (fun c23 => ?_) (fun c23 => ?_)
                · try (exfalso; omega)
                  all_goals (
                    refine k_aload_n C dX8_hire_30 rfl ?_
                    refine k_get C (k := 0) inX8 (ci := 8) rfl (by decide) fl_X8_7 dX8_hire_31 (by repeat (first | exact hs_eq _ _ _ | refine hs_ne (by omega) ?_ | assumption)) rfl ?_
                    refine k_bipush C dX8_hire_34 (by decide +kernel) ?_
                    refine k_iaload C dX8_hire_36 (by repeat (first | exact hs_eq _ _ _ | refine hs_ne (by omega) ?_ | assumption)) (by omega) (by omega) (by omega) ?_
                    refine k_bipush C dX8_hire_37 (by decide +kernel) ?_
                    refine k_icmp_ne (tgt := 46) C dX8_hire_39 (by decide) ⟨by omega, by omega⟩ ⟨by omega, by omega⟩ (fun c39 => ?_) (fun c39 => ?_)
                    · try (exfalso; omega)
                      all_goals (
                        refine k_iconst C dX8_hire_46 ?_
                        refine k_put C (k := 5) inX8 tyX8_ok nmX8 (ci := 8) rfl (by decide) fl_X8_25 rfl (Nat.le_of_ble_eq_true rfl) dX8_hire_47 (by repeat (first | exact hs_eq _ _ _ | refine hs_ne (by omega) ?_ | assumption)) ?_
                        refine k_aload_n C dX8_hire_50 rfl ?_
                        refine k_get C (k := 5) inX8 (ci := 8) rfl (by decide) fl_X8_25 dX8_hire_51 (by repeat (first | exact hs_eq _ _ _ | refine hs_ne (by omega) ?_ | assumption)) rfl ?_
                        refine k_if_le (tgt := 59) C dX8_hire_54 (by decide) ⟨by omega, by omega⟩ (fun c54 => ?_) (fun c54 => ?_)
                        · try (exfalso; omega)
                          all_goals (
                            refine k_aload_n C dX8_hire_59 rfl ?_
                            refine k_callV C (n := 0) (as := []) (ct_X8_save l D tc base oo zrr hhi htx has hro st ln (0) re du hsh _ ⟨(by repeat (first | exact hs_eq _ _ _ | refine hs_ne (by omega) ?_ | assumption)), (by repeat (first | exact hs_eq _ _ _ | refine hs_ne (by omega) ?_ | assumption)), (by repeat (first | exact hs_eq _ _ _ | refine hs_ne (by omega) ?_ | assumption)), (by repeat (first | exact hs_eq _ _ _ | refine hs_ne (by omega) ?_ | assumption)), (by repeat (first | exact hs_eq _ _ _ | refine hs_ne (by omega) ?_ | assumption)), (by repeat (first | exact hs_eq _ _ _ | refine hs_ne (by omega) ?_ | assumption))⟩ hst) ml_X8_102 im_X8_save se_X8_save ini_X8 co_X8_save ⟨rfl, by decide, by decide, by decide +kernel⟩ rfl (ci := 8) rfl (by repeat (first | exact hs_eq _ _ _ | refine hs_ne (by omega) ?_ | assumption)) ⟨by decide, by decide⟩ rfl (Nat.le_of_ble_eq_true rfl) ⟨Nat.zero_le _, Nat.zero_le _⟩ dX8_hire_60 ?_
                            rintro _ _ ⟨rfl, hM1, hF1⟩
                            obtain ⟨k0, k1, k2, k3, k4, k5⟩ := id hM1
                            refine k_aload_n C dX8_hire_63 rfl ?_
                            refine k_iload_n C dX8_hire_64 rfl ?_
                            refine k_iload_n C dX8_hire_65 rfl ?_
                            refine k_iload_n C dX8_hire_66 rfl ?_
                            refine k_callV C (n := 3) (as := [_, _, _]) (ct_X8_comes l D tc base oo zrr _ _ _ _ _ _ _ _ _ _ _ hM1 _ _ _ ⟨by omega, by omega⟩) ml_X8_115 im_X8_comes se_X8_comes ini_X8 co_X8_comes ⟨rfl, by decide, by decide, by decide +kernel⟩ rfl (ci := 8) rfl (by repeat (first | exact hs_eq _ _ _ | refine hs_ne (by omega) ?_ | assumption)) ⟨by decide, by decide⟩ rfl (Nat.le_of_ble_eq_true rfl) ⟨Nat.zero_le _, Nat.zero_le _⟩ dX8_hire_67 ?_
                            rintro _ _ ⟨rfl, hM2, hF2⟩
                            obtain ⟨k0, k1, k2, k3, k4, k5⟩ := id hM2
                            have hz21 : zComes zrr ww tt pd 21 = zrr 21 + 1 := iu_eq _ _ _
                            refine k_aload_n C dX8_hire_70 rfl ?_
                            refine k_get C (k := 0) inX8 (ci := 8) rfl (by decide) fl_X8_7 dX8_hire_71 (by repeat (first | exact hs_eq _ _ _ | refine hs_ne (by omega) ?_ | assumption)) rfl ?_
                            refine k_bipush C dX8_hire_74 (by decide +kernel) ?_
                            refine k_iaload C dX8_hire_76 (by repeat (first | exact hs_eq _ _ _ | refine hs_ne (by omega) ?_ | assumption)) (by omega) (by omega) (by omega) ?_
                            refine k_iconst C dX8_hire_77 ?_
                            refine k_isub C dX8_hire_78 ?_
                            refine k_iret C hr dX8_hire_79 ?_
                            first
                              | exact Or.inl ⟨by omega, (by first | rfl | (rw [hz21]; exact congrArg (fun qq => some (aI qq)) (by omega))), ⟨(by repeat (first | exact hs_eq _ _ _ | refine hs_ne (by omega) ?_ | assumption)), (by repeat (first | exact hs_eq _ _ _ | refine hs_ne (by omega) ?_ | assumption)), (by repeat (first | exact hs_eq _ _ _ | refine hs_ne (by omega) ?_ | assumption)), (by repeat (first | exact hs_eq _ _ _ | refine hs_ne (by omega) ?_ | assumption)), (by repeat (first | exact hs_eq _ _ _ | refine hs_ne (by omega) ?_ | assumption)), (by repeat (first | exact hs_eq _ _ _ | refine hs_ne (by omega) ?_ | assumption))⟩, Fr.tr (Fr.tr (fun aaa haa => by repeat (first | rfl | refine hs_ne (by omega) ?_)) hF1) hF2⟩
                              | exact Or.inr (Or.inl ⟨by omega, (by first | rfl | (rw [hz21]; exact congrArg (fun qq => some (aI qq)) (by omega))), ⟨(by repeat (first | exact hs_eq _ _ _ | refine hs_ne (by omega) ?_ | assumption)), (by repeat (first | exact hs_eq _ _ _ | refine hs_ne (by omega) ?_ | assumption)), (by repeat (first | exact hs_eq _ _ _ | refine hs_ne (by omega) ?_ | assumption)), (by repeat (first | exact hs_eq _ _ _ | refine hs_ne (by omega) ?_ | assumption)), (by repeat (first | exact hs_eq _ _ _ | refine hs_ne (by omega) ?_ | assumption)), (by repeat (first | exact hs_eq _ _ _ | refine hs_ne (by omega) ?_ | assumption))⟩, fun aaa haa => by repeat (first | rfl | refine hs_ne (by omega) ?_)⟩)
                              | exact Or.inr (Or.inr (Or.inl ⟨by omega, (by first | rfl | (rw [hz21]; exact congrArg (fun qq => some (aI qq)) (by omega))), ⟨(by repeat (first | exact hs_eq _ _ _ | refine hs_ne (by omega) ?_ | assumption)), (by repeat (first | exact hs_eq _ _ _ | refine hs_ne (by omega) ?_ | assumption)), (by repeat (first | exact hs_eq _ _ _ | refine hs_ne (by omega) ?_ | assumption)), (by repeat (first | exact hs_eq _ _ _ | refine hs_ne (by omega) ?_ | assumption)), (by repeat (first | exact hs_eq _ _ _ | refine hs_ne (by omega) ?_ | assumption)), (by repeat (first | exact hs_eq _ _ _ | refine hs_ne (by omega) ?_ | assumption))⟩, fun aaa haa => by repeat (first | rfl | refine hs_ne (by omega) ?_)⟩))
                              | exact Or.inr (Or.inr (Or.inr (⟨by omega, (by first | rfl | (rw [hz21]; exact congrArg (fun qq => some (aI qq)) (by omega))), ⟨(by repeat (first | exact hs_eq _ _ _ | refine hs_ne (by omega) ?_ | assumption)), (by repeat (first | exact hs_eq _ _ _ | refine hs_ne (by omega) ?_ | assumption)), (by repeat (first | exact hs_eq _ _ _ | refine hs_ne (by omega) ?_ | assumption)), (by repeat (first | exact hs_eq _ _ _ | refine hs_ne (by omega) ?_ | assumption)), (by repeat (first | exact hs_eq _ _ _ | refine hs_ne (by omega) ?_ | assumption)), (by repeat (first | exact hs_eq _ _ _ | refine hs_ne (by omega) ?_ | assumption))⟩, fun aaa haa => by repeat (first | rfl | refine hs_ne (by omega) ?_)⟩))))
                        · try (exfalso; omega)
                          all_goals (
                            refine k_iconst C dX8_hire_57 ?_
                            refine k_iret C hr dX8_hire_58 ?_
                            first
                              | exact Or.inl ⟨by omega, (by first | rfl | (rw [hz21]; exact congrArg (fun qq => some (aI qq)) (by omega))), ⟨(by repeat (first | exact hs_eq _ _ _ | refine hs_ne (by omega) ?_ | assumption)), (by repeat (first | exact hs_eq _ _ _ | refine hs_ne (by omega) ?_ | assumption)), (by repeat (first | exact hs_eq _ _ _ | refine hs_ne (by omega) ?_ | assumption)), (by repeat (first | exact hs_eq _ _ _ | refine hs_ne (by omega) ?_ | assumption)), (by repeat (first | exact hs_eq _ _ _ | refine hs_ne (by omega) ?_ | assumption)), (by repeat (first | exact hs_eq _ _ _ | refine hs_ne (by omega) ?_ | assumption))⟩, Fr.tr (Fr.tr (fun aaa haa => by repeat (first | rfl | refine hs_ne (by omega) ?_)) hF1) hF2⟩
                              | exact Or.inr (Or.inl ⟨by omega, (by first | rfl | (rw [hz21]; exact congrArg (fun qq => some (aI qq)) (by omega))), ⟨(by repeat (first | exact hs_eq _ _ _ | refine hs_ne (by omega) ?_ | assumption)), (by repeat (first | exact hs_eq _ _ _ | refine hs_ne (by omega) ?_ | assumption)), (by repeat (first | exact hs_eq _ _ _ | refine hs_ne (by omega) ?_ | assumption)), (by repeat (first | exact hs_eq _ _ _ | refine hs_ne (by omega) ?_ | assumption)), (by repeat (first | exact hs_eq _ _ _ | refine hs_ne (by omega) ?_ | assumption)), (by repeat (first | exact hs_eq _ _ _ | refine hs_ne (by omega) ?_ | assumption))⟩, fun aaa haa => by repeat (first | rfl | refine hs_ne (by omega) ?_)⟩)
                              | exact Or.inr (Or.inr (Or.inl ⟨by omega, (by first | rfl | (rw [hz21]; exact congrArg (fun qq => some (aI qq)) (by omega))), ⟨(by repeat (first | exact hs_eq _ _ _ | refine hs_ne (by omega) ?_ | assumption)), (by repeat (first | exact hs_eq _ _ _ | refine hs_ne (by omega) ?_ | assumption)), (by repeat (first | exact hs_eq _ _ _ | refine hs_ne (by omega) ?_ | assumption)), (by repeat (first | exact hs_eq _ _ _ | refine hs_ne (by omega) ?_ | assumption)), (by repeat (first | exact hs_eq _ _ _ | refine hs_ne (by omega) ?_ | assumption)), (by repeat (first | exact hs_eq _ _ _ | refine hs_ne (by omega) ?_ | assumption))⟩, fun aaa haa => by repeat (first | rfl | refine hs_ne (by omega) ?_)⟩))
                              | exact Or.inr (Or.inr (Or.inr (⟨by omega, (by first | rfl | (rw [hz21]; exact congrArg (fun qq => some (aI qq)) (by omega))), ⟨(by repeat (first | exact hs_eq _ _ _ | refine hs_ne (by omega) ?_ | assumption)), (by repeat (first | exact hs_eq _ _ _ | refine hs_ne (by omega) ?_ | assumption)), (by repeat (first | exact hs_eq _ _ _ | refine hs_ne (by omega) ?_ | assumption)), (by repeat (first | exact hs_eq _ _ _ | refine hs_ne (by omega) ?_ | assumption)), (by repeat (first | exact hs_eq _ _ _ | refine hs_ne (by omega) ?_ | assumption)), (by repeat (first | exact hs_eq _ _ _ | refine hs_ne (by omega) ?_ | assumption))⟩, fun aaa haa => by repeat (first | rfl | refine hs_ne (by omega) ?_)⟩)))))
                    · try (exfalso; omega)
                      all_goals (
                        refine k_iconst C dX8_hire_42 ?_
                        refine k_goto (tgt := 47) C dX8_hire_43 (by decide) ?_
                        refine k_put C (k := 5) inX8 tyX8_ok nmX8 (ci := 8) rfl (by decide) fl_X8_25 rfl (Nat.le_of_ble_eq_true rfl) dX8_hire_47 (by repeat (first | exact hs_eq _ _ _ | refine hs_ne (by omega) ?_ | assumption)) ?_
                        refine k_aload_n C dX8_hire_50 rfl ?_
                        refine k_get C (k := 5) inX8 (ci := 8) rfl (by decide) fl_X8_25 dX8_hire_51 (by repeat (first | exact hs_eq _ _ _ | refine hs_ne (by omega) ?_ | assumption)) rfl ?_
                        refine k_if_le (tgt := 59) C dX8_hire_54 (by decide) ⟨by omega, by omega⟩ (fun c54 => ?_) (fun c54 => ?_)
                        · try (exfalso; omega)
                          all_goals (
                            refine k_aload_n C dX8_hire_59 rfl ?_
                            refine k_callV C (n := 0) (as := []) (ct_X8_save l D tc base oo zrr hhi htx has hro st ln (0) re du hsh _ ⟨(by repeat (first | exact hs_eq _ _ _ | refine hs_ne (by omega) ?_ | assumption)), (by repeat (first | exact hs_eq _ _ _ | refine hs_ne (by omega) ?_ | assumption)), (by repeat (first | exact hs_eq _ _ _ | refine hs_ne (by omega) ?_ | assumption)), (by repeat (first | exact hs_eq _ _ _ | refine hs_ne (by omega) ?_ | assumption)), (by repeat (first | exact hs_eq _ _ _ | refine hs_ne (by omega) ?_ | assumption)), (by repeat (first | exact hs_eq _ _ _ | refine hs_ne (by omega) ?_ | assumption))⟩ hst) ml_X8_102 im_X8_save se_X8_save ini_X8 co_X8_save ⟨rfl, by decide, by decide, by decide +kernel⟩ rfl (ci := 8) rfl (by repeat (first | exact hs_eq _ _ _ | refine hs_ne (by omega) ?_ | assumption)) ⟨by decide, by decide⟩ rfl (Nat.le_of_ble_eq_true rfl) ⟨Nat.zero_le _, Nat.zero_le _⟩ dX8_hire_60 ?_
                            rintro _ _ ⟨rfl, hM1, hF1⟩
                            obtain ⟨k0, k1, k2, k3, k4, k5⟩ := id hM1
                            refine k_aload_n C dX8_hire_63 rfl ?_
                            refine k_iload_n C dX8_hire_64 rfl ?_
                            refine k_iload_n C dX8_hire_65 rfl ?_
                            refine k_iload_n C dX8_hire_66 rfl ?_
                            refine k_callV C (n := 3) (as := [_, _, _]) (ct_X8_comes l D tc base oo zrr _ _ _ _ _ _ _ _ _ _ _ hM1 _ _ _ ⟨by omega, by omega⟩) ml_X8_115 im_X8_comes se_X8_comes ini_X8 co_X8_comes ⟨rfl, by decide, by decide, by decide +kernel⟩ rfl (ci := 8) rfl (by repeat (first | exact hs_eq _ _ _ | refine hs_ne (by omega) ?_ | assumption)) ⟨by decide, by decide⟩ rfl (Nat.le_of_ble_eq_true rfl) ⟨Nat.zero_le _, Nat.zero_le _⟩ dX8_hire_67 ?_
                            rintro _ _ ⟨rfl, hM2, hF2⟩
                            obtain ⟨k0, k1, k2, k3, k4, k5⟩ := id hM2
                            have hz21 : zComes zrr ww tt pd 21 = zrr 21 + 1 := iu_eq _ _ _
                            refine k_aload_n C dX8_hire_70 rfl ?_
                            refine k_get C (k := 0) inX8 (ci := 8) rfl (by decide) fl_X8_7 dX8_hire_71 (by repeat (first | exact hs_eq _ _ _ | refine hs_ne (by omega) ?_ | assumption)) rfl ?_
                            refine k_bipush C dX8_hire_74 (by decide +kernel) ?_
                            refine k_iaload C dX8_hire_76 (by repeat (first | exact hs_eq _ _ _ | refine hs_ne (by omega) ?_ | assumption)) (by omega) (by omega) (by omega) ?_
                            refine k_iconst C dX8_hire_77 ?_
                            refine k_isub C dX8_hire_78 ?_
                            refine k_iret C hr dX8_hire_79 ?_
                            first
                              | exact Or.inl ⟨by omega, (by first | rfl | (rw [hz21]; exact congrArg (fun qq => some (aI qq)) (by omega))), ⟨(by repeat (first | exact hs_eq _ _ _ | refine hs_ne (by omega) ?_ | assumption)), (by repeat (first | exact hs_eq _ _ _ | refine hs_ne (by omega) ?_ | assumption)), (by repeat (first | exact hs_eq _ _ _ | refine hs_ne (by omega) ?_ | assumption)), (by repeat (first | exact hs_eq _ _ _ | refine hs_ne (by omega) ?_ | assumption)), (by repeat (first | exact hs_eq _ _ _ | refine hs_ne (by omega) ?_ | assumption)), (by repeat (first | exact hs_eq _ _ _ | refine hs_ne (by omega) ?_ | assumption))⟩, Fr.tr (Fr.tr (fun aaa haa => by repeat (first | rfl | refine hs_ne (by omega) ?_)) hF1) hF2⟩
                              | exact Or.inr (Or.inl ⟨by omega, (by first | rfl | (rw [hz21]; exact congrArg (fun qq => some (aI qq)) (by omega))), ⟨(by repeat (first | exact hs_eq _ _ _ | refine hs_ne (by omega) ?_ | assumption)), (by repeat (first | exact hs_eq _ _ _ | refine hs_ne (by omega) ?_ | assumption)), (by repeat (first | exact hs_eq _ _ _ | refine hs_ne (by omega) ?_ | assumption)), (by repeat (first | exact hs_eq _ _ _ | refine hs_ne (by omega) ?_ | assumption)), (by repeat (first | exact hs_eq _ _ _ | refine hs_ne (by omega) ?_ | assumption)), (by repeat (first | exact hs_eq _ _ _ | refine hs_ne (by omega) ?_ | assumption))⟩, fun aaa haa => by repeat (first | rfl | refine hs_ne (by omega) ?_)⟩)
                              | exact Or.inr (Or.inr (Or.inl ⟨by omega, (by first | rfl | (rw [hz21]; exact congrArg (fun qq => some (aI qq)) (by omega))), ⟨(by repeat (first | exact hs_eq _ _ _ | refine hs_ne (by omega) ?_ | assumption)), (by repeat (first | exact hs_eq _ _ _ | refine hs_ne (by omega) ?_ | assumption)), (by repeat (first | exact hs_eq _ _ _ | refine hs_ne (by omega) ?_ | assumption)), (by repeat (first | exact hs_eq _ _ _ | refine hs_ne (by omega) ?_ | assumption)), (by repeat (first | exact hs_eq _ _ _ | refine hs_ne (by omega) ?_ | assumption)), (by repeat (first | exact hs_eq _ _ _ | refine hs_ne (by omega) ?_ | assumption))⟩, fun aaa haa => by repeat (first | rfl | refine hs_ne (by omega) ?_)⟩))
                              | exact Or.inr (Or.inr (Or.inr (⟨by omega, (by first | rfl | (rw [hz21]; exact congrArg (fun qq => some (aI qq)) (by omega))), ⟨(by repeat (first | exact hs_eq _ _ _ | refine hs_ne (by omega) ?_ | assumption)), (by repeat (first | exact hs_eq _ _ _ | refine hs_ne (by omega) ?_ | assumption)), (by repeat (first | exact hs_eq _ _ _ | refine hs_ne (by omega) ?_ | assumption)), (by repeat (first | exact hs_eq _ _ _ | refine hs_ne (by omega) ?_ | assumption)), (by repeat (first | exact hs_eq _ _ _ | refine hs_ne (by omega) ?_ | assumption)), (by repeat (first | exact hs_eq _ _ _ | refine hs_ne (by omega) ?_ | assumption))⟩, fun aaa haa => by repeat (first | rfl | refine hs_ne (by omega) ?_)⟩))))
                        · try (exfalso; omega)
                          all_goals (
                            refine k_iconst C dX8_hire_57 ?_
                            refine k_iret C hr dX8_hire_58 ?_
                            first
                              | exact Or.inl ⟨by omega, (by first | rfl | (rw [hz21]; exact congrArg (fun qq => some (aI qq)) (by omega))), ⟨(by repeat (first | exact hs_eq _ _ _ | refine hs_ne (by omega) ?_ | assumption)), (by repeat (first | exact hs_eq _ _ _ | refine hs_ne (by omega) ?_ | assumption)), (by repeat (first | exact hs_eq _ _ _ | refine hs_ne (by omega) ?_ | assumption)), (by repeat (first | exact hs_eq _ _ _ | refine hs_ne (by omega) ?_ | assumption)), (by repeat (first | exact hs_eq _ _ _ | refine hs_ne (by omega) ?_ | assumption)), (by repeat (first | exact hs_eq _ _ _ | refine hs_ne (by omega) ?_ | assumption))⟩, Fr.tr (Fr.tr (fun aaa haa => by repeat (first | rfl | refine hs_ne (by omega) ?_)) hF1) hF2⟩
                              | exact Or.inr (Or.inl ⟨by omega, (by first | rfl | (rw [hz21]; exact congrArg (fun qq => some (aI qq)) (by omega))), ⟨(by repeat (first | exact hs_eq _ _ _ | refine hs_ne (by omega) ?_ | assumption)), (by repeat (first | exact hs_eq _ _ _ | refine hs_ne (by omega) ?_ | assumption)), (by repeat (first | exact hs_eq _ _ _ | refine hs_ne (by omega) ?_ | assumption)), (by repeat (first | exact hs_eq _ _ _ | refine hs_ne (by omega) ?_ | assumption)), (by repeat (first | exact hs_eq _ _ _ | refine hs_ne (by omega) ?_ | assumption)), (by repeat (first | exact hs_eq _ _ _ | refine hs_ne (by omega) ?_ | assumption))⟩, fun aaa haa => by repeat (first | rfl | refine hs_ne (by omega) ?_)⟩)
                              | exact Or.inr (Or.inr (Or.inl ⟨by omega, (by first | rfl | (rw [hz21]; exact congrArg (fun qq => some (aI qq)) (by omega))), ⟨(by repeat (first | exact hs_eq _ _ _ | refine hs_ne (by omega) ?_ | assumption)), (by repeat (first | exact hs_eq _ _ _ | refine hs_ne (by omega) ?_ | assumption)), (by repeat (first | exact hs_eq _ _ _ | refine hs_ne (by omega) ?_ | assumption)), (by repeat (first | exact hs_eq _ _ _ | refine hs_ne (by omega) ?_ | assumption)), (by repeat (first | exact hs_eq _ _ _ | refine hs_ne (by omega) ?_ | assumption)), (by repeat (first | exact hs_eq _ _ _ | refine hs_ne (by omega) ?_ | assumption))⟩, fun aaa haa => by repeat (first | rfl | refine hs_ne (by omega) ?_)⟩))
                              | exact Or.inr (Or.inr (Or.inr (⟨by omega, (by first | rfl | (rw [hz21]; exact congrArg (fun qq => some (aI qq)) (by omega))), ⟨(by repeat (first | exact hs_eq _ _ _ | refine hs_ne (by omega) ?_ | assumption)), (by repeat (first | exact hs_eq _ _ _ | refine hs_ne (by omega) ?_ | assumption)), (by repeat (first | exact hs_eq _ _ _ | refine hs_ne (by omega) ?_ | assumption)), (by repeat (first | exact hs_eq _ _ _ | refine hs_ne (by omega) ?_ | assumption)), (by repeat (first | exact hs_eq _ _ _ | refine hs_ne (by omega) ?_ | assumption)), (by repeat (first | exact hs_eq _ _ _ | refine hs_ne (by omega) ?_ | assumption))⟩, fun aaa haa => by repeat (first | rfl | refine hs_ne (by omega) ?_)⟩))))))
                · try (exfalso; omega)
                  all_goals (
                    refine k_iconst C dX8_hire_26 ?_
                    refine k_goto (tgt := 47) C dX8_hire_27 (by decide) ?_
                    refine k_put C (k := 5) inX8 tyX8_ok nmX8 (ci := 8) rfl (by decide) fl_X8_25 rfl (Nat.le_of_ble_eq_true rfl) dX8_hire_47 (by repeat (first | exact hs_eq _ _ _ | refine hs_ne (by omega) ?_ | assumption)) ?_
                    refine k_aload_n C dX8_hire_50 rfl ?_
                    refine k_get C (k := 5) inX8 (ci := 8) rfl (by decide) fl_X8_25 dX8_hire_51 (by repeat (first | exact hs_eq _ _ _ | refine hs_ne (by omega) ?_ | assumption)) rfl ?_
                    refine k_if_le (tgt := 59) C dX8_hire_54 (by decide) ⟨by omega, by omega⟩ (fun c54 => ?_) (fun c54 => ?_)
                    · try (exfalso; omega)
                      all_goals (
                        refine k_aload_n C dX8_hire_59 rfl ?_
                        refine k_callV C (n := 0) (as := []) (ct_X8_save l D tc base oo zrr hhi htx has hro st ln (0) re du hsh _ ⟨(by repeat (first | exact hs_eq _ _ _ | refine hs_ne (by omega) ?_ | assumption)), (by repeat (first | exact hs_eq _ _ _ | refine hs_ne (by omega) ?_ | assumption)), (by repeat (first | exact hs_eq _ _ _ | refine hs_ne (by omega) ?_ | assumption)), (by repeat (first | exact hs_eq _ _ _ | refine hs_ne (by omega) ?_ | assumption)), (by repeat (first | exact hs_eq _ _ _ | refine hs_ne (by omega) ?_ | assumption)), (by repeat (first | exact hs_eq _ _ _ | refine hs_ne (by omega) ?_ | assumption))⟩ hst) ml_X8_102 im_X8_save se_X8_save ini_X8 co_X8_save ⟨rfl, by decide, by decide, by decide +kernel⟩ rfl (ci := 8) rfl (by repeat (first | exact hs_eq _ _ _ | refine hs_ne (by omega) ?_ | assumption)) ⟨by decide, by decide⟩ rfl (Nat.le_of_ble_eq_true rfl) ⟨Nat.zero_le _, Nat.zero_le _⟩ dX8_hire_60 ?_
                        rintro _ _ ⟨rfl, hM1, hF1⟩
                        obtain ⟨k0, k1, k2, k3, k4, k5⟩ := id hM1
                        refine k_aload_n C dX8_hire_63 rfl ?_
                        refine k_iload_n C dX8_hire_64 rfl ?_
                        refine k_iload_n C dX8_hire_65 rfl ?_
                        refine k_iload_n C dX8_hire_66 rfl ?_
                        refine k_callV C (n := 3) (as := [_, _, _]) (ct_X8_comes l D tc base oo zrr _ _ _ _ _ _ _ _ _ _ _ hM1 _ _ _ ⟨by omega, by omega⟩) ml_X8_115 im_X8_comes se_X8_comes ini_X8 co_X8_comes ⟨rfl, by decide, by decide, by decide +kernel⟩ rfl (ci := 8) rfl (by repeat (first | exact hs_eq _ _ _ | refine hs_ne (by omega) ?_ | assumption)) ⟨by decide, by decide⟩ rfl (Nat.le_of_ble_eq_true rfl) ⟨Nat.zero_le _, Nat.zero_le _⟩ dX8_hire_67 ?_
                        rintro _ _ ⟨rfl, hM2, hF2⟩
                        obtain ⟨k0, k1, k2, k3, k4, k5⟩ := id hM2
                        have hz21 : zComes zrr ww tt pd 21 = zrr 21 + 1 := iu_eq _ _ _
                        refine k_aload_n C dX8_hire_70 rfl ?_
                        refine k_get C (k := 0) inX8 (ci := 8) rfl (by decide) fl_X8_7 dX8_hire_71 (by repeat (first | exact hs_eq _ _ _ | refine hs_ne (by omega) ?_ | assumption)) rfl ?_
                        refine k_bipush C dX8_hire_74 (by decide +kernel) ?_
                        refine k_iaload C dX8_hire_76 (by repeat (first | exact hs_eq _ _ _ | refine hs_ne (by omega) ?_ | assumption)) (by omega) (by omega) (by omega) ?_
                        refine k_iconst C dX8_hire_77 ?_
                        refine k_isub C dX8_hire_78 ?_
                        refine k_iret C hr dX8_hire_79 ?_
                        first
                          | exact Or.inl ⟨by omega, (by first | rfl | (rw [hz21]; exact congrArg (fun qq => some (aI qq)) (by omega))), ⟨(by repeat (first | exact hs_eq _ _ _ | refine hs_ne (by omega) ?_ | assumption)), (by repeat (first | exact hs_eq _ _ _ | refine hs_ne (by omega) ?_ | assumption)), (by repeat (first | exact hs_eq _ _ _ | refine hs_ne (by omega) ?_ | assumption)), (by repeat (first | exact hs_eq _ _ _ | refine hs_ne (by omega) ?_ | assumption)), (by repeat (first | exact hs_eq _ _ _ | refine hs_ne (by omega) ?_ | assumption)), (by repeat (first | exact hs_eq _ _ _ | refine hs_ne (by omega) ?_ | assumption))⟩, Fr.tr (Fr.tr (fun aaa haa => by repeat (first | rfl | refine hs_ne (by omega) ?_)) hF1) hF2⟩
                          | exact Or.inr (Or.inl ⟨by omega, (by first | rfl | (rw [hz21]; exact congrArg (fun qq => some (aI qq)) (by omega))), ⟨(by repeat (first | exact hs_eq _ _ _ | refine hs_ne (by omega) ?_ | assumption)), (by repeat (first | exact hs_eq _ _ _ | refine hs_ne (by omega) ?_ | assumption)), (by repeat (first | exact hs_eq _ _ _ | refine hs_ne (by omega) ?_ | assumption)), (by repeat (first | exact hs_eq _ _ _ | refine hs_ne (by omega) ?_ | assumption)), (by repeat (first | exact hs_eq _ _ _ | refine hs_ne (by omega) ?_ | assumption)), (by repeat (first | exact hs_eq _ _ _ | refine hs_ne (by omega) ?_ | assumption))⟩, fun aaa haa => by repeat (first | rfl | refine hs_ne (by omega) ?_)⟩)
                          | exact Or.inr (Or.inr (Or.inl ⟨by omega, (by first | rfl | (rw [hz21]; exact congrArg (fun qq => some (aI qq)) (by omega))), ⟨(by repeat (first | exact hs_eq _ _ _ | refine hs_ne (by omega) ?_ | assumption)), (by repeat (first | exact hs_eq _ _ _ | refine hs_ne (by omega) ?_ | assumption)), (by repeat (first | exact hs_eq _ _ _ | refine hs_ne (by omega) ?_ | assumption)), (by repeat (first | exact hs_eq _ _ _ | refine hs_ne (by omega) ?_ | assumption)), (by repeat (first | exact hs_eq _ _ _ | refine hs_ne (by omega) ?_ | assumption)), (by repeat (first | exact hs_eq _ _ _ | refine hs_ne (by omega) ?_ | assumption))⟩, fun aaa haa => by repeat (first | rfl | refine hs_ne (by omega) ?_)⟩))
                          | exact Or.inr (Or.inr (Or.inr (⟨by omega, (by first | rfl | (rw [hz21]; exact congrArg (fun qq => some (aI qq)) (by omega))), ⟨(by repeat (first | exact hs_eq _ _ _ | refine hs_ne (by omega) ?_ | assumption)), (by repeat (first | exact hs_eq _ _ _ | refine hs_ne (by omega) ?_ | assumption)), (by repeat (first | exact hs_eq _ _ _ | refine hs_ne (by omega) ?_ | assumption)), (by repeat (first | exact hs_eq _ _ _ | refine hs_ne (by omega) ?_ | assumption)), (by repeat (first | exact hs_eq _ _ _ | refine hs_ne (by omega) ?_ | assumption)), (by repeat (first | exact hs_eq _ _ _ | refine hs_ne (by omega) ?_ | assumption))⟩, fun aaa haa => by repeat (first | rfl | refine hs_ne (by omega) ?_)⟩))))
                    · try (exfalso; omega)
                      all_goals (
                        refine k_iconst C dX8_hire_57 ?_
                        refine k_iret C hr dX8_hire_58 ?_
                        first
                          | exact Or.inl ⟨by omega, (by first | rfl | (rw [hz21]; exact congrArg (fun qq => some (aI qq)) (by omega))), ⟨(by repeat (first | exact hs_eq _ _ _ | refine hs_ne (by omega) ?_ | assumption)), (by repeat (first | exact hs_eq _ _ _ | refine hs_ne (by omega) ?_ | assumption)), (by repeat (first | exact hs_eq _ _ _ | refine hs_ne (by omega) ?_ | assumption)), (by repeat (first | exact hs_eq _ _ _ | refine hs_ne (by omega) ?_ | assumption)), (by repeat (first | exact hs_eq _ _ _ | refine hs_ne (by omega) ?_ | assumption)), (by repeat (first | exact hs_eq _ _ _ | refine hs_ne (by omega) ?_ | assumption))⟩, Fr.tr (Fr.tr (fun aaa haa => by repeat (first | rfl | refine hs_ne (by omega) ?_)) hF1) hF2⟩
                          | exact Or.inr (Or.inl ⟨by omega, (by first | rfl | (rw [hz21]; exact congrArg (fun qq => some (aI qq)) (by omega))), ⟨(by repeat (first | exact hs_eq _ _ _ | refine hs_ne (by omega) ?_ | assumption)), (by repeat (first | exact hs_eq _ _ _ | refine hs_ne (by omega) ?_ | assumption)), (by repeat (first | exact hs_eq _ _ _ | refine hs_ne (by omega) ?_ | assumption)), (by repeat (first | exact hs_eq _ _ _ | refine hs_ne (by omega) ?_ | assumption)), (by repeat (first | exact hs_eq _ _ _ | refine hs_ne (by omega) ?_ | assumption)), (by repeat (first | exact hs_eq _ _ _ | refine hs_ne (by omega) ?_ | assumption))⟩, fun aaa haa => by repeat (first | rfl | refine hs_ne (by omega) ?_)⟩)
                          | exact Or.inr (Or.inr (Or.inl ⟨by omega, (by first | rfl | (rw [hz21]; exact congrArg (fun qq => some (aI qq)) (by omega))), ⟨(by repeat (first | exact hs_eq _ _ _ | refine hs_ne (by omega) ?_ | assumption)), (by repeat (first | exact hs_eq _ _ _ | refine hs_ne (by omega) ?_ | assumption)), (by repeat (first | exact hs_eq _ _ _ | refine hs_ne (by omega) ?_ | assumption)), (by repeat (first | exact hs_eq _ _ _ | refine hs_ne (by omega) ?_ | assumption)), (by repeat (first | exact hs_eq _ _ _ | refine hs_ne (by omega) ?_ | assumption)), (by repeat (first | exact hs_eq _ _ _ | refine hs_ne (by omega) ?_ | assumption))⟩, fun aaa haa => by repeat (first | rfl | refine hs_ne (by omega) ?_)⟩))
                          | exact Or.inr (Or.inr (Or.inr (⟨by omega, (by first | rfl | (rw [hz21]; exact congrArg (fun qq => some (aI qq)) (by omega))), ⟨(by repeat (first | exact hs_eq _ _ _ | refine hs_ne (by omega) ?_ | assumption)), (by repeat (first | exact hs_eq _ _ _ | refine hs_ne (by omega) ?_ | assumption)), (by repeat (first | exact hs_eq _ _ _ | refine hs_ne (by omega) ?_ | assumption)), (by repeat (first | exact hs_eq _ _ _ | refine hs_ne (by omega) ?_ | assumption)), (by repeat (first | exact hs_eq _ _ _ | refine hs_ne (by omega) ?_ | assumption)), (by repeat (first | exact hs_eq _ _ _ | refine hs_ne (by omega) ?_ | assumption))⟩, fun aaa haa => by repeat (first | rfl | refine hs_ne (by omega) ?_)⟩))))))
        · skip
          refine k_if_eq (tgt := 26) C dX8_hire_16 (by decide) ⟨by omega, by omega⟩ (fun c16 => ?_) (fun c16 => ?_)
          · try (exfalso; omega)
            all_goals (
              refine k_iconst C dX8_hire_26 ?_
              refine k_goto (tgt := 47) C dX8_hire_27 (by decide) ?_
              refine k_put C (k := 5) inX8 tyX8_ok nmX8 (ci := 8) rfl (by decide) fl_X8_25 rfl (Nat.le_of_ble_eq_true rfl) dX8_hire_47 (by repeat (first | exact hs_eq _ _ _ | refine hs_ne (by omega) ?_ | assumption)) ?_
              refine k_aload_n C dX8_hire_50 rfl ?_
              refine k_get C (k := 5) inX8 (ci := 8) rfl (by decide) fl_X8_25 dX8_hire_51 (by repeat (first | exact hs_eq _ _ _ | refine hs_ne (by omega) ?_ | assumption)) rfl ?_
              refine k_if_le (tgt := 59) C dX8_hire_54 (by decide) ⟨by omega, by omega⟩ (fun c54 => ?_) (fun c54 => ?_)
              · try (exfalso; omega)
                all_goals (
                  refine k_aload_n C dX8_hire_59 rfl ?_
                  refine k_callV C (n := 0) (as := []) (ct_X8_save l D tc base oo zrr hhi htx has hro st ln (0) re du hsh _ ⟨(by repeat (first | exact hs_eq _ _ _ | refine hs_ne (by omega) ?_ | assumption)), (by repeat (first | exact hs_eq _ _ _ | refine hs_ne (by omega) ?_ | assumption)), (by repeat (first | exact hs_eq _ _ _ | refine hs_ne (by omega) ?_ | assumption)), (by repeat (first | exact hs_eq _ _ _ | refine hs_ne (by omega) ?_ | assumption)), (by repeat (first | exact hs_eq _ _ _ | refine hs_ne (by omega) ?_ | assumption)), (by repeat (first | exact hs_eq _ _ _ | refine hs_ne (by omega) ?_ | assumption))⟩ hst) ml_X8_102 im_X8_save se_X8_save ini_X8 co_X8_save ⟨rfl, by decide, by decide, by decide +kernel⟩ rfl (ci := 8) rfl (by repeat (first | exact hs_eq _ _ _ | refine hs_ne (by omega) ?_ | assumption)) ⟨by decide, by decide⟩ rfl (Nat.le_of_ble_eq_true rfl) ⟨Nat.zero_le _, Nat.zero_le _⟩ dX8_hire_60 ?_
                  rintro _ _ ⟨rfl, hM1, hF1⟩
                  obtain ⟨k0, k1, k2, k3, k4, k5⟩ := id hM1
                  refine k_aload_n C dX8_hire_63 rfl ?_
                  refine k_iload_n C dX8_hire_64 rfl ?_
                  refine k_iload_n C dX8_hire_65 rfl ?_
                  refine k_iload_n C dX8_hire_66 rfl ?_
                  refine k_callV C (n := 3) (as := [_, _, _]) (ct_X8_comes l D tc base oo zrr _ _ _ _ _ _ _ _ _ _ _ hM1 _ _ _ ⟨by omega, by omega⟩) ml_X8_115 im_X8_comes se_X8_comes ini_X8 co_X8_comes ⟨rfl, by decide, by decide, by decide +kernel⟩ rfl (ci := 8) rfl (by repeat (first | exact hs_eq _ _ _ | refine hs_ne (by omega) ?_ | assumption)) ⟨by decide, by decide⟩ rfl (Nat.le_of_ble_eq_true rfl) ⟨Nat.zero_le _, Nat.zero_le _⟩ dX8_hire_67 ?_
                  rintro _ _ ⟨rfl, hM2, hF2⟩
                  obtain ⟨k0, k1, k2, k3, k4, k5⟩ := id hM2
                  have hz21 : zComes zrr ww tt pd 21 = zrr 21 + 1 := iu_eq _ _ _
                  refine k_aload_n C dX8_hire_70 rfl ?_
                  refine k_get C (k := 0) inX8 (ci := 8) rfl (by decide) fl_X8_7 dX8_hire_71 (by repeat (first | exact hs_eq _ _ _ | refine hs_ne (by omega) ?_ | assumption)) rfl ?_
                  refine k_bipush C dX8_hire_74 (by decide +kernel) ?_
                  refine k_iaload C dX8_hire_76 (by repeat (first | exact hs_eq _ _ _ | refine hs_ne (by omega) ?_ | assumption)) (by omega) (by omega) (by omega) ?_
                  refine k_iconst C dX8_hire_77 ?_
                  refine k_isub C dX8_hire_78 ?_
                  refine k_iret C hr dX8_hire_79 ?_
                  first
                    | exact Or.inl ⟨by omega, (by first | rfl | (rw [hz21]; exact congrArg (fun qq => some (aI qq)) (by omega))), ⟨(by repeat (first | exact hs_eq _ _ _ | refine hs_ne (by omega) ?_ | assumption)), (by repeat (first | exact hs_eq _ _ _ | refine hs_ne (by omega) ?_ | assumption)), (by repeat (first | exact hs_eq _ _ _ | refine hs_ne (by omega) ?_ | assumption)), (by repeat (first | exact hs_eq _ _ _ | refine hs_ne (by omega) ?_ | assumption)), (by repeat (first | exact hs_eq _ _ _ | refine hs_ne (by omega) ?_ | assumption)), (by repeat (first | exact hs_eq _ _ _ | refine hs_ne (by omega) ?_ | assumption))⟩, Fr.tr (Fr.tr (fun aaa haa => by repeat (first | rfl | refine hs_ne (by omega) ?_)) hF1) hF2⟩
                    | exact Or.inr (Or.inl ⟨by omega, (by first | rfl | (rw [hz21]; exact congrArg (fun qq => some (aI qq)) (by omega))), ⟨(by repeat (first | exact hs_eq _ _ _ | refine hs_ne (by omega) ?_ | assumption)), (by repeat (first | exact hs_eq _ _ _ | refine hs_ne (by omega) ?_ | assumption)), (by repeat (first | exact hs_eq _ _ _ | refine hs_ne (by omega) ?_ | assumption)), (by repeat (first | exact hs_eq _ _ _ | refine hs_ne (by omega) ?_ | assumption)), (by repeat (first | exact hs_eq _ _ _ | refine hs_ne (by omega) ?_ | assumption)), (by repeat (first | exact hs_eq _ _ _ | refine hs_ne (by omega) ?_ | assumption))⟩, fun aaa haa => by repeat (first | rfl | refine hs_ne (by omega) ?_)⟩)
                    | exact Or.inr (Or.inr (Or.inl ⟨by omega, (by first | rfl | (rw [hz21]; exact congrArg (fun qq => some (aI qq)) (by omega))), ⟨(by repeat (first | exact hs_eq _ _ _ | refine hs_ne (by omega) ?_ | assumption)), (by repeat (first | exact hs_eq _ _ _ | refine hs_ne (by omega) ?_ | assumption)), (by repeat (first | exact hs_eq _ _ _ | refine hs_ne (by omega) ?_ | assumption)), (by repeat (first | exact hs_eq _ _ _ | refine hs_ne (by omega) ?_ | assumption)), (by repeat (first | exact hs_eq _ _ _ | refine hs_ne (by omega) ?_ | assumption)), (by repeat (first | exact hs_eq _ _ _ | refine hs_ne (by omega) ?_ | assumption))⟩, fun aaa haa => by repeat (first | rfl | refine hs_ne (by omega) ?_)⟩))
                    | exact Or.inr (Or.inr (Or.inr (⟨by omega, (by first | rfl | (rw [hz21]; exact congrArg (fun qq => some (aI qq)) (by omega))), ⟨(by repeat (first | exact hs_eq _ _ _ | refine hs_ne (by omega) ?_ | assumption)), (by repeat (first | exact hs_eq _ _ _ | refine hs_ne (by omega) ?_ | assumption)), (by repeat (first | exact hs_eq _ _ _ | refine hs_ne (by omega) ?_ | assumption)), (by repeat (first | exact hs_eq _ _ _ | refine hs_ne (by omega) ?_ | assumption)), (by repeat (first | exact hs_eq _ _ _ | refine hs_ne (by omega) ?_ | assumption)), (by repeat (first | exact hs_eq _ _ _ | refine hs_ne (by omega) ?_ | assumption))⟩, fun aaa haa => by repeat (first | rfl | refine hs_ne (by omega) ?_)⟩))))
              · try (exfalso; omega)
                all_goals (
                  refine k_iconst C dX8_hire_57 ?_
                  refine k_iret C hr dX8_hire_58 ?_
                  first
                    | exact Or.inl ⟨by omega, (by first | rfl | (rw [hz21]; exact congrArg (fun qq => some (aI qq)) (by omega))), ⟨(by repeat (first | exact hs_eq _ _ _ | refine hs_ne (by omega) ?_ | assumption)), (by repeat (first | exact hs_eq _ _ _ | refine hs_ne (by omega) ?_ | assumption)), (by repeat (first | exact hs_eq _ _ _ | refine hs_ne (by omega) ?_ | assumption)), (by repeat (first | exact hs_eq _ _ _ | refine hs_ne (by omega) ?_ | assumption)), (by repeat (first | exact hs_eq _ _ _ | refine hs_ne (by omega) ?_ | assumption)), (by repeat (first | exact hs_eq _ _ _ | refine hs_ne (by omega) ?_ | assumption))⟩, Fr.tr (Fr.tr (fun aaa haa => by repeat (first | rfl | refine hs_ne (by omega) ?_)) hF1) hF2⟩
                    | exact Or.inr (Or.inl ⟨by omega, (by first | rfl | (rw [hz21]; exact congrArg (fun qq => some (aI qq)) (by omega))), ⟨(by repeat (first | exact hs_eq _ _ _ | refine hs_ne (by omega) ?_ | assumption)), (by repeat (first | exact hs_eq _ _ _ | refine hs_ne (by omega) ?_ | assumption)), (by repeat (first | exact hs_eq _ _ _ | refine hs_ne (by omega) ?_ | assumption)), (by repeat (first | exact hs_eq _ _ _ | refine hs_ne (by omega) ?_ | assumption)), (by repeat (first | exact hs_eq _ _ _ | refine hs_ne (by omega) ?_ | assumption)), (by repeat (first | exact hs_eq _ _ _ | refine hs_ne (by omega) ?_ | assumption))⟩, fun aaa haa => by repeat (first | rfl | refine hs_ne (by omega) ?_)⟩)
                    | exact Or.inr (Or.inr (Or.inl ⟨by omega, (by first | rfl | (rw [hz21]; exact congrArg (fun qq => some (aI qq)) (by omega))), ⟨(by repeat (first | exact hs_eq _ _ _ | refine hs_ne (by omega) ?_ | assumption)), (by repeat (first | exact hs_eq _ _ _ | refine hs_ne (by omega) ?_ | assumption)), (by repeat (first | exact hs_eq _ _ _ | refine hs_ne (by omega) ?_ | assumption)), (by repeat (first | exact hs_eq _ _ _ | refine hs_ne (by omega) ?_ | assumption)), (by repeat (first | exact hs_eq _ _ _ | refine hs_ne (by omega) ?_ | assumption)), (by repeat (first | exact hs_eq _ _ _ | refine hs_ne (by omega) ?_ | assumption))⟩, fun aaa haa => by repeat (first | rfl | refine hs_ne (by omega) ?_)⟩))
                    | exact Or.inr (Or.inr (Or.inr (⟨by omega, (by first | rfl | (rw [hz21]; exact congrArg (fun qq => some (aI qq)) (by omega))), ⟨(by repeat (first | exact hs_eq _ _ _ | refine hs_ne (by omega) ?_ | assumption)), (by repeat (first | exact hs_eq _ _ _ | refine hs_ne (by omega) ?_ | assumption)), (by repeat (first | exact hs_eq _ _ _ | refine hs_ne (by omega) ?_ | assumption)), (by repeat (first | exact hs_eq _ _ _ | refine hs_ne (by omega) ?_ | assumption)), (by repeat (first | exact hs_eq _ _ _ | refine hs_ne (by omega) ?_ | assumption)), (by repeat (first | exact hs_eq _ _ _ | refine hs_ne (by omega) ?_ | assumption))⟩, fun aaa haa => by repeat (first | rfl | refine hs_ne (by omega) ?_)⟩)))))
          · try (exfalso; omega)
            all_goals (
              refine k_iload_n C dX8_hire_19 rfl ?_
              refine k_callS C (n := 1) (as := [_]) (ct_X8_isPeriod l D tc base _ _ hpd) ml_X8_112 sm_X8_isPeriod ini_X8 co_X8_isPeriod ⟨by decide, by decide, by decide +kernel⟩ rfl ⟨by decide, by decide⟩ rfl (Nat.le_of_ble_eq_true rfl) ⟨Nat.zero_le _, Nat.zero_le _⟩ dX8_hire_20 ?_
              rintro _ _ (⟨rfl, rfl, hq20⟩ | ⟨rfl, rfl, hq20⟩)
              · skip
                refine k_if_ne (tgt := 30) C dX8_hire_23 (by decide) ⟨by omega, by omega⟩ (fun c23 => ?_) (fun c23 => ?_)
                · try (exfalso; omega)
                  all_goals (
                    refine k_aload_n C dX8_hire_30 rfl ?_
                    refine k_get C (k := 0) inX8 (ci := 8) rfl (by decide) fl_X8_7 dX8_hire_31 (by repeat (first | exact hs_eq _ _ _ | refine hs_ne (by omega) ?_ | assumption)) rfl ?_
                    refine k_bipush C dX8_hire_34 (by decide +kernel) ?_
                    refine k_iaload C dX8_hire_36 (by repeat (first | exact hs_eq _ _ _ | refine hs_ne (by omega) ?_ | assumption)) (by omega) (by omega) (by omega) ?_
                    refine k_bipush C dX8_hire_37 (by decide +kernel) ?_
                    refine k_icmp_ne (tgt := 46) C dX8_hire_39 (by decide) ⟨by omega, by omega⟩ ⟨by omega, by omega⟩ (fun c39 => ?_) (fun c39 => ?_)
                    · try (exfalso; omega)
                      all_goals (
                        refine k_iconst C dX8_hire_46 ?_
                        refine k_put C (k := 5) inX8 tyX8_ok nmX8 (ci := 8) rfl (by decide) fl_X8_25 rfl (Nat.le_of_ble_eq_true rfl) dX8_hire_47 (by repeat (first | exact hs_eq _ _ _ | refine hs_ne (by omega) ?_ | assumption)) ?_
                        refine k_aload_n C dX8_hire_50 rfl ?_
                        refine k_get C (k := 5) inX8 (ci := 8) rfl (by decide) fl_X8_25 dX8_hire_51 (by repeat (first | exact hs_eq _ _ _ | refine hs_ne (by omega) ?_ | assumption)) rfl ?_
                        refine k_if_le (tgt := 59) C dX8_hire_54 (by decide) ⟨by omega, by omega⟩ (fun c54 => ?_) (fun c54 => ?_)
                        · try (exfalso; omega)
                          all_goals (
                            refine k_aload_n C dX8_hire_59 rfl ?_
                            refine k_callV C (n := 0) (as := []) (ct_X8_save l D tc base oo zrr hhi htx has hro st ln (0) re du hsh _ ⟨(by repeat (first | exact hs_eq _ _ _ | refine hs_ne (by omega) ?_ | assumption)), (by repeat (first | exact hs_eq _ _ _ | refine hs_ne (by omega) ?_ | assumption)), (by repeat (first | exact hs_eq _ _ _ | refine hs_ne (by omega) ?_ | assumption)), (by repeat (first | exact hs_eq _ _ _ | refine hs_ne (by omega) ?_ | assumption)), (by repeat (first | exact hs_eq _ _ _ | refine hs_ne (by omega) ?_ | assumption)), (by repeat (first | exact hs_eq _ _ _ | refine hs_ne (by omega) ?_ | assumption))⟩ hst) ml_X8_102 im_X8_save se_X8_save ini_X8 co_X8_save ⟨rfl, by decide, by decide, by decide +kernel⟩ rfl (ci := 8) rfl (by repeat (first | exact hs_eq _ _ _ | refine hs_ne (by omega) ?_ | assumption)) ⟨by decide, by decide⟩ rfl (Nat.le_of_ble_eq_true rfl) ⟨Nat.zero_le _, Nat.zero_le _⟩ dX8_hire_60 ?_
                            rintro _ _ ⟨rfl, hM1, hF1⟩
                            obtain ⟨k0, k1, k2, k3, k4, k5⟩ := id hM1
                            refine k_aload_n C dX8_hire_63 rfl ?_
                            refine k_iload_n C dX8_hire_64 rfl ?_
                            refine k_iload_n C dX8_hire_65 rfl ?_
                            refine k_iload_n C dX8_hire_66 rfl ?_
                            refine k_callV C (n := 3) (as := [_, _, _]) (ct_X8_comes l D tc base oo zrr _ _ _ _ _ _ _ _ _ _ _ hM1 _ _ _ ⟨by omega, by omega⟩) ml_X8_115 im_X8_comes se_X8_comes ini_X8 co_X8_comes ⟨rfl, by decide, by decide, by decide +kernel⟩ rfl (ci := 8) rfl (by repeat (first | exact hs_eq _ _ _ | refine hs_ne (by omega) ?_ | assumption)) ⟨by decide, by decide⟩ rfl (Nat.le_of_ble_eq_true rfl) ⟨Nat.zero_le _, Nat.zero_le _⟩ dX8_hire_67 ?_
                            rintro _ _ ⟨rfl, hM2, hF2⟩
                            obtain ⟨k0, k1, k2, k3, k4, k5⟩ := id hM2
                            have hz21 : zComes zrr ww tt pd 21 = zrr 21 + 1 := iu_eq _ _ _
                            refine k_aload_n C dX8_hire_70 rfl ?_
                            refine k_get C (k := 0) inX8 (ci := 8) rfl (by decide) fl_X8_7 dX8_hire_71 (by repeat (first | exact hs_eq _ _ _ | refine hs_ne (by omega) ?_ | assumption)) rfl ?_
                            refine k_bipush C dX8_hire_74 (by decide +kernel) ?_
                            refine k_iaload C dX8_hire_76 (by repeat (first | exact hs_eq _ _ _ | refine hs_ne (by omega) ?_ | assumption)) (by omega) (by omega) (by omega) ?_
                            refine k_iconst C dX8_hire_77 ?_
                            refine k_isub C dX8_hire_78 ?_
                            refine k_iret C hr dX8_hire_79 ?_
                            first
                              | exact Or.inl ⟨by omega, (by first | rfl | (rw [hz21]; exact congrArg (fun qq => some (aI qq)) (by omega))), ⟨(by repeat (first | exact hs_eq _ _ _ | refine hs_ne (by omega) ?_ | assumption)), (by repeat (first | exact hs_eq _ _ _ | refine hs_ne (by omega) ?_ | assumption)), (by repeat (first | exact hs_eq _ _ _ | refine hs_ne (by omega) ?_ | assumption)), (by repeat (first | exact hs_eq _ _ _ | refine hs_ne (by omega) ?_ | assumption)), (by repeat (first | exact hs_eq _ _ _ | refine hs_ne (by omega) ?_ | assumption)), (by repeat (first | exact hs_eq _ _ _ | refine hs_ne (by omega) ?_ | assumption))⟩, Fr.tr (Fr.tr (fun aaa haa => by repeat (first | rfl | refine hs_ne (by omega) ?_)) hF1) hF2⟩
                              | exact Or.inr (Or.inl ⟨by omega, (by first | rfl | (rw [hz21]; exact congrArg (fun qq => some (aI qq)) (by omega))), ⟨(by repeat (first | exact hs_eq _ _ _ | refine hs_ne (by omega) ?_ | assumption)), (by repeat (first | exact hs_eq _ _ _ | refine hs_ne (by omega) ?_ | assumption)), (by repeat (first | exact hs_eq _ _ _ | refine hs_ne (by omega) ?_ | assumption)), (by repeat (first | exact hs_eq _ _ _ | refine hs_ne (by omega) ?_ | assumption)), (by repeat (first | exact hs_eq _ _ _ | refine hs_ne (by omega) ?_ | assumption)), (by repeat (first | exact hs_eq _ _ _ | refine hs_ne (by omega) ?_ | assumption))⟩, fun aaa haa => by repeat (first | rfl | refine hs_ne (by omega) ?_)⟩)
                              | exact Or.inr (Or.inr (Or.inl ⟨by omega, (by first | rfl | (rw [hz21]; exact congrArg (fun qq => some (aI qq)) (by omega))), ⟨(by repeat (first | exact hs_eq _ _ _ | refine hs_ne (by omega) ?_ | assumption)), (by repeat (first | exact hs_eq _ _ _ | refine hs_ne (by omega) ?_ | assumption)), (by repeat (first | exact hs_eq _ _ _ | refine hs_ne (by omega) ?_ | assumption)), (by repeat (first | exact hs_eq _ _ _ | refine hs_ne (by omega) ?_ | assumption)), (by repeat (first | exact hs_eq _ _ _ | refine hs_ne (by omega) ?_ | assumption)), (by repeat (first | exact hs_eq _ _ _ | refine hs_ne (by omega) ?_ | assumption))⟩, fun aaa haa => by repeat (first | rfl | refine hs_ne (by omega) ?_)⟩))
                              | exact Or.inr (Or.inr (Or.inr (⟨by omega, (by first | rfl | (rw [hz21]; exact congrArg (fun qq => some (aI qq)) (by omega))), ⟨(by repeat (first | exact hs_eq _ _ _ | refine hs_ne (by omega) ?_ | assumption)), (by repeat (first | exact hs_eq _ _ _ | refine hs_ne (by omega) ?_ | assumption)), (by repeat (first | exact hs_eq _ _ _ | refine hs_ne (by omega) ?_ | assumption)), (by repeat (first | exact hs_eq _ _ _ | refine hs_ne (by omega) ?_ | assumption)), (by repeat (first | exact hs_eq _ _ _ | refine hs_ne (by omega) ?_ | assumption)), (by repeat (first | exact hs_eq _ _ _ | refine hs_ne (by omega) ?_ | assumption))⟩, fun aaa haa => by repeat (first | rfl | refine hs_ne (by omega) ?_)⟩))))
                        · try (exfalso; omega)
                          all_goals (
                            refine k_iconst C dX8_hire_57 ?_
                            refine k_iret C hr dX8_hire_58 ?_
                            first
                              | exact Or.inl ⟨by omega, (by first | rfl | (rw [hz21]; exact congrArg (fun qq => some (aI qq)) (by omega))), ⟨(by repeat (first | exact hs_eq _ _ _ | refine hs_ne (by omega) ?_ | assumption)), (by repeat (first | exact hs_eq _ _ _ | refine hs_ne (by omega) ?_ | assumption)), (by repeat (first | exact hs_eq _ _ _ | refine hs_ne (by omega) ?_ | assumption)), (by repeat (first | exact hs_eq _ _ _ | refine hs_ne (by omega) ?_ | assumption)), (by repeat (first | exact hs_eq _ _ _ | refine hs_ne (by omega) ?_ | assumption)), (by repeat (first | exact hs_eq _ _ _ | refine hs_ne (by omega) ?_ | assumption))⟩, Fr.tr (Fr.tr (fun aaa haa => by repeat (first | rfl | refine hs_ne (by omega) ?_)) hF1) hF2⟩
                              | exact Or.inr (Or.inl ⟨by omega, (by first | rfl | (rw [hz21]; exact congrArg (fun qq => some (aI qq)) (by omega))), ⟨(by repeat (first | exact hs_eq _ _ _ | refine hs_ne (by omega) ?_ | assumption)), (by repeat (first | exact hs_eq _ _ _ | refine hs_ne (by omega) ?_ | assumption)), (by repeat (first | exact hs_eq _ _ _ | refine hs_ne (by omega) ?_ | assumption)), (by repeat (first | exact hs_eq _ _ _ | refine hs_ne (by omega) ?_ | assumption)), (by repeat (first | exact hs_eq _ _ _ | refine hs_ne (by omega) ?_ | assumption)), (by repeat (first | exact hs_eq _ _ _ | refine hs_ne (by omega) ?_ | assumption))⟩, fun aaa haa => by repeat (first | rfl | refine hs_ne (by omega) ?_)⟩)
                              | exact Or.inr (Or.inr (Or.inl ⟨by omega, (by first | rfl | (rw [hz21]; exact congrArg (fun qq => some (aI qq)) (by omega))), ⟨(by repeat (first | exact hs_eq _ _ _ | refine hs_ne (by omega) ?_ | assumption)), (by repeat (first | exact hs_eq _ _ _ | refine hs_ne (by omega) ?_ | assumption)), (by repeat (first | exact hs_eq _ _ _ | refine hs_ne (by omega) ?_ | assumption)), (by repeat (first | exact hs_eq _ _ _ | refine hs_ne (by omega) ?_ | assumption)), (by repeat (first | exact hs_eq _ _ _ | refine hs_ne (by omega) ?_ | assumption)), (by repeat (first | exact hs_eq _ _ _ | refine hs_ne (by omega) ?_ | assumption))⟩, fun aaa haa => by repeat (first | rfl | refine hs_ne (by omega) ?_)⟩))
                              | exact Or.inr (Or.inr (Or.inr (⟨by omega, (by first | rfl | (rw [hz21]; exact congrArg (fun qq => some (aI qq)) (by omega))), ⟨(by repeat (first | exact hs_eq _ _ _ | refine hs_ne (by omega) ?_ | assumption)), (by repeat (first | exact hs_eq _ _ _ | refine hs_ne (by omega) ?_ | assumption)), (by repeat (first | exact hs_eq _ _ _ | refine hs_ne (by omega) ?_ | assumption)), (by repeat (first | exact hs_eq _ _ _ | refine hs_ne (by omega) ?_ | assumption)), (by repeat (first | exact hs_eq _ _ _ | refine hs_ne (by omega) ?_ | assumption)), (by repeat (first | exact hs_eq _ _ _ | refine hs_ne (by omega) ?_ | assumption))⟩, fun aaa haa => by repeat (first | rfl | refine hs_ne (by omega) ?_)⟩)))))
                    · try (exfalso; omega)
                      all_goals (
                        refine k_iconst C dX8_hire_42 ?_
                        refine k_goto (tgt := 47) C dX8_hire_43 (by decide) ?_
                        refine k_put C (k := 5) inX8 tyX8_ok nmX8 (ci := 8) rfl (by decide) fl_X8_25 rfl (Nat.le_of_ble_eq_true rfl) dX8_hire_47 (by repeat (first | exact hs_eq _ _ _ | refine hs_ne (by omega) ?_ | assumption)) ?_
                        refine k_aload_n C dX8_hire_50 rfl ?_
                        refine k_get C (k := 5) inX8 (ci := 8) rfl (by decide) fl_X8_25 dX8_hire_51 (by repeat (first | exact hs_eq _ _ _ | refine hs_ne (by omega) ?_ | assumption)) rfl ?_
                        refine k_if_le (tgt := 59) C dX8_hire_54 (by decide) ⟨by omega, by omega⟩ (fun c54 => ?_) (fun c54 => ?_)
                        · try (exfalso; omega)
                          all_goals (
                            refine k_aload_n C dX8_hire_59 rfl ?_
                            refine k_callV C (n := 0) (as := []) (ct_X8_save l D tc base oo zrr hhi htx has hro st ln (0) re du hsh _ ⟨(by repeat (first | exact hs_eq _ _ _ | refine hs_ne (by omega) ?_ | assumption)), (by repeat (first | exact hs_eq _ _ _ | refine hs_ne (by omega) ?_ | assumption)), (by repeat (first | exact hs_eq _ _ _ | refine hs_ne (by omega) ?_ | assumption)), (by repeat (first | exact hs_eq _ _ _ | refine hs_ne (by omega) ?_ | assumption)), (by repeat (first | exact hs_eq _ _ _ | refine hs_ne (by omega) ?_ | assumption)), (by repeat (first | exact hs_eq _ _ _ | refine hs_ne (by omega) ?_ | assumption))⟩ hst) ml_X8_102 im_X8_save se_X8_save ini_X8 co_X8_save ⟨rfl, by decide, by decide, by decide +kernel⟩ rfl (ci := 8) rfl (by repeat (first | exact hs_eq _ _ _ | refine hs_ne (by omega) ?_ | assumption)) ⟨by decide, by decide⟩ rfl (Nat.le_of_ble_eq_true rfl) ⟨Nat.zero_le _, Nat.zero_le _⟩ dX8_hire_60 ?_
                            rintro _ _ ⟨rfl, hM1, hF1⟩
                            obtain ⟨k0, k1, k2, k3, k4, k5⟩ := id hM1
                            refine k_aload_n C dX8_hire_63 rfl ?_
                            refine k_iload_n C dX8_hire_64 rfl ?_
                            refine k_iload_n C dX8_hire_65 rfl ?_
                            refine k_iload_n C dX8_hire_66 rfl ?_
                            refine k_callV C (n := 3) (as := [_, _, _]) (ct_X8_comes l D tc base oo zrr _ _ _ _ _ _ _ _ _ _ _ hM1 _ _ _ ⟨by omega, by omega⟩) ml_X8_115 im_X8_comes se_X8_comes ini_X8 co_X8_comes ⟨rfl, by decide, by decide, by decide +kernel⟩ rfl (ci := 8) rfl (by repeat (first | exact hs_eq _ _ _ | refine hs_ne (by omega) ?_ | assumption)) ⟨by decide, by decide⟩ rfl (Nat.le_of_ble_eq_true rfl) ⟨Nat.zero_le _, Nat.zero_le _⟩ dX8_hire_67 ?_
                            rintro _ _ ⟨rfl, hM2, hF2⟩
                            obtain ⟨k0, k1, k2, k3, k4, k5⟩ := id hM2
                            have hz21 : zComes zrr ww tt pd 21 = zrr 21 + 1 := iu_eq _ _ _
                            refine k_aload_n C dX8_hire_70 rfl ?_
                            refine k_get C (k := 0) inX8 (ci := 8) rfl (by decide) fl_X8_7 dX8_hire_71 (by repeat (first | exact hs_eq _ _ _ | refine hs_ne (by omega) ?_ | assumption)) rfl ?_
                            refine k_bipush C dX8_hire_74 (by decide +kernel) ?_
                            refine k_iaload C dX8_hire_76 (by repeat (first | exact hs_eq _ _ _ | refine hs_ne (by omega) ?_ | assumption)) (by omega) (by omega) (by omega) ?_
                            refine k_iconst C dX8_hire_77 ?_
                            refine k_isub C dX8_hire_78 ?_
                            refine k_iret C hr dX8_hire_79 ?_
                            first
                              | exact Or.inl ⟨by omega, (by first | rfl | (rw [hz21]; exact congrArg (fun qq => some (aI qq)) (by omega))), ⟨(by repeat (first | exact hs_eq _ _ _ | refine hs_ne (by omega) ?_ | assumption)), (by repeat (first | exact hs_eq _ _ _ | refine hs_ne (by omega) ?_ | assumption)), (by repeat (first | exact hs_eq _ _ _ | refine hs_ne (by omega) ?_ | assumption)), (by repeat (first | exact hs_eq _ _ _ | refine hs_ne (by omega) ?_ | assumption)), (by repeat (first | exact hs_eq _ _ _ | refine hs_ne (by omega) ?_ | assumption)), (by repeat (first | exact hs_eq _ _ _ | refine hs_ne (by omega) ?_ | assumption))⟩, Fr.tr (Fr.tr (fun aaa haa => by repeat (first | rfl | refine hs_ne (by omega) ?_)) hF1) hF2⟩
                              | exact Or.inr (Or.inl ⟨by omega, (by first | rfl | (rw [hz21]; exact congrArg (fun qq => some (aI qq)) (by omega))), ⟨(by repeat (first | exact hs_eq _ _ _ | refine hs_ne (by omega) ?_ | assumption)), (by repeat (first | exact hs_eq _ _ _ | refine hs_ne (by omega) ?_ | assumption)), (by repeat (first | exact hs_eq _ _ _ | refine hs_ne (by omega) ?_ | assumption)), (by repeat (first | exact hs_eq _ _ _ | refine hs_ne (by omega) ?_ | assumption)), (by repeat (first | exact hs_eq _ _ _ | refine hs_ne (by omega) ?_ | assumption)), (by repeat (first | exact hs_eq _ _ _ | refine hs_ne (by omega) ?_ | assumption))⟩, fun aaa haa => by repeat (first | rfl | refine hs_ne (by omega) ?_)⟩)
                              | exact Or.inr (Or.inr (Or.inl ⟨by omega, (by first | rfl | (rw [hz21]; exact congrArg (fun qq => some (aI qq)) (by omega))), ⟨(by repeat (first | exact hs_eq _ _ _ | refine hs_ne (by omega) ?_ | assumption)), (by repeat (first | exact hs_eq _ _ _ | refine hs_ne (by omega) ?_ | assumption)), (by repeat (first | exact hs_eq _ _ _ | refine hs_ne (by omega) ?_ | assumption)), (by repeat (first | exact hs_eq _ _ _ | refine hs_ne (by omega) ?_ | assumption)), (by repeat (first | exact hs_eq _ _ _ | refine hs_ne (by omega) ?_ | assumption)), (by repeat (first | exact hs_eq _ _ _ | refine hs_ne (by omega) ?_ | assumption))⟩, fun aaa haa => by repeat (first | rfl | refine hs_ne (by omega) ?_)⟩))
                              | exact Or.inr (Or.inr (Or.inr (⟨by omega, (by first | rfl | (rw [hz21]; exact congrArg (fun qq => some (aI qq)) (by omega))), ⟨(by repeat (first | exact hs_eq _ _ _ | refine hs_ne (by omega) ?_ | assumption)), (by repeat (first | exact hs_eq _ _ _ | refine hs_ne (by omega) ?_ | assumption)), (by repeat (first | exact hs_eq _ _ _ | refine hs_ne (by omega) ?_ | assumption)), (by repeat (first | exact hs_eq _ _ _ | refine hs_ne (by omega) ?_ | assumption)), (by repeat (first | exact hs_eq _ _ _ | refine hs_ne (by omega) ?_ | assumption)), (by repeat (first | exact hs_eq _ _ _ | refine hs_ne (by omega) ?_ | assumption))⟩, fun aaa haa => by repeat (first | rfl | refine hs_ne (by omega) ?_)⟩))))
                        · try (exfalso; omega)
                          all_goals (
                            refine k_iconst C dX8_hire_57 ?_
                            refine k_iret C hr dX8_hire_58 ?_
                            first
                              | exact Or.inl ⟨by omega, (by first | rfl | (rw [hz21]; exact congrArg (fun qq => some (aI qq)) (by omega))), ⟨(by repeat (first | exact hs_eq _ _ _ | refine hs_ne (by omega) ?_ | assumption)), (by repeat (first | exact hs_eq _ _ _ | refine hs_ne (by omega) ?_ | assumption)), (by repeat (first | exact hs_eq _ _ _ | refine hs_ne (by omega) ?_ | assumption)), (by repeat (first | exact hs_eq _ _ _ | refine hs_ne (by omega) ?_ | assumption)), (by repeat (first | exact hs_eq _ _ _ | refine hs_ne (by omega) ?_ | assumption)), (by repeat (first | exact hs_eq _ _ _ | refine hs_ne (by omega) ?_ | assumption))⟩, Fr.tr (Fr.tr (fun aaa haa => by repeat (first | rfl | refine hs_ne (by omega) ?_)) hF1) hF2⟩
                              | exact Or.inr (Or.inl ⟨by omega, (by first | rfl | (rw [hz21]; exact congrArg (fun qq => some (aI qq)) (by omega))), ⟨(by repeat (first | exact hs_eq _ _ _ | refine hs_ne (by omega) ?_ | assumption)), (by repeat (first | exact hs_eq _ _ _ | refine hs_ne (by omega) ?_ | assumption)), (by repeat (first | exact hs_eq _ _ _ | refine hs_ne (by omega) ?_ | assumption)), (by repeat (first | exact hs_eq _ _ _ | refine hs_ne (by omega) ?_ | assumption)), (by repeat (first | exact hs_eq _ _ _ | refine hs_ne (by omega) ?_ | assumption)), (by repeat (first | exact hs_eq _ _ _ | refine hs_ne (by omega) ?_ | assumption))⟩, fun aaa haa => by repeat (first | rfl | refine hs_ne (by omega) ?_)⟩)
                              | exact Or.inr (Or.inr (Or.inl ⟨by omega, (by first | rfl | (rw [hz21]; exact congrArg (fun qq => some (aI qq)) (by omega))), ⟨(by repeat (first | exact hs_eq _ _ _ | refine hs_ne (by omega) ?_ | assumption)), (by repeat (first | exact hs_eq _ _ _ | refine hs_ne (by omega) ?_ | assumption)), (by repeat (first | exact hs_eq _ _ _ | refine hs_ne (by omega) ?_ | assumption)), (by repeat (first | exact hs_eq _ _ _ | refine hs_ne (by omega) ?_ | assumption)), (by repeat (first | exact hs_eq _ _ _ | refine hs_ne (by omega) ?_ | assumption)), (by repeat (first | exact hs_eq _ _ _ | refine hs_ne (by omega) ?_ | assumption))⟩, fun aaa haa => by repeat (first | rfl | refine hs_ne (by omega) ?_)⟩))
                              | exact Or.inr (Or.inr (Or.inr (⟨by omega, (by first | rfl | (rw [hz21]; exact congrArg (fun qq => some (aI qq)) (by omega))), ⟨(by repeat (first | exact hs_eq _ _ _ | refine hs_ne (by omega) ?_ | assumption)), (by repeat (first | exact hs_eq _ _ _ | refine hs_ne (by omega) ?_ | assumption)), (by repeat (first | exact hs_eq _ _ _ | refine hs_ne (by omega) ?_ | assumption)), (by repeat (first | exact hs_eq _ _ _ | refine hs_ne (by omega) ?_ | assumption)), (by repeat (first | exact hs_eq _ _ _ | refine hs_ne (by omega) ?_ | assumption)), (by repeat (first | exact hs_eq _ _ _ | refine hs_ne (by omega) ?_ | assumption))⟩, fun aaa haa => by repeat (first | rfl | refine hs_ne (by omega) ?_)⟩))))))
                · try (exfalso; omega)
                  all_goals (
                    refine k_iconst C dX8_hire_26 ?_
                    refine k_goto (tgt := 47) C dX8_hire_27 (by decide) ?_
                    refine k_put C (k := 5) inX8 tyX8_ok nmX8 (ci := 8) rfl (by decide) fl_X8_25 rfl (Nat.le_of_ble_eq_true rfl) dX8_hire_47 (by repeat (first | exact hs_eq _ _ _ | refine hs_ne (by omega) ?_ | assumption)) ?_
                    refine k_aload_n C dX8_hire_50 rfl ?_
                    refine k_get C (k := 5) inX8 (ci := 8) rfl (by decide) fl_X8_25 dX8_hire_51 (by repeat (first | exact hs_eq _ _ _ | refine hs_ne (by omega) ?_ | assumption)) rfl ?_
                    refine k_if_le (tgt := 59) C dX8_hire_54 (by decide) ⟨by omega, by omega⟩ (fun c54 => ?_) (fun c54 => ?_)
                    · try (exfalso; omega)
                      all_goals (
                        refine k_aload_n C dX8_hire_59 rfl ?_
                        refine k_callV C (n := 0) (as := []) (ct_X8_save l D tc base oo zrr hhi htx has hro st ln (0) re du hsh _ ⟨(by repeat (first | exact hs_eq _ _ _ | refine hs_ne (by omega) ?_ | assumption)), (by repeat (first | exact hs_eq _ _ _ | refine hs_ne (by omega) ?_ | assumption)), (by repeat (first | exact hs_eq _ _ _ | refine hs_ne (by omega) ?_ | assumption)), (by repeat (first | exact hs_eq _ _ _ | refine hs_ne (by omega) ?_ | assumption)), (by repeat (first | exact hs_eq _ _ _ | refine hs_ne (by omega) ?_ | assumption)), (by repeat (first | exact hs_eq _ _ _ | refine hs_ne (by omega) ?_ | assumption))⟩ hst) ml_X8_102 im_X8_save se_X8_save ini_X8 co_X8_save ⟨rfl, by decide, by decide, by decide +kernel⟩ rfl (ci := 8) rfl (by repeat (first | exact hs_eq _ _ _ | refine hs_ne (by omega) ?_ | assumption)) ⟨by decide, by decide⟩ rfl (Nat.le_of_ble_eq_true rfl) ⟨Nat.zero_le _, Nat.zero_le _⟩ dX8_hire_60 ?_
                        rintro _ _ ⟨rfl, hM1, hF1⟩
                        obtain ⟨k0, k1, k2, k3, k4, k5⟩ := id hM1
                        refine k_aload_n C dX8_hire_63 rfl ?_
                        refine k_iload_n C dX8_hire_64 rfl ?_
                        refine k_iload_n C dX8_hire_65 rfl ?_
                        refine k_iload_n C dX8_hire_66 rfl ?_
                        refine k_callV C (n := 3) (as := [_, _, _]) (ct_X8_comes l D tc base oo zrr _ _ _ _ _ _ _ _ _ _ _ hM1 _ _ _ ⟨by omega, by omega⟩) ml_X8_115 im_X8_comes se_X8_comes ini_X8 co_X8_comes ⟨rfl, by decide, by decide, by decide +kernel⟩ rfl (ci := 8) rfl (by repeat (first | exact hs_eq _ _ _ | refine hs_ne (by omega) ?_ | assumption)) ⟨by decide, by decide⟩ rfl (Nat.le_of_ble_eq_true rfl) ⟨Nat.zero_le _, Nat.zero_le _⟩ dX8_hire_67 ?_
                        rintro _ _ ⟨rfl, hM2, hF2⟩
                        obtain ⟨k0, k1, k2, k3, k4, k5⟩ := id hM2
                        have hz21 : zComes zrr ww tt pd 21 = zrr 21 + 1 := iu_eq _ _ _
                        refine k_aload_n C dX8_hire_70 rfl ?_
                        refine k_get C (k := 0) inX8 (ci := 8) rfl (by decide) fl_X8_7 dX8_hire_71 (by repeat (first | exact hs_eq _ _ _ | refine hs_ne (by omega) ?_ | assumption)) rfl ?_
                        refine k_bipush C dX8_hire_74 (by decide +kernel) ?_
                        refine k_iaload C dX8_hire_76 (by repeat (first | exact hs_eq _ _ _ | refine hs_ne (by omega) ?_ | assumption)) (by omega) (by omega) (by omega) ?_
                        refine k_iconst C dX8_hire_77 ?_
                        refine k_isub C dX8_hire_78 ?_
                        refine k_iret C hr dX8_hire_79 ?_
                        first
                          | exact Or.inl ⟨by omega, (by first | rfl | (rw [hz21]; exact congrArg (fun qq => some (aI qq)) (by omega))), ⟨(by repeat (first | exact hs_eq _ _ _ | refine hs_ne (by omega) ?_ | assumption)), (by repeat (first | exact hs_eq _ _ _ | refine hs_ne (by omega) ?_ | assumption)), (by repeat (first | exact hs_eq _ _ _ | refine hs_ne (by omega) ?_ | assumption)), (by repeat (first | exact hs_eq _ _ _ | refine hs_ne (by omega) ?_ | assumption)), (by repeat (first | exact hs_eq _ _ _ | refine hs_ne (by omega) ?_ | assumption)), (by repeat (first | exact hs_eq _ _ _ | refine hs_ne (by omega) ?_ | assumption))⟩, Fr.tr (Fr.tr (fun aaa haa => by repeat (first | rfl | refine hs_ne (by omega) ?_)) hF1) hF2⟩
                          | exact Or.inr (Or.inl ⟨by omega, (by first | rfl | (rw [hz21]; exact congrArg (fun qq => some (aI qq)) (by omega))), ⟨(by repeat (first | exact hs_eq _ _ _ | refine hs_ne (by omega) ?_ | assumption)), (by repeat (first | exact hs_eq _ _ _ | refine hs_ne (by omega) ?_ | assumption)), (by repeat (first | exact hs_eq _ _ _ | refine hs_ne (by omega) ?_ | assumption)), (by repeat (first | exact hs_eq _ _ _ | refine hs_ne (by omega) ?_ | assumption)), (by repeat (first | exact hs_eq _ _ _ | refine hs_ne (by omega) ?_ | assumption)), (by repeat (first | exact hs_eq _ _ _ | refine hs_ne (by omega) ?_ | assumption))⟩, fun aaa haa => by repeat (first | rfl | refine hs_ne (by omega) ?_)⟩)
                          | exact Or.inr (Or.inr (Or.inl ⟨by omega, (by first | rfl | (rw [hz21]; exact congrArg (fun qq => some (aI qq)) (by omega))), ⟨(by repeat (first | exact hs_eq _ _ _ | refine hs_ne (by omega) ?_ | assumption)), (by repeat (first | exact hs_eq _ _ _ | refine hs_ne (by omega) ?_ | assumption)), (by repeat (first | exact hs_eq _ _ _ | refine hs_ne (by omega) ?_ | assumption)), (by repeat (first | exact hs_eq _ _ _ | refine hs_ne (by omega) ?_ | assumption)), (by repeat (first | exact hs_eq _ _ _ | refine hs_ne (by omega) ?_ | assumption)), (by repeat (first | exact hs_eq _ _ _ | refine hs_ne (by omega) ?_ | assumption))⟩, fun aaa haa => by repeat (first | rfl | refine hs_ne (by omega) ?_)⟩))
                          | exact Or.inr (Or.inr (Or.inr (⟨by omega, (by first | rfl | (rw [hz21]; exact congrArg (fun qq => some (aI qq)) (by omega))), ⟨(by repeat (first | exact hs_eq _ _ _ | refine hs_ne (by omega) ?_ | assumption)), (by repeat (first | exact hs_eq _ _ _ | refine hs_ne (by omega) ?_ | assumption)), (by repeat (first | exact hs_eq _ _ _ | refine hs_ne (by omega) ?_ | assumption)), (by repeat (first | exact hs_eq _ _ _ | refine hs_ne (by omega) ?_ | assumption)), (by repeat (first | exact hs_eq _ _ _ | refine hs_ne (by omega) ?_ | assumption)), (by repeat (first | exact hs_eq _ _ _ | refine hs_ne (by omega) ?_ | assumption))⟩, fun aaa haa => by repeat (first | rfl | refine hs_ne (by omega) ?_)⟩))))
                    · try (exfalso; omega)
                      all_goals (
                        refine k_iconst C dX8_hire_57 ?_
                        refine k_iret C hr dX8_hire_58 ?_
                        first
                          | exact Or.inl ⟨by omega, (by first | rfl | (rw [hz21]; exact congrArg (fun qq => some (aI qq)) (by omega))), ⟨(by repeat (first | exact hs_eq _ _ _ | refine hs_ne (by omega) ?_ | assumption)), (by repeat (first | exact hs_eq _ _ _ | refine hs_ne (by omega) ?_ | assumption)), (by repeat (first | exact hs_eq _ _ _ | refine hs_ne (by omega) ?_ | assumption)), (by repeat (first | exact hs_eq _ _ _ | refine hs_ne (by omega) ?_ | assumption)), (by repeat (first | exact hs_eq _ _ _ | refine hs_ne (by omega) ?_ | assumption)), (by repeat (first | exact hs_eq _ _ _ | refine hs_ne (by omega) ?_ | assumption))⟩, Fr.tr (Fr.tr (fun aaa haa => by repeat (first | rfl | refine hs_ne (by omega) ?_)) hF1) hF2⟩
                          | exact Or.inr (Or.inl ⟨by omega, (by first | rfl | (rw [hz21]; exact congrArg (fun qq => some (aI qq)) (by omega))), ⟨(by repeat (first | exact hs_eq _ _ _ | refine hs_ne (by omega) ?_ | assumption)), (by repeat (first | exact hs_eq _ _ _ | refine hs_ne (by omega) ?_ | assumption)), (by repeat (first | exact hs_eq _ _ _ | refine hs_ne (by omega) ?_ | assumption)), (by repeat (first | exact hs_eq _ _ _ | refine hs_ne (by omega) ?_ | assumption)), (by repeat (first | exact hs_eq _ _ _ | refine hs_ne (by omega) ?_ | assumption)), (by repeat (first | exact hs_eq _ _ _ | refine hs_ne (by omega) ?_ | assumption))⟩, fun aaa haa => by repeat (first | rfl | refine hs_ne (by omega) ?_)⟩)
                          | exact Or.inr (Or.inr (Or.inl ⟨by omega, (by first | rfl | (rw [hz21]; exact congrArg (fun qq => some (aI qq)) (by omega))), ⟨(by repeat (first | exact hs_eq _ _ _ | refine hs_ne (by omega) ?_ | assumption)), (by repeat (first | exact hs_eq _ _ _ | refine hs_ne (by omega) ?_ | assumption)), (by repeat (first | exact hs_eq _ _ _ | refine hs_ne (by omega) ?_ | assumption)), (by repeat (first | exact hs_eq _ _ _ | refine hs_ne (by omega) ?_ | assumption)), (by repeat (first | exact hs_eq _ _ _ | refine hs_ne (by omega) ?_ | assumption)), (by repeat (first | exact hs_eq _ _ _ | refine hs_ne (by omega) ?_ | assumption))⟩, fun aaa haa => by repeat (first | rfl | refine hs_ne (by omega) ?_)⟩))
                          | exact Or.inr (Or.inr (Or.inr (⟨by omega, (by first | rfl | (rw [hz21]; exact congrArg (fun qq => some (aI qq)) (by omega))), ⟨(by repeat (first | exact hs_eq _ _ _ | refine hs_ne (by omega) ?_ | assumption)), (by repeat (first | exact hs_eq _ _ _ | refine hs_ne (by omega) ?_ | assumption)), (by repeat (first | exact hs_eq _ _ _ | refine hs_ne (by omega) ?_ | assumption)), (by repeat (first | exact hs_eq _ _ _ | refine hs_ne (by omega) ?_ | assumption)), (by repeat (first | exact hs_eq _ _ _ | refine hs_ne (by omega) ?_ | assumption)), (by repeat (first | exact hs_eq _ _ _ | refine hs_ne (by omega) ?_ | assumption))⟩, fun aaa haa => by repeat (first | rfl | refine hs_ne (by omega) ?_)⟩)))))
              · skip
                refine k_if_ne (tgt := 30) C dX8_hire_23 (by decide) ⟨by omega, by omega⟩ (fun c23 => ?_) (fun c23 => ?_)
                · try (exfalso; omega)
                  all_goals (
                    refine k_aload_n C dX8_hire_30 rfl ?_
                    refine k_get C (k := 0) inX8 (ci := 8) rfl (by decide) fl_X8_7 dX8_hire_31 (by repeat (first | exact hs_eq _ _ _ | refine hs_ne (by omega) ?_ | assumption)) rfl ?_
                    refine k_bipush C dX8_hire_34 (by decide +kernel) ?_
                    refine k_iaload C dX8_hire_36 (by repeat (first | exact hs_eq _ _ _ | refine hs_ne (by omega) ?_ | assumption)) (by omega) (by omega) (by omega) ?_
                    refine k_bipush C dX8_hire_37 (by decide +kernel) ?_
                    refine k_icmp_ne (tgt := 46) C dX8_hire_39 (by decide) ⟨by omega, by omega⟩ ⟨by omega, by omega⟩ (fun c39 => ?_) (fun c39 => ?_)
                    · try (exfalso; omega)
                      all_goals (
                        refine k_iconst C dX8_hire_46 ?_
                        refine k_put C (k := 5) inX8 tyX8_ok nmX8 (ci := 8) rfl (by decide) fl_X8_25 rfl (Nat.le_of_ble_eq_true rfl) dX8_hire_47 (by repeat (first | exact hs_eq _ _ _ | refine hs_ne (by omega) ?_ | assumption)) ?_
                        refine k_aload_n C dX8_hire_50 rfl ?_
                        refine k_get C (k := 5) inX8 (ci := 8) rfl (by decide) fl_X8_25 dX8_hire_51 (by repeat (first | exact hs_eq _ _ _ | refine hs_ne (by omega) ?_ | assumption)) rfl ?_
                        refine k_if_le (tgt := 59) C dX8_hire_54 (by decide) ⟨by omega, by omega⟩ (fun c54 => ?_) (fun c54 => ?_)
                        · try (exfalso; omega)
                          all_goals (
                            refine k_aload_n C dX8_hire_59 rfl ?_
                            refine k_callV C (n := 0) (as := []) (ct_X8_save l D tc base oo zrr hhi htx has hro st ln (0) re du hsh _ ⟨(by repeat (first | exact hs_eq _ _ _ | refine hs_ne (by omega) ?_ | assumption)), (by repeat (first | exact hs_eq _ _ _ | refine hs_ne (by omega) ?_ | assumption)), (by repeat (first | exact hs_eq _ _ _ | refine hs_ne (by omega) ?_ | assumption)), (by repeat (first | exact hs_eq _ _ _ | refine hs_ne (by omega) ?_ | assumption)), (by repeat (first | exact hs_eq _ _ _ | refine hs_ne (by omega) ?_ | assumption)), (by repeat (first | exact hs_eq _ _ _ | refine hs_ne (by omega) ?_ | assumption))⟩ hst) ml_X8_102 im_X8_save se_X8_save ini_X8 co_X8_save ⟨rfl, by decide, by decide, by decide +kernel⟩ rfl (ci := 8) rfl (by repeat (first | exact hs_eq _ _ _ | refine hs_ne (by omega) ?_ | assumption)) ⟨by decide, by decide⟩ rfl (Nat.le_of_ble_eq_true rfl) ⟨Nat.zero_le _, Nat.zero_le _⟩ dX8_hire_60 ?_
                            rintro _ _ ⟨rfl, hM1, hF1⟩
                            obtain ⟨k0, k1, k2, k3, k4, k5⟩ := id hM1
                            refine k_aload_n C dX8_hire_63 rfl ?_
                            refine k_iload_n C dX8_hire_64 rfl ?_
                            refine k_iload_n C dX8_hire_65 rfl ?_
                            refine k_iload_n C dX8_hire_66 rfl ?_
                            refine k_callV C (n := 3) (as := [_, _, _]) (ct_X8_comes l D tc base oo zrr _ _ _ _ _ _ _ _ _ _ _ hM1 _ _ _ ⟨by omega, by omega⟩) ml_X8_115 im_X8_comes se_X8_comes ini_X8 co_X8_comes ⟨rfl, by decide, by decide, by decide +kernel⟩ rfl (ci := 8) rfl (by repeat (first | exact hs_eq _ _ _ | refine hs_ne (by omega) ?_ | assumption)) ⟨by decide, by decide⟩ rfl (Nat.le_of_ble_eq_true rfl) ⟨Nat.zero_le _, Nat.zero_le _⟩ dX8_hire_67 ?_
                            rintro _ _ ⟨rfl, hM2, hF2⟩
                            obtain ⟨k0, k1, k2, k3, k4, k5⟩ := id hM2
                            have hz21 : zComes zrr ww tt pd 21 = zrr 21 + 1 := iu_eq _ _ _
                            refine k_aload_n C dX8_hire_70 rfl ?_
                            refine k_get C (k := 0) inX8 (ci := 8) rfl (by decide) fl_X8_7 dX8_hire_71 (by repeat (first | exact hs_eq _ _ _ | refine hs_ne (by omega) ?_ | assumption)) rfl ?_
                            refine k_bipush C dX8_hire_74 (by decide +kernel) ?_
                            refine k_iaload C dX8_hire_76 (by repeat (first | exact hs_eq _ _ _ | refine hs_ne (by omega) ?_ | assumption)) (by omega) (by omega) (by omega) ?_
                            refine k_iconst C dX8_hire_77 ?_
                            refine k_isub C dX8_hire_78 ?_
                            refine k_iret C hr dX8_hire_79 ?_
                            first
                              | exact Or.inl ⟨by omega, (by first | rfl | (rw [hz21]; exact congrArg (fun qq => some (aI qq)) (by omega))), ⟨(by repeat (first | exact hs_eq _ _ _ | refine hs_ne (by omega) ?_ | assumption)), (by repeat (first | exact hs_eq _ _ _ | refine hs_ne (by omega) ?_ | assumption)), (by repeat (first | exact hs_eq _ _ _ | refine hs_ne (by omega) ?_ | assumption)), (by repeat (first | exact hs_eq _ _ _ | refine hs_ne (by omega) ?_ | assumption)), (by repeat (first | exact hs_eq _ _ _ | refine hs_ne (by omega) ?_ | assumption)), (by repeat (first | exact hs_eq _ _ _ | refine hs_ne (by omega) ?_ | assumption))⟩, Fr.tr (Fr.tr (fun aaa haa => by repeat (first | rfl | refine hs_ne (by omega) ?_)) hF1) hF2⟩
                              | exact Or.inr (Or.inl ⟨by omega, (by first | rfl | (rw [hz21]; exact congrArg (fun qq => some (aI qq)) (by omega))), ⟨(by repeat (first | exact hs_eq _ _ _ | refine hs_ne (by omega) ?_ | assumption)), (by repeat (first | exact hs_eq _ _ _ | refine hs_ne (by omega) ?_ | assumption)), (by repeat (first | exact hs_eq _ _ _ | refine hs_ne (by omega) ?_ | assumption)), (by repeat (first | exact hs_eq _ _ _ | refine hs_ne (by omega) ?_ | assumption)), (by repeat (first | exact hs_eq _ _ _ | refine hs_ne (by omega) ?_ | assumption)), (by repeat (first | exact hs_eq _ _ _ | refine hs_ne (by omega) ?_ | assumption))⟩, fun aaa haa => by repeat (first | rfl | refine hs_ne (by omega) ?_)⟩)
                              | exact Or.inr (Or.inr (Or.inl ⟨by omega, (by first | rfl | (rw [hz21]; exact congrArg (fun qq => some (aI qq)) (by omega))), ⟨(by repeat (first | exact hs_eq _ _ _ | refine hs_ne (by omega) ?_ | assumption)), (by repeat (first | exact hs_eq _ _ _ | refine hs_ne (by omega) ?_ | assumption)), (by repeat (first | exact hs_eq _ _ _ | refine hs_ne (by omega) ?_ | assumption)), (by repeat (first | exact hs_eq _ _ _ | refine hs_ne (by omega) ?_ | assumption)), (by repeat (first | exact hs_eq _ _ _ | refine hs_ne (by omega) ?_ | assumption)), (by repeat (first | exact hs_eq _ _ _ | refine hs_ne (by omega) ?_ | assumption))⟩, fun aaa haa => by repeat (first | rfl | refine hs_ne (by omega) ?_)⟩))
                              | exact Or.inr (Or.inr (Or.inr (⟨by omega, (by first | rfl | (rw [hz21]; exact congrArg (fun qq => some (aI qq)) (by omega))), ⟨(by repeat (first | exact hs_eq _ _ _ | refine hs_ne (by omega) ?_ | assumption)), (by repeat (first | exact hs_eq _ _ _ | refine hs_ne (by omega) ?_ | assumption)), (by repeat (first | exact hs_eq _ _ _ | refine hs_ne (by omega) ?_ | assumption)), (by repeat (first | exact hs_eq _ _ _ | refine hs_ne (by omega) ?_ | assumption)), (by repeat (first | exact hs_eq _ _ _ | refine hs_ne (by omega) ?_ | assumption)), (by repeat (first | exact hs_eq _ _ _ | refine hs_ne (by omega) ?_ | assumption))⟩, fun aaa haa => by repeat (first | rfl | refine hs_ne (by omega) ?_)⟩))))
                        · try (exfalso; omega)
                          all_goals (
                            refine k_iconst C dX8_hire_57 ?_
                            refine k_iret C hr dX8_hire_58 ?_
                            first
                              | exact Or.inl ⟨by omega, (by first | rfl | (rw [hz21]; exact congrArg (fun qq => some (aI qq)) (by omega))), ⟨(by repeat (first | exact hs_eq _ _ _ | refine hs_ne (by omega) ?_ | assumption)), (by repeat (first | exact hs_eq _ _ _ | refine hs_ne (by omega) ?_ | assumption)), (by repeat (first | exact hs_eq _ _ _ | refine hs_ne (by omega) ?_ | assumption)), (by repeat (first | exact hs_eq _ _ _ | refine hs_ne (by omega) ?_ | assumption)), (by repeat (first | exact hs_eq _ _ _ | refine hs_ne (by omega) ?_ | assumption)), (by repeat (first | exact hs_eq _ _ _ | refine hs_ne (by omega) ?_ | assumption))⟩, Fr.tr (Fr.tr (fun aaa haa => by repeat (first | rfl | refine hs_ne (by omega) ?_)) hF1) hF2⟩
                              | exact Or.inr (Or.inl ⟨by omega, (by first | rfl | (rw [hz21]; exact congrArg (fun qq => some (aI qq)) (by omega))), ⟨(by repeat (first | exact hs_eq _ _ _ | refine hs_ne (by omega) ?_ | assumption)), (by repeat (first | exact hs_eq _ _ _ | refine hs_ne (by omega) ?_ | assumption)), (by repeat (first | exact hs_eq _ _ _ | refine hs_ne (by omega) ?_ | assumption)), (by repeat (first | exact hs_eq _ _ _ | refine hs_ne (by omega) ?_ | assumption)), (by repeat (first | exact hs_eq _ _ _ | refine hs_ne (by omega) ?_ | assumption)), (by repeat (first | exact hs_eq _ _ _ | refine hs_ne (by omega) ?_ | assumption))⟩, fun aaa haa => by repeat (first | rfl | refine hs_ne (by omega) ?_)⟩)
                              | exact Or.inr (Or.inr (Or.inl ⟨by omega, (by first | rfl | (rw [hz21]; exact congrArg (fun qq => some (aI qq)) (by omega))), ⟨(by repeat (first | exact hs_eq _ _ _ | refine hs_ne (by omega) ?_ | assumption)), (by repeat (first | exact hs_eq _ _ _ | refine hs_ne (by omega) ?_ | assumption)), (by repeat (first | exact hs_eq _ _ _ | refine hs_ne (by omega) ?_ | assumption)), (by repeat (first | exact hs_eq _ _ _ | refine hs_ne (by omega) ?_ | assumption)), (by repeat (first | exact hs_eq _ _ _ | refine hs_ne (by omega) ?_ | assumption)), (by repeat (first | exact hs_eq _ _ _ | refine hs_ne (by omega) ?_ | assumption))⟩, fun aaa haa => by repeat (first | rfl | refine hs_ne (by omega) ?_)⟩))
                              | exact Or.inr (Or.inr (Or.inr (⟨by omega, (by first | rfl | (rw [hz21]; exact congrArg (fun qq => some (aI qq)) (by omega))), ⟨(by repeat (first | exact hs_eq _ _ _ | refine hs_ne (by omega) ?_ | assumption)), (by repeat (first | exact hs_eq _ _ _ | refine hs_ne (by omega) ?_ | assumption)), (by repeat (first | exact hs_eq _ _ _ | refine hs_ne (by omega) ?_ | assumption)), (by repeat (first | exact hs_eq _ _ _ | refine hs_ne (by omega) ?_ | assumption)), (by repeat (first | exact hs_eq _ _ _ | refine hs_ne (by omega) ?_ | assumption)), (by repeat (first | exact hs_eq _ _ _ | refine hs_ne (by omega) ?_ | assumption))⟩, fun aaa haa => by repeat (first | rfl | refine hs_ne (by omega) ?_)⟩)))))
                    · try (exfalso; omega)
                      all_goals (
                        refine k_iconst C dX8_hire_42 ?_
                        refine k_goto (tgt := 47) C dX8_hire_43 (by decide) ?_
                        refine k_put C (k := 5) inX8 tyX8_ok nmX8 (ci := 8) rfl (by decide) fl_X8_25 rfl (Nat.le_of_ble_eq_true rfl) dX8_hire_47 (by repeat (first | exact hs_eq _ _ _ | refine hs_ne (by omega) ?_ | assumption)) ?_
                        refine k_aload_n C dX8_hire_50 rfl ?_
                        refine k_get C (k := 5) inX8 (ci := 8) rfl (by decide) fl_X8_25 dX8_hire_51 (by repeat (first | exact hs_eq _ _ _ | refine hs_ne (by omega) ?_ | assumption)) rfl ?_
                        refine k_if_le (tgt := 59) C dX8_hire_54 (by decide) ⟨by omega, by omega⟩ (fun c54 => ?_) (fun c54 => ?_)
                        · try (exfalso; omega)
                          all_goals (
                            refine k_aload_n C dX8_hire_59 rfl ?_
                            refine k_callV C (n := 0) (as := []) (ct_X8_save l D tc base oo zrr hhi htx has hro st ln (0) re du hsh _ ⟨(by repeat (first | exact hs_eq _ _ _ | refine hs_ne (by omega) ?_ | assumption)), (by repeat (first | exact hs_eq _ _ _ | refine hs_ne (by omega) ?_ | assumption)), (by repeat (first | exact hs_eq _ _ _ | refine hs_ne (by omega) ?_ | assumption)), (by repeat (first | exact hs_eq _ _ _ | refine hs_ne (by omega) ?_ | assumption)), (by repeat (first | exact hs_eq _ _ _ | refine hs_ne (by omega) ?_ | assumption)), (by repeat (first | exact hs_eq _ _ _ | refine hs_ne (by omega) ?_ | assumption))⟩ hst) ml_X8_102 im_X8_save se_X8_save ini_X8 co_X8_save ⟨rfl, by decide, by decide, by decide +kernel⟩ rfl (ci := 8) rfl (by repeat (first | exact hs_eq _ _ _ | refine hs_ne (by omega) ?_ | assumption)) ⟨by decide, by decide⟩ rfl (Nat.le_of_ble_eq_true rfl) ⟨Nat.zero_le _, Nat.zero_le _⟩ dX8_hire_60 ?_
                            rintro _ _ ⟨rfl, hM1, hF1⟩
                            obtain ⟨k0, k1, k2, k3, k4, k5⟩ := id hM1
                            refine k_aload_n C dX8_hire_63 rfl ?_
                            refine k_iload_n C dX8_hire_64 rfl ?_
                            refine k_iload_n C dX8_hire_65 rfl ?_
                            refine k_iload_n C dX8_hire_66 rfl ?_
                            refine k_callV C (n := 3) (as := [_, _, _]) (ct_X8_comes l D tc base oo zrr _ _ _ _ _ _ _ _ _ _ _ hM1 _ _ _ ⟨by omega, by omega⟩) ml_X8_115 im_X8_comes se_X8_comes ini_X8 co_X8_comes ⟨rfl, by decide, by decide, by decide +kernel⟩ rfl (ci := 8) rfl (by repeat (first | exact hs_eq _ _ _ | refine hs_ne (by omega) ?_ | assumption)) ⟨by decide, by decide⟩ rfl (Nat.le_of_ble_eq_true rfl) ⟨Nat.zero_le _, Nat.zero_le _⟩ dX8_hire_67 ?_
                            rintro _ _ ⟨rfl, hM2, hF2⟩
                            obtain ⟨k0, k1, k2, k3, k4, k5⟩ := id hM2
                            have hz21 : zComes zrr ww tt pd 21 = zrr 21 + 1 := iu_eq _ _ _
                            refine k_aload_n C dX8_hire_70 rfl ?_
                            refine k_get C (k := 0) inX8 (ci := 8) rfl (by decide) fl_X8_7 dX8_hire_71 (by repeat (first | exact hs_eq _ _ _ | refine hs_ne (by omega) ?_ | assumption)) rfl ?_
                            refine k_bipush C dX8_hire_74 (by decide +kernel) ?_
                            refine k_iaload C dX8_hire_76 (by repeat (first | exact hs_eq _ _ _ | refine hs_ne (by omega) ?_ | assumption)) (by omega) (by omega) (by omega) ?_
                            refine k_iconst C dX8_hire_77 ?_
                            refine k_isub C dX8_hire_78 ?_
                            refine k_iret C hr dX8_hire_79 ?_
                            first
                              | exact Or.inl ⟨by omega, (by first | rfl | (rw [hz21]; exact congrArg (fun qq => some (aI qq)) (by omega))), ⟨(by repeat (first | exact hs_eq _ _ _ | refine hs_ne (by omega) ?_ | assumption)), (by repeat (first | exact hs_eq _ _ _ | refine hs_ne (by omega) ?_ | assumption)), (by repeat (first | exact hs_eq _ _ _ | refine hs_ne (by omega) ?_ | assumption)), (by repeat (first | exact hs_eq _ _ _ | refine hs_ne (by omega) ?_ | assumption)), (by repeat (first | exact hs_eq _ _ _ | refine hs_ne (by omega) ?_ | assumption)), (by repeat (first | exact hs_eq _ _ _ | refine hs_ne (by omega) ?_ | assumption))⟩, Fr.tr (Fr.tr (fun aaa haa => by repeat (first | rfl | refine hs_ne (by omega) ?_)) hF1) hF2⟩
                              | exact Or.inr (Or.inl ⟨by omega, (by first | rfl | (rw [hz21]; exact congrArg (fun qq => some (aI qq)) (by omega))), ⟨(by repeat (first | exact hs_eq _ _ _ | refine hs_ne (by omega) ?_ | assumption)), (by repeat (first | exact hs_eq _ _ _ | refine hs_ne (by omega) ?_ | assumption)), (by repeat (first | exact hs_eq _ _ _ | refine hs_ne (by omega) ?_ | assumption)), (by repeat (first | exact hs_eq _ _ _ | refine hs_ne (by omega) ?_ | assumption)), (by repeat (first | exact hs_eq _ _ _ | refine hs_ne (by omega) ?_ | assumption)), (by repeat (first | exact hs_eq _ _ _ | refine hs_ne (by omega) ?_ | assumption))⟩, fun aaa haa => by repeat (first | rfl | refine hs_ne (by omega) ?_)⟩)
                              | exact Or.inr (Or.inr (Or.inl ⟨by omega, (by first | rfl | (rw [hz21]; exact congrArg (fun qq => some (aI qq)) (by omega))), ⟨(by repeat (first | exact hs_eq _ _ _ | refine hs_ne (by omega) ?_ | assumption)), (by repeat (first | exact hs_eq _ _ _ | refine hs_ne (by omega) ?_ | assumption)), (by repeat (first | exact hs_eq _ _ _ | refine hs_ne (by omega) ?_ | assumption)), (by repeat (first | exact hs_eq _ _ _ | refine hs_ne (by omega) ?_ | assumption)), (by repeat (first | exact hs_eq _ _ _ | refine hs_ne (by omega) ?_ | assumption)), (by repeat (first | exact hs_eq _ _ _ | refine hs_ne (by omega) ?_ | assumption))⟩, fun aaa haa => by repeat (first | rfl | refine hs_ne (by omega) ?_)⟩))
                              | exact Or.inr (Or.inr (Or.inr (⟨by omega, (by first | rfl | (rw [hz21]; exact congrArg (fun qq => some (aI qq)) (by omega))), ⟨(by repeat (first | exact hs_eq _ _ _ | refine hs_ne (by omega) ?_ | assumption)), (by repeat (first | exact hs_eq _ _ _ | refine hs_ne (by omega) ?_ | assumption)), (by repeat (first | exact hs_eq _ _ _ | refine hs_ne (by omega) ?_ | assumption)), (by repeat (first | exact hs_eq _ _ _ | refine hs_ne (by omega) ?_ | assumption)), (by repeat (first | exact hs_eq _ _ _ | refine hs_ne (by omega) ?_ | assumption)), (by repeat (first | exact hs_eq _ _ _ | refine hs_ne (by omega) ?_ | assumption))⟩, fun aaa haa => by repeat (first | rfl | refine hs_ne (by omega) ?_)⟩))))
                        · try (exfalso; omega)
                          all_goals (
                            refine k_iconst C dX8_hire_57 ?_
                            refine k_iret C hr dX8_hire_58 ?_
                            first
                              | exact Or.inl ⟨by omega, (by first | rfl | (rw [hz21]; exact congrArg (fun qq => some (aI qq)) (by omega))), ⟨(by repeat (first | exact hs_eq _ _ _ | refine hs_ne (by omega) ?_ | assumption)), (by repeat (first | exact hs_eq _ _ _ | refine hs_ne (by omega) ?_ | assumption)), (by repeat (first | exact hs_eq _ _ _ | refine hs_ne (by omega) ?_ | assumption)), (by repeat (first | exact hs_eq _ _ _ | refine hs_ne (by omega) ?_ | assumption)), (by repeat (first | exact hs_eq _ _ _ | refine hs_ne (by omega) ?_ | assumption)), (by repeat (first | exact hs_eq _ _ _ | refine hs_ne (by omega) ?_ | assumption))⟩, Fr.tr (Fr.tr (fun aaa haa => by repeat (first | rfl | refine hs_ne (by omega) ?_)) hF1) hF2⟩
                              | exact Or.inr (Or.inl ⟨by omega, (by first | rfl | (rw [hz21]; exact congrArg (fun qq => some (aI qq)) (by omega))), ⟨(by repeat (first | exact hs_eq _ _ _ | refine hs_ne (by omega) ?_ | assumption)), (by repeat (first | exact hs_eq _ _ _ | refine hs_ne (by omega) ?_ | assumption)), (by repeat (first | exact hs_eq _ _ _ | refine hs_ne (by omega) ?_ | assumption)), (by repeat (first | exact hs_eq _ _ _ | refine hs_ne (by omega) ?_ | assumption)), (by repeat (first | exact hs_eq _ _ _ | refine hs_ne (by omega) ?_ | assumption)), (by repeat (first | exact hs_eq _ _ _ | refine hs_ne (by omega) ?_ | assumption))⟩, fun aaa haa => by repeat (first | rfl | refine hs_ne (by omega) ?_)⟩)
                              | exact Or.inr (Or.inr (Or.inl ⟨by omega, (by first | rfl | (rw [hz21]; exact congrArg (fun qq => some (aI qq)) (by omega))), ⟨(by repeat (first | exact hs_eq _ _ _ | refine hs_ne (by omega) ?_ | assumption)), (by repeat (first | exact hs_eq _ _ _ | refine hs_ne (by omega) ?_ | assumption)), (by repeat (first | exact hs_eq _ _ _ | refine hs_ne (by omega) ?_ | assumption)), (by repeat (first | exact hs_eq _ _ _ | refine hs_ne (by omega) ?_ | assumption)), (by repeat (first | exact hs_eq _ _ _ | refine hs_ne (by omega) ?_ | assumption)), (by repeat (first | exact hs_eq _ _ _ | refine hs_ne (by omega) ?_ | assumption))⟩, fun aaa haa => by repeat (first | rfl | refine hs_ne (by omega) ?_)⟩))
                              | exact Or.inr (Or.inr (Or.inr (⟨by omega, (by first | rfl | (rw [hz21]; exact congrArg (fun qq => some (aI qq)) (by omega))), ⟨(by repeat (first | exact hs_eq _ _ _ | refine hs_ne (by omega) ?_ | assumption)), (by repeat (first | exact hs_eq _ _ _ | refine hs_ne (by omega) ?_ | assumption)), (by repeat (first | exact hs_eq _ _ _ | refine hs_ne (by omega) ?_ | assumption)), (by repeat (first | exact hs_eq _ _ _ | refine hs_ne (by omega) ?_ | assumption)), (by repeat (first | exact hs_eq _ _ _ | refine hs_ne (by omega) ?_ | assumption)), (by repeat (first | exact hs_eq _ _ _ | refine hs_ne (by omega) ?_ | assumption))⟩, fun aaa haa => by repeat (first | rfl | refine hs_ne (by omega) ?_)⟩))))))
                · try (exfalso; omega)
                  all_goals (
                    refine k_iconst C dX8_hire_26 ?_
                    refine k_goto (tgt := 47) C dX8_hire_27 (by decide) ?_
                    refine k_put C (k := 5) inX8 tyX8_ok nmX8 (ci := 8) rfl (by decide) fl_X8_25 rfl (Nat.le_of_ble_eq_true rfl) dX8_hire_47 (by repeat (first | exact hs_eq _ _ _ | refine hs_ne (by omega) ?_ | assumption)) ?_
                    refine k_aload_n C dX8_hire_50 rfl ?_
                    refine k_get C (k := 5) inX8 (ci := 8) rfl (by decide) fl_X8_25 dX8_hire_51 (by repeat (first | exact hs_eq _ _ _ | refine hs_ne (by omega) ?_ | assumption)) rfl ?_
                    refine k_if_le (tgt := 59) C dX8_hire_54 (by decide) ⟨by omega, by omega⟩ (fun c54 => ?_) (fun c54 => ?_)
                    · try (exfalso; omega)
                      all_goals (
                        refine k_aload_n C dX8_hire_59 rfl ?_
                        refine k_callV C (n := 0) (as := []) (ct_X8_save l D tc base oo zrr hhi htx has hro st ln (0) re du hsh _ ⟨(by repeat (first | exact hs_eq _ _ _ | refine hs_ne (by omega) ?_ | assumption)), (by repeat (first | exact hs_eq _ _ _ | refine hs_ne (by omega) ?_ | assumption)), (by repeat (first | exact hs_eq _ _ _ | refine hs_ne (by omega) ?_ | assumption)), (by repeat (first | exact hs_eq _ _ _ | refine hs_ne (by omega) ?_ | assumption)), (by repeat (first | exact hs_eq _ _ _ | refine hs_ne (by omega) ?_ | assumption)), (by repeat (first | exact hs_eq _ _ _ | refine hs_ne (by omega) ?_ | assumption))⟩ hst) ml_X8_102 im_X8_save se_X8_save ini_X8 co_X8_save ⟨rfl, by decide, by decide, by decide +kernel⟩ rfl (ci := 8) rfl (by repeat (first | exact hs_eq _ _ _ | refine hs_ne (by omega) ?_ | assumption)) ⟨by decide, by decide⟩ rfl (Nat.le_of_ble_eq_true rfl) ⟨Nat.zero_le _, Nat.zero_le _⟩ dX8_hire_60 ?_
                        rintro _ _ ⟨rfl, hM1, hF1⟩
                        obtain ⟨k0, k1, k2, k3, k4, k5⟩ := id hM1
                        refine k_aload_n C dX8_hire_63 rfl ?_
                        refine k_iload_n C dX8_hire_64 rfl ?_
                        refine k_iload_n C dX8_hire_65 rfl ?_
                        refine k_iload_n C dX8_hire_66 rfl ?_
                        refine k_callV C (n := 3) (as := [_, _, _]) (ct_X8_comes l D tc base oo zrr _ _ _ _ _ _ _ _ _ _ _ hM1 _ _ _ ⟨by omega, by omega⟩) ml_X8_115 im_X8_comes se_X8_comes ini_X8 co_X8_comes ⟨rfl, by decide, by decide, by decide +kernel⟩ rfl (ci := 8) rfl (by repeat (first | exact hs_eq _ _ _ | refine hs_ne (by omega) ?_ | assumption)) ⟨by decide, by decide⟩ rfl (Nat.le_of_ble_eq_true rfl) ⟨Nat.zero_le _, Nat.zero_le _⟩ dX8_hire_67 ?_
                        rintro _ _ ⟨rfl, hM2, hF2⟩
                        obtain ⟨k0, k1, k2, k3, k4, k5⟩ := id hM2
                        have hz21 : zComes zrr ww tt pd 21 = zrr 21 + 1 := iu_eq _ _ _
                        refine k_aload_n C dX8_hire_70 rfl ?_
                        refine k_get C (k := 0) inX8 (ci := 8) rfl (by decide) fl_X8_7 dX8_hire_71 (by repeat (first | exact hs_eq _ _ _ | refine hs_ne (by omega) ?_ | assumption)) rfl ?_
                        refine k_bipush C dX8_hire_74 (by decide +kernel) ?_
                        refine k_iaload C dX8_hire_76 (by repeat (first | exact hs_eq _ _ _ | refine hs_ne (by omega) ?_ | assumption)) (by omega) (by omega) (by omega) ?_
                        refine k_iconst C dX8_hire_77 ?_
                        refine k_isub C dX8_hire_78 ?_
                        refine k_iret C hr dX8_hire_79 ?_
                        first
                          | exact Or.inl ⟨by omega, (by first | rfl | (rw [hz21]; exact congrArg (fun qq => some (aI qq)) (by omega))), ⟨(by repeat (first | exact hs_eq _ _ _ | refine hs_ne (by omega) ?_ | assumption)), (by repeat (first | exact hs_eq _ _ _ | refine hs_ne (by omega) ?_ | assumption)), (by repeat (first | exact hs_eq _ _ _ | refine hs_ne (by omega) ?_ | assumption)), (by repeat (first | exact hs_eq _ _ _ | refine hs_ne (by omega) ?_ | assumption)), (by repeat (first | exact hs_eq _ _ _ | refine hs_ne (by omega) ?_ | assumption)), (by repeat (first | exact hs_eq _ _ _ | refine hs_ne (by omega) ?_ | assumption))⟩, Fr.tr (Fr.tr (fun aaa haa => by repeat (first | rfl | refine hs_ne (by omega) ?_)) hF1) hF2⟩
                          | exact Or.inr (Or.inl ⟨by omega, (by first | rfl | (rw [hz21]; exact congrArg (fun qq => some (aI qq)) (by omega))), ⟨(by repeat (first | exact hs_eq _ _ _ | refine hs_ne (by omega) ?_ | assumption)), (by repeat (first | exact hs_eq _ _ _ | refine hs_ne (by omega) ?_ | assumption)), (by repeat (first | exact hs_eq _ _ _ | refine hs_ne (by omega) ?_ | assumption)), (by repeat (first | exact hs_eq _ _ _ | refine hs_ne (by omega) ?_ | assumption)), (by repeat (first | exact hs_eq _ _ _ | refine hs_ne (by omega) ?_ | assumption)), (by repeat (first | exact hs_eq _ _ _ | refine hs_ne (by omega) ?_ | assumption))⟩, fun aaa haa => by repeat (first | rfl | refine hs_ne (by omega) ?_)⟩)
                          | exact Or.inr (Or.inr (Or.inl ⟨by omega, (by first | rfl | (rw [hz21]; exact congrArg (fun qq => some (aI qq)) (by omega))), ⟨(by repeat (first | exact hs_eq _ _ _ | refine hs_ne (by omega) ?_ | assumption)), (by repeat (first | exact hs_eq _ _ _ | refine hs_ne (by omega) ?_ | assumption)), (by repeat (first | exact hs_eq _ _ _ | refine hs_ne (by omega) ?_ | assumption)), (by repeat (first | exact hs_eq _ _ _ | refine hs_ne (by omega) ?_ | assumption)), (by repeat (first | exact hs_eq _ _ _ | refine hs_ne (by omega) ?_ | assumption)), (by repeat (first | exact hs_eq _ _ _ | refine hs_ne (by omega) ?_ | assumption))⟩, fun aaa haa => by repeat (first | rfl | refine hs_ne (by omega) ?_)⟩))
                          | exact Or.inr (Or.inr (Or.inr (⟨by omega, (by first | rfl | (rw [hz21]; exact congrArg (fun qq => some (aI qq)) (by omega))), ⟨(by repeat (first | exact hs_eq _ _ _ | refine hs_ne (by omega) ?_ | assumption)), (by repeat (first | exact hs_eq _ _ _ | refine hs_ne (by omega) ?_ | assumption)), (by repeat (first | exact hs_eq _ _ _ | refine hs_ne (by omega) ?_ | assumption)), (by repeat (first | exact hs_eq _ _ _ | refine hs_ne (by omega) ?_ | assumption)), (by repeat (first | exact hs_eq _ _ _ | refine hs_ne (by omega) ?_ | assumption)), (by repeat (first | exact hs_eq _ _ _ | refine hs_ne (by omega) ?_ | assumption))⟩, fun aaa haa => by repeat (first | rfl | refine hs_ne (by omega) ?_)⟩))))
                    · try (exfalso; omega)
                      all_goals (
                        refine k_iconst C dX8_hire_57 ?_
                        refine k_iret C hr dX8_hire_58 ?_
                        first
                          | exact Or.inl ⟨by omega, (by first | rfl | (rw [hz21]; exact congrArg (fun qq => some (aI qq)) (by omega))), ⟨(by repeat (first | exact hs_eq _ _ _ | refine hs_ne (by omega) ?_ | assumption)), (by repeat (first | exact hs_eq _ _ _ | refine hs_ne (by omega) ?_ | assumption)), (by repeat (first | exact hs_eq _ _ _ | refine hs_ne (by omega) ?_ | assumption)), (by repeat (first | exact hs_eq _ _ _ | refine hs_ne (by omega) ?_ | assumption)), (by repeat (first | exact hs_eq _ _ _ | refine hs_ne (by omega) ?_ | assumption)), (by repeat (first | exact hs_eq _ _ _ | refine hs_ne (by omega) ?_ | assumption))⟩, Fr.tr (Fr.tr (fun aaa haa => by repeat (first | rfl | refine hs_ne (by omega) ?_)) hF1) hF2⟩
                          | exact Or.inr (Or.inl ⟨by omega, (by first | rfl | (rw [hz21]; exact congrArg (fun qq => some (aI qq)) (by omega))), ⟨(by repeat (first | exact hs_eq _ _ _ | refine hs_ne (by omega) ?_ | assumption)), (by repeat (first | exact hs_eq _ _ _ | refine hs_ne (by omega) ?_ | assumption)), (by repeat (first | exact hs_eq _ _ _ | refine hs_ne (by omega) ?_ | assumption)), (by repeat (first | exact hs_eq _ _ _ | refine hs_ne (by omega) ?_ | assumption)), (by repeat (first | exact hs_eq _ _ _ | refine hs_ne (by omega) ?_ | assumption)), (by repeat (first | exact hs_eq _ _ _ | refine hs_ne (by omega) ?_ | assumption))⟩, fun aaa haa => by repeat (first | rfl | refine hs_ne (by omega) ?_)⟩)
                          | exact Or.inr (Or.inr (Or.inl ⟨by omega, (by first | rfl | (rw [hz21]; exact congrArg (fun qq => some (aI qq)) (by omega))), ⟨(by repeat (first | exact hs_eq _ _ _ | refine hs_ne (by omega) ?_ | assumption)), (by repeat (first | exact hs_eq _ _ _ | refine hs_ne (by omega) ?_ | assumption)), (by repeat (first | exact hs_eq _ _ _ | refine hs_ne (by omega) ?_ | assumption)), (by repeat (first | exact hs_eq _ _ _ | refine hs_ne (by omega) ?_ | assumption)), (by repeat (first | exact hs_eq _ _ _ | refine hs_ne (by omega) ?_ | assumption)), (by repeat (first | exact hs_eq _ _ _ | refine hs_ne (by omega) ?_ | assumption))⟩, fun aaa haa => by repeat (first | rfl | refine hs_ne (by omega) ?_)⟩))
                          | exact Or.inr (Or.inr (Or.inr (⟨by omega, (by first | rfl | (rw [hz21]; exact congrArg (fun qq => some (aI qq)) (by omega))), ⟨(by repeat (first | exact hs_eq _ _ _ | refine hs_ne (by omega) ?_ | assumption)), (by repeat (first | exact hs_eq _ _ _ | refine hs_ne (by omega) ?_ | assumption)), (by repeat (first | exact hs_eq _ _ _ | refine hs_ne (by omega) ?_ | assumption)), (by repeat (first | exact hs_eq _ _ _ | refine hs_ne (by omega) ?_ | assumption)), (by repeat (first | exact hs_eq _ _ _ | refine hs_ne (by omega) ?_ | assumption)), (by repeat (first | exact hs_eq _ _ _ | refine hs_ne (by omega) ?_ | assumption))⟩, fun aaa haa => by repeat (first | rfl | refine hs_ne (by omega) ?_)⟩)))))))
    · try (exfalso; omega)
      all_goals (
        refine k_iconst C dX8_hire_8 ?_
        refine k_goto (tgt := 47) C dX8_hire_9 (by decide) ?_
        refine k_put C (k := 5) inX8 tyX8_ok nmX8 (ci := 8) rfl (by decide) fl_X8_25 rfl (Nat.le_of_ble_eq_true rfl) dX8_hire_47 (by repeat (first | exact hs_eq _ _ _ | refine hs_ne (by omega) ?_ | assumption)) ?_
        refine k_aload_n C dX8_hire_50 rfl ?_
        refine k_get C (k := 5) inX8 (ci := 8) rfl (by decide) fl_X8_25 dX8_hire_51 (by repeat (first | exact hs_eq _ _ _ | refine hs_ne (by omega) ?_ | assumption)) rfl ?_
        refine k_if_le (tgt := 59) C dX8_hire_54 (by decide) ⟨by omega, by omega⟩ (fun c54 => ?_) (fun c54 => ?_)
        · try (exfalso; omega)
          all_goals (
            refine k_aload_n C dX8_hire_59 rfl ?_
            refine k_callV C (n := 0) (as := []) (ct_X8_save l D tc base oo zrr hhi htx has hro st ln (0) re du hsh _ ⟨(by repeat (first | exact hs_eq _ _ _ | refine hs_ne (by omega) ?_ | assumption)), (by repeat (first | exact hs_eq _ _ _ | refine hs_ne (by omega) ?_ | assumption)), (by repeat (first | exact hs_eq _ _ _ | refine hs_ne (by omega) ?_ | assumption)), (by repeat (first | exact hs_eq _ _ _ | refine hs_ne (by omega) ?_ | assumption)), (by repeat (first | exact hs_eq _ _ _ | refine hs_ne (by omega) ?_ | assumption)), (by repeat (first | exact hs_eq _ _ _ | refine hs_ne (by omega) ?_ | assumption))⟩ hst) ml_X8_102 im_X8_save se_X8_save ini_X8 co_X8_save ⟨rfl, by decide, by decide, by decide +kernel⟩ rfl (ci := 8) rfl (by repeat (first | exact hs_eq _ _ _ | refine hs_ne (by omega) ?_ | assumption)) ⟨by decide, by decide⟩ rfl (Nat.le_of_ble_eq_true rfl) ⟨Nat.zero_le _, Nat.zero_le _⟩ dX8_hire_60 ?_
            rintro _ _ ⟨rfl, hM1, hF1⟩
            obtain ⟨k0, k1, k2, k3, k4, k5⟩ := id hM1
            refine k_aload_n C dX8_hire_63 rfl ?_
            refine k_iload_n C dX8_hire_64 rfl ?_
            refine k_iload_n C dX8_hire_65 rfl ?_
            refine k_iload_n C dX8_hire_66 rfl ?_
            refine k_callV C (n := 3) (as := [_, _, _]) (ct_X8_comes l D tc base oo zrr _ _ _ _ _ _ _ _ _ _ _ hM1 _ _ _ ⟨by omega, by omega⟩) ml_X8_115 im_X8_comes se_X8_comes ini_X8 co_X8_comes ⟨rfl, by decide, by decide, by decide +kernel⟩ rfl (ci := 8) rfl (by repeat (first | exact hs_eq _ _ _ | refine hs_ne (by omega) ?_ | assumption)) ⟨by decide, by decide⟩ rfl (Nat.le_of_ble_eq_true rfl) ⟨Nat.zero_le _, Nat.zero_le _⟩ dX8_hire_67 ?_
            rintro _ _ ⟨rfl, hM2, hF2⟩
            obtain ⟨k0, k1, k2, k3, k4, k5⟩ := id hM2
            have hz21 : zComes zrr ww tt pd 21 = zrr 21 + 1 := iu_eq _ _ _
            refine k_aload_n C dX8_hire_70 rfl ?_
            refine k_get C (k := 0) inX8 (ci := 8) rfl (by decide) fl_X8_7 dX8_hire_71 (by repeat (first | exact hs_eq _ _ _ | refine hs_ne (by omega) ?_ | assumption)) rfl ?_
            refine k_bipush C dX8_hire_74 (by decide +kernel) ?_
            refine k_iaload C dX8_hire_76 (by repeat (first | exact hs_eq _ _ _ | refine hs_ne (by omega) ?_ | assumption)) (by omega) (by omega) (by omega) ?_
            refine k_iconst C dX8_hire_77 ?_
            refine k_isub C dX8_hire_78 ?_
            refine k_iret C hr dX8_hire_79 ?_
            first
              | exact Or.inl ⟨by omega, (by first | rfl | (rw [hz21]; exact congrArg (fun qq => some (aI qq)) (by omega))), ⟨(by repeat (first | exact hs_eq _ _ _ | refine hs_ne (by omega) ?_ | assumption)), (by repeat (first | exact hs_eq _ _ _ | refine hs_ne (by omega) ?_ | assumption)), (by repeat (first | exact hs_eq _ _ _ | refine hs_ne (by omega) ?_ | assumption)), (by repeat (first | exact hs_eq _ _ _ | refine hs_ne (by omega) ?_ | assumption)), (by repeat (first | exact hs_eq _ _ _ | refine hs_ne (by omega) ?_ | assumption)), (by repeat (first | exact hs_eq _ _ _ | refine hs_ne (by omega) ?_ | assumption))⟩, Fr.tr (Fr.tr (fun aaa haa => by repeat (first | rfl | refine hs_ne (by omega) ?_)) hF1) hF2⟩
              | exact Or.inr (Or.inl ⟨by omega, (by first | rfl | (rw [hz21]; exact congrArg (fun qq => some (aI qq)) (by omega))), ⟨(by repeat (first | exact hs_eq _ _ _ | refine hs_ne (by omega) ?_ | assumption)), (by repeat (first | exact hs_eq _ _ _ | refine hs_ne (by omega) ?_ | assumption)), (by repeat (first | exact hs_eq _ _ _ | refine hs_ne (by omega) ?_ | assumption)), (by repeat (first | exact hs_eq _ _ _ | refine hs_ne (by omega) ?_ | assumption)), (by repeat (first | exact hs_eq _ _ _ | refine hs_ne (by omega) ?_ | assumption)), (by repeat (first | exact hs_eq _ _ _ | refine hs_ne (by omega) ?_ | assumption))⟩, fun aaa haa => by repeat (first | rfl | refine hs_ne (by omega) ?_)⟩)
              | exact Or.inr (Or.inr (Or.inl ⟨by omega, (by first | rfl | (rw [hz21]; exact congrArg (fun qq => some (aI qq)) (by omega))), ⟨(by repeat (first | exact hs_eq _ _ _ | refine hs_ne (by omega) ?_ | assumption)), (by repeat (first | exact hs_eq _ _ _ | refine hs_ne (by omega) ?_ | assumption)), (by repeat (first | exact hs_eq _ _ _ | refine hs_ne (by omega) ?_ | assumption)), (by repeat (first | exact hs_eq _ _ _ | refine hs_ne (by omega) ?_ | assumption)), (by repeat (first | exact hs_eq _ _ _ | refine hs_ne (by omega) ?_ | assumption)), (by repeat (first | exact hs_eq _ _ _ | refine hs_ne (by omega) ?_ | assumption))⟩, fun aaa haa => by repeat (first | rfl | refine hs_ne (by omega) ?_)⟩))
              | exact Or.inr (Or.inr (Or.inr (⟨by omega, (by first | rfl | (rw [hz21]; exact congrArg (fun qq => some (aI qq)) (by omega))), ⟨(by repeat (first | exact hs_eq _ _ _ | refine hs_ne (by omega) ?_ | assumption)), (by repeat (first | exact hs_eq _ _ _ | refine hs_ne (by omega) ?_ | assumption)), (by repeat (first | exact hs_eq _ _ _ | refine hs_ne (by omega) ?_ | assumption)), (by repeat (first | exact hs_eq _ _ _ | refine hs_ne (by omega) ?_ | assumption)), (by repeat (first | exact hs_eq _ _ _ | refine hs_ne (by omega) ?_ | assumption)), (by repeat (first | exact hs_eq _ _ _ | refine hs_ne (by omega) ?_ | assumption))⟩, fun aaa haa => by repeat (first | rfl | refine hs_ne (by omega) ?_)⟩))))
        · try (exfalso; omega)
          all_goals (
            refine k_iconst C dX8_hire_57 ?_
            refine k_iret C hr dX8_hire_58 ?_
            first
              | exact Or.inl ⟨by omega, (by first | rfl | (rw [hz21]; exact congrArg (fun qq => some (aI qq)) (by omega))), ⟨(by repeat (first | exact hs_eq _ _ _ | refine hs_ne (by omega) ?_ | assumption)), (by repeat (first | exact hs_eq _ _ _ | refine hs_ne (by omega) ?_ | assumption)), (by repeat (first | exact hs_eq _ _ _ | refine hs_ne (by omega) ?_ | assumption)), (by repeat (first | exact hs_eq _ _ _ | refine hs_ne (by omega) ?_ | assumption)), (by repeat (first | exact hs_eq _ _ _ | refine hs_ne (by omega) ?_ | assumption)), (by repeat (first | exact hs_eq _ _ _ | refine hs_ne (by omega) ?_ | assumption))⟩, Fr.tr (Fr.tr (fun aaa haa => by repeat (first | rfl | refine hs_ne (by omega) ?_)) hF1) hF2⟩
              | exact Or.inr (Or.inl ⟨by omega, (by first | rfl | (rw [hz21]; exact congrArg (fun qq => some (aI qq)) (by omega))), ⟨(by repeat (first | exact hs_eq _ _ _ | refine hs_ne (by omega) ?_ | assumption)), (by repeat (first | exact hs_eq _ _ _ | refine hs_ne (by omega) ?_ | assumption)), (by repeat (first | exact hs_eq _ _ _ | refine hs_ne (by omega) ?_ | assumption)), (by repeat (first | exact hs_eq _ _ _ | refine hs_ne (by omega) ?_ | assumption)), (by repeat (first | exact hs_eq _ _ _ | refine hs_ne (by omega) ?_ | assumption)), (by repeat (first | exact hs_eq _ _ _ | refine hs_ne (by omega) ?_ | assumption))⟩, fun aaa haa => by repeat (first | rfl | refine hs_ne (by omega) ?_)⟩)
              | exact Or.inr (Or.inr (Or.inl ⟨by omega, (by first | rfl | (rw [hz21]; exact congrArg (fun qq => some (aI qq)) (by omega))), ⟨(by repeat (first | exact hs_eq _ _ _ | refine hs_ne (by omega) ?_ | assumption)), (by repeat (first | exact hs_eq _ _ _ | refine hs_ne (by omega) ?_ | assumption)), (by repeat (first | exact hs_eq _ _ _ | refine hs_ne (by omega) ?_ | assumption)), (by repeat (first | exact hs_eq _ _ _ | refine hs_ne (by omega) ?_ | assumption)), (by repeat (first | exact hs_eq _ _ _ | refine hs_ne (by omega) ?_ | assumption)), (by repeat (first | exact hs_eq _ _ _ | refine hs_ne (by omega) ?_ | assumption))⟩, fun aaa haa => by repeat (first | rfl | refine hs_ne (by omega) ?_)⟩))
              | exact Or.inr (Or.inr (Or.inr (⟨by omega, (by first | rfl | (rw [hz21]; exact congrArg (fun qq => some (aI qq)) (by omega))), ⟨(by repeat (first | exact hs_eq _ _ _ | refine hs_ne (by omega) ?_ | assumption)), (by repeat (first | exact hs_eq _ _ _ | refine hs_ne (by omega) ?_ | assumption)), (by repeat (first | exact hs_eq _ _ _ | refine hs_ne (by omega) ?_ | assumption)), (by repeat (first | exact hs_eq _ _ _ | refine hs_ne (by omega) ?_ | assumption)), (by repeat (first | exact hs_eq _ _ _ | refine hs_ne (by omega) ?_ | assumption)), (by repeat (first | exact hs_eq _ _ _ | refine hs_ne (by omega) ?_ | assumption))⟩, fun aaa haa => by repeat (first | rfl | refine hs_ne (by omega) ?_)⟩)))))

set_option maxRecDepth 20000 in
set_option maxHeartbeats 1000000 in
theorem ct_X8_pass (l : Launch) (D : va_G) (tc : Nat → ClassId) (base : Nat) (oo : Nat) (zrr hhi htx has hro : Int → Int) (st ln th re du hsh : Int) (hpp : AH) (hM : MA hpp oo zrr hhi htx has hro st ln th re du hsh) (ww : Int) (hw : r32 ww) (hi : zInv zrr) (ha : zrr 18 + zrr 19 ≤ zrr 13) (hst : 0 ≤ st ∧ st ≤ 6) (h13 : zrr 13 ≤ 20000) : CT l D tc base yX8_pass cX8_pass 3 (some .int) 7 [aR oo, aI ww] hpp (fun r h' => (((1 ≤ ww ∧ ww ≤ 720) ∧ zrr 13 + ww ≤ 20000) ∧ r = some (aI (zGo zrr ww.toNat 14 - zrr 14)) ∧ MA h' oo (zGo zrr ww.toNat) (sHi zrr hhi st) (htx) (has) (hro) (sSt st) (ln) (0) (re) (du) (hsh) ∧ Fr hpp h' oo 6) ∨ (¬ (1 ≤ ww ∧ ww ≤ 720) ∧ r = some (aI (0)) ∧ MA h' oo (zrr) (hhi) (htx) (has) (hro) (st) (ln) (1) (re) (du) (hsh) ∧ Fr hpp h' oo 6) ∨ (((1 ≤ ww ∧ ww ≤ 720) ∧ ¬ zrr 13 + ww ≤ 20000) ∧ r = some (aI (0)) ∧ MA h' oo (zrr) (hhi) (htx) (has) (hro) (st) (ln) (2) (re) (du) (hsh) ∧ Fr hpp h' oo 6)) := by
  refine CT.of [some (aR oo), some (aI ww), none] (by decide +kernel) rfl (Nat.le_of_ble_eq_true rfl) ?_
  intro p e s m args below meth c C hr hnm
  obtain ⟨g0, g1, g2, g3, g4, g5⟩ := id hM
  have v13 := hi.1.2.2.2.2.2.2.2.1
  refine k_aload_n C dX8_pass_0 rfl ?_
  refine k_iload_n C dX8_pass_1 rfl ?_
  refine k_iconst C dX8_pass_2 ?_
  refine k_sipush C dX8_pass_3 (by decide +kernel) ?_
  refine k_callS C (n := 3) (as := [_, _, _]) (ct_X8_within l D tc base _ _ _ _ hw ⟨by omega, by omega⟩ ⟨by omega, by omega⟩) ml_X8_92 sm_X8_within ini_X8 co_X8_within ⟨by decide, by decide, by decide +kernel⟩ rfl ⟨by decide, by decide⟩ rfl (Nat.le_of_ble_eq_true rfl) ⟨Nat.zero_le _, Nat.zero_le _⟩ dX8_pass_6 ?_
  rintro _ _ (⟨rfl, rfl, hq6⟩ | ⟨rfl, rfl, hq6⟩)
  · skip
    refine k_if_ne (tgt := 16) C dX8_pass_9 (by decide) ⟨by omega, by omega⟩ (fun c9 => ?_) (fun c9 => ?_)
    · try (exfalso; omega)
      all_goals (
        refine k_aload_n C dX8_pass_16 rfl ?_
        refine k_get C (k := 0) inX8 (ci := 8) rfl (by decide) fl_X8_7 dX8_pass_17 (by repeat (first | exact hs_eq _ _ _ | refine hs_ne (by omega) ?_ | assumption)) rfl ?_
        refine k_bipush C dX8_pass_20 (by decide +kernel) ?_
        refine k_iaload C dX8_pass_22 (by repeat (first | exact hs_eq _ _ _ | refine hs_ne (by omega) ?_ | assumption)) (by omega) (by omega) (by omega) ?_
        refine k_iload_n C dX8_pass_23 rfl ?_
        refine k_iadd C dX8_pass_24 ?_
        refine k_sipush C dX8_pass_25 (by decide +kernel) ?_
        refine k_icmp_le (tgt := 35) C dX8_pass_28 (by decide) ⟨by omega, by omega⟩ ⟨by omega, by omega⟩ (fun c28 => ?_) (fun c28 => ?_)
        · try (exfalso; omega)
          all_goals (
            refine k_iconst C dX8_pass_35 ?_
            refine k_put C (k := 5) inX8 tyX8_ok nmX8 (ci := 8) rfl (by decide) fl_X8_25 rfl (Nat.le_of_ble_eq_true rfl) dX8_pass_36 (by repeat (first | exact hs_eq _ _ _ | refine hs_ne (by omega) ?_ | assumption)) ?_
            refine k_aload_n C dX8_pass_39 rfl ?_
            refine k_get C (k := 5) inX8 (ci := 8) rfl (by decide) fl_X8_25 dX8_pass_40 (by repeat (first | exact hs_eq _ _ _ | refine hs_ne (by omega) ?_ | assumption)) rfl ?_
            refine k_if_le (tgt := 48) C dX8_pass_43 (by decide) ⟨by omega, by omega⟩ (fun c43 => ?_) (fun c43 => ?_)
            · try (exfalso; omega)
              all_goals (
                refine k_aload_n C dX8_pass_48 rfl ?_
                refine k_callV C (n := 0) (as := []) (ct_X8_save l D tc base oo zrr hhi htx has hro st ln (0) re du hsh _ ⟨(by repeat (first | exact hs_eq _ _ _ | refine hs_ne (by omega) ?_ | assumption)), (by repeat (first | exact hs_eq _ _ _ | refine hs_ne (by omega) ?_ | assumption)), (by repeat (first | exact hs_eq _ _ _ | refine hs_ne (by omega) ?_ | assumption)), (by repeat (first | exact hs_eq _ _ _ | refine hs_ne (by omega) ?_ | assumption)), (by repeat (first | exact hs_eq _ _ _ | refine hs_ne (by omega) ?_ | assumption)), (by repeat (first | exact hs_eq _ _ _ | refine hs_ne (by omega) ?_ | assumption))⟩ hst) ml_X8_102 im_X8_save se_X8_save ini_X8 co_X8_save ⟨rfl, by decide, by decide, by decide +kernel⟩ rfl (ci := 8) rfl (by repeat (first | exact hs_eq _ _ _ | refine hs_ne (by omega) ?_ | assumption)) ⟨by decide, by decide⟩ rfl (Nat.le_of_ble_eq_true rfl) ⟨Nat.zero_le _, Nat.zero_le _⟩ dX8_pass_49 ?_
                rintro _ _ ⟨rfl, hM1, hF1⟩
                obtain ⟨k0, k1, k2, k3, k4, k5⟩ := id hM1
                refine k_aload_n C dX8_pass_52 rfl ?_
                refine k_get C (k := 0) inX8 (ci := 8) rfl (by decide) fl_X8_7 dX8_pass_53 (by repeat (first | exact hs_eq _ _ _ | refine hs_ne (by omega) ?_ | assumption)) rfl ?_
                refine k_bipush C dX8_pass_56 (by decide +kernel) ?_
                refine k_iaload C dX8_pass_58 (by repeat (first | exact hs_eq _ _ _ | refine hs_ne (by omega) ?_ | assumption)) (by omega) (by omega) (by omega) ?_
                refine k_istore_n C dX8_pass_59 (by decide) rfl ?_
                refine k_aload_n C dX8_pass_60 rfl ?_
                refine k_iload_n C dX8_pass_61 rfl ?_
                have eww : ww = (ww.toNat : Int) := by omega
                rw [eww]
                refine k_callV C (n := 1) (as := [_]) (ct_X8_goOn l D tc base oo (oo + 1) _ _ _ (by repeat (first | exact hs_eq _ _ _ | refine hs_ne (by omega) ?_ | assumption)) (by repeat (first | exact hs_eq _ _ _ | refine hs_ne (by omega) ?_ | assumption)) (by omega) hi ha ww.toNat (by omega)) ml_X8_122 im_X8_goOn se_X8_goOn ini_X8 co_X8_goOn ⟨rfl, by decide, by decide, by decide +kernel⟩ rfl (ci := 8) rfl (by repeat (first | exact hs_eq _ _ _ | refine hs_ne (by omega) ?_ | assumption)) ⟨by decide, by decide⟩ rfl (Nat.le_of_ble_eq_true rfl) ⟨Nat.zero_le _, Nat.zero_le _⟩ dX8_pass_62 ?_
                rintro _ _ ⟨rfl, rfl⟩
                refine k_aload_n C dX8_pass_65 rfl ?_
                refine k_get C (k := 0) inX8 (ci := 8) rfl (by decide) fl_X8_7 dX8_pass_66 (by repeat (first | exact hs_eq _ _ _ | refine hs_ne (by omega) ?_ | assumption)) rfl ?_
                refine k_bipush C dX8_pass_69 (by decide +kernel) ?_
                refine k_iaload C dX8_pass_71 (by repeat (first | exact hs_eq _ _ _ | refine hs_ne (by omega) ?_ | assumption)) (by omega) (by omega) (by omega) ?_
                refine k_iload_n C dX8_pass_72 rfl ?_
                refine k_isub C dX8_pass_73 ?_
                refine k_iret C hr dX8_pass_74 ?_
                first
                  | exact Or.inl ⟨by omega, rfl, ⟨(by repeat (first | exact hs_eq _ _ _ | refine hs_ne (by omega) ?_ | assumption)), (by repeat (first | exact hs_eq _ _ _ | refine hs_ne (by omega) ?_ | assumption)), (by repeat (first | exact hs_eq _ _ _ | refine hs_ne (by omega) ?_ | assumption)), (by repeat (first | exact hs_eq _ _ _ | refine hs_ne (by omega) ?_ | assumption)), (by repeat (first | exact hs_eq _ _ _ | refine hs_ne (by omega) ?_ | assumption)), (by repeat (first | exact hs_eq _ _ _ | refine hs_ne (by omega) ?_ | assumption))⟩, Fr.tr (Fr.tr (fun aaa haa => by repeat (first | rfl | refine hs_ne (by omega) ?_)) hF1) (fun aaa haa => by repeat (first | rfl | refine hs_ne (by omega) ?_))⟩
                  | exact Or.inr (Or.inl ⟨by omega, rfl, ⟨(by repeat (first | exact hs_eq _ _ _ | refine hs_ne (by omega) ?_ | assumption)), (by repeat (first | exact hs_eq _ _ _ | refine hs_ne (by omega) ?_ | assumption)), (by repeat (first | exact hs_eq _ _ _ | refine hs_ne (by omega) ?_ | assumption)), (by repeat (first | exact hs_eq _ _ _ | refine hs_ne (by omega) ?_ | assumption)), (by repeat (first | exact hs_eq _ _ _ | refine hs_ne (by omega) ?_ | assumption)), (by repeat (first | exact hs_eq _ _ _ | refine hs_ne (by omega) ?_ | assumption))⟩, fun aaa haa => by repeat (first | rfl | refine hs_ne (by omega) ?_)⟩)
                  | exact Or.inr (Or.inr (⟨by omega, rfl, ⟨(by repeat (first | exact hs_eq _ _ _ | refine hs_ne (by omega) ?_ | assumption)), (by repeat (first | exact hs_eq _ _ _ | refine hs_ne (by omega) ?_ | assumption)), (by repeat (first | exact hs_eq _ _ _ | refine hs_ne (by omega) ?_ | assumption)), (by repeat (first | exact hs_eq _ _ _ | refine hs_ne (by omega) ?_ | assumption)), (by repeat (first | exact hs_eq _ _ _ | refine hs_ne (by omega) ?_ | assumption)), (by repeat (first | exact hs_eq _ _ _ | refine hs_ne (by omega) ?_ | assumption))⟩, fun aaa haa => by repeat (first | rfl | refine hs_ne (by omega) ?_)⟩)))
            · try (exfalso; omega)
              all_goals (
                refine k_iconst C dX8_pass_46 ?_
                refine k_iret C hr dX8_pass_47 ?_
                first
                  | exact Or.inl ⟨by omega, rfl, ⟨(by repeat (first | exact hs_eq _ _ _ | refine hs_ne (by omega) ?_ | assumption)), (by repeat (first | exact hs_eq _ _ _ | refine hs_ne (by omega) ?_ | assumption)), (by repeat (first | exact hs_eq _ _ _ | refine hs_ne (by omega) ?_ | assumption)), (by repeat (first | exact hs_eq _ _ _ | refine hs_ne (by omega) ?_ | assumption)), (by repeat (first | exact hs_eq _ _ _ | refine hs_ne (by omega) ?_ | assumption)), (by repeat (first | exact hs_eq _ _ _ | refine hs_ne (by omega) ?_ | assumption))⟩, Fr.tr (Fr.tr (fun aaa haa => by repeat (first | rfl | refine hs_ne (by omega) ?_)) hF1) (fun aaa haa => by repeat (first | rfl | refine hs_ne (by omega) ?_))⟩
                  | exact Or.inr (Or.inl ⟨by omega, rfl, ⟨(by repeat (first | exact hs_eq _ _ _ | refine hs_ne (by omega) ?_ | assumption)), (by repeat (first | exact hs_eq _ _ _ | refine hs_ne (by omega) ?_ | assumption)), (by repeat (first | exact hs_eq _ _ _ | refine hs_ne (by omega) ?_ | assumption)), (by repeat (first | exact hs_eq _ _ _ | refine hs_ne (by omega) ?_ | assumption)), (by repeat (first | exact hs_eq _ _ _ | refine hs_ne (by omega) ?_ | assumption)), (by repeat (first | exact hs_eq _ _ _ | refine hs_ne (by omega) ?_ | assumption))⟩, fun aaa haa => by repeat (first | rfl | refine hs_ne (by omega) ?_)⟩)
                  | exact Or.inr (Or.inr (⟨by omega, rfl, ⟨(by repeat (first | exact hs_eq _ _ _ | refine hs_ne (by omega) ?_ | assumption)), (by repeat (first | exact hs_eq _ _ _ | refine hs_ne (by omega) ?_ | assumption)), (by repeat (first | exact hs_eq _ _ _ | refine hs_ne (by omega) ?_ | assumption)), (by repeat (first | exact hs_eq _ _ _ | refine hs_ne (by omega) ?_ | assumption)), (by repeat (first | exact hs_eq _ _ _ | refine hs_ne (by omega) ?_ | assumption)), (by repeat (first | exact hs_eq _ _ _ | refine hs_ne (by omega) ?_ | assumption))⟩, fun aaa haa => by repeat (first | rfl | refine hs_ne (by omega) ?_)⟩))))
        · try (exfalso; omega)
          all_goals (
            refine k_iconst C dX8_pass_31 ?_
            refine k_goto (tgt := 36) C dX8_pass_32 (by decide) ?_
            refine k_put C (k := 5) inX8 tyX8_ok nmX8 (ci := 8) rfl (by decide) fl_X8_25 rfl (Nat.le_of_ble_eq_true rfl) dX8_pass_36 (by repeat (first | exact hs_eq _ _ _ | refine hs_ne (by omega) ?_ | assumption)) ?_
            refine k_aload_n C dX8_pass_39 rfl ?_
            refine k_get C (k := 5) inX8 (ci := 8) rfl (by decide) fl_X8_25 dX8_pass_40 (by repeat (first | exact hs_eq _ _ _ | refine hs_ne (by omega) ?_ | assumption)) rfl ?_
            refine k_if_le (tgt := 48) C dX8_pass_43 (by decide) ⟨by omega, by omega⟩ (fun c43 => ?_) (fun c43 => ?_)
            · try (exfalso; omega)
              all_goals (
                refine k_aload_n C dX8_pass_48 rfl ?_
                refine k_callV C (n := 0) (as := []) (ct_X8_save l D tc base oo zrr hhi htx has hro st ln (0) re du hsh _ ⟨(by repeat (first | exact hs_eq _ _ _ | refine hs_ne (by omega) ?_ | assumption)), (by repeat (first | exact hs_eq _ _ _ | refine hs_ne (by omega) ?_ | assumption)), (by repeat (first | exact hs_eq _ _ _ | refine hs_ne (by omega) ?_ | assumption)), (by repeat (first | exact hs_eq _ _ _ | refine hs_ne (by omega) ?_ | assumption)), (by repeat (first | exact hs_eq _ _ _ | refine hs_ne (by omega) ?_ | assumption)), (by repeat (first | exact hs_eq _ _ _ | refine hs_ne (by omega) ?_ | assumption))⟩ hst) ml_X8_102 im_X8_save se_X8_save ini_X8 co_X8_save ⟨rfl, by decide, by decide, by decide +kernel⟩ rfl (ci := 8) rfl (by repeat (first | exact hs_eq _ _ _ | refine hs_ne (by omega) ?_ | assumption)) ⟨by decide, by decide⟩ rfl (Nat.le_of_ble_eq_true rfl) ⟨Nat.zero_le _, Nat.zero_le _⟩ dX8_pass_49 ?_
                rintro _ _ ⟨rfl, hM1, hF1⟩
                obtain ⟨k0, k1, k2, k3, k4, k5⟩ := id hM1
                refine k_aload_n C dX8_pass_52 rfl ?_
                refine k_get C (k := 0) inX8 (ci := 8) rfl (by decide) fl_X8_7 dX8_pass_53 (by repeat (first | exact hs_eq _ _ _ | refine hs_ne (by omega) ?_ | assumption)) rfl ?_
                refine k_bipush C dX8_pass_56 (by decide +kernel) ?_
                refine k_iaload C dX8_pass_58 (by repeat (first | exact hs_eq _ _ _ | refine hs_ne (by omega) ?_ | assumption)) (by omega) (by omega) (by omega) ?_
                refine k_istore_n C dX8_pass_59 (by decide) rfl ?_
                refine k_aload_n C dX8_pass_60 rfl ?_
                refine k_iload_n C dX8_pass_61 rfl ?_
                have eww : ww = (ww.toNat : Int) := by omega
                rw [eww]
                refine k_callV C (n := 1) (as := [_]) (ct_X8_goOn l D tc base oo (oo + 1) _ _ _ (by repeat (first | exact hs_eq _ _ _ | refine hs_ne (by omega) ?_ | assumption)) (by repeat (first | exact hs_eq _ _ _ | refine hs_ne (by omega) ?_ | assumption)) (by omega) hi ha ww.toNat (by omega)) ml_X8_122 im_X8_goOn se_X8_goOn ini_X8 co_X8_goOn ⟨rfl, by decide, by decide, by decide +kernel⟩ rfl (ci := 8) rfl (by repeat (first | exact hs_eq _ _ _ | refine hs_ne (by omega) ?_ | assumption)) ⟨by decide, by decide⟩ rfl (Nat.le_of_ble_eq_true rfl) ⟨Nat.zero_le _, Nat.zero_le _⟩ dX8_pass_62 ?_
                rintro _ _ ⟨rfl, rfl⟩
                refine k_aload_n C dX8_pass_65 rfl ?_
                refine k_get C (k := 0) inX8 (ci := 8) rfl (by decide) fl_X8_7 dX8_pass_66 (by repeat (first | exact hs_eq _ _ _ | refine hs_ne (by omega) ?_ | assumption)) rfl ?_
                refine k_bipush C dX8_pass_69 (by decide +kernel) ?_
                refine k_iaload C dX8_pass_71 (by repeat (first | exact hs_eq _ _ _ | refine hs_ne (by omega) ?_ | assumption)) (by omega) (by omega) (by omega) ?_
                refine k_iload_n C dX8_pass_72 rfl ?_
                refine k_isub C dX8_pass_73 ?_
                refine k_iret C hr dX8_pass_74 ?_
                first
                  | exact Or.inl ⟨by omega, rfl, ⟨(by repeat (first | exact hs_eq _ _ _ | refine hs_ne (by omega) ?_ | assumption)), (by repeat (first | exact hs_eq _ _ _ | refine hs_ne (by omega) ?_ | assumption)), (by repeat (first | exact hs_eq _ _ _ | refine hs_ne (by omega) ?_ | assumption)), (by repeat (first | exact hs_eq _ _ _ | refine hs_ne (by omega) ?_ | assumption)), (by repeat (first | exact hs_eq _ _ _ | refine hs_ne (by omega) ?_ | assumption)), (by repeat (first | exact hs_eq _ _ _ | refine hs_ne (by omega) ?_ | assumption))⟩, Fr.tr (Fr.tr (fun aaa haa => by repeat (first | rfl | refine hs_ne (by omega) ?_)) hF1) (fun aaa haa => by repeat (first | rfl | refine hs_ne (by omega) ?_))⟩
                  | exact Or.inr (Or.inl ⟨by omega, rfl, ⟨(by repeat (first | exact hs_eq _ _ _ | refine hs_ne (by omega) ?_ | assumption)), (by repeat (first | exact hs_eq _ _ _ | refine hs_ne (by omega) ?_ | assumption)), (by repeat (first | exact hs_eq _ _ _ | refine hs_ne (by omega) ?_ | assumption)), (by repeat (first | exact hs_eq _ _ _ | refine hs_ne (by omega) ?_ | assumption)), (by repeat (first | exact hs_eq _ _ _ | refine hs_ne (by omega) ?_ | assumption)), (by repeat (first | exact hs_eq _ _ _ | refine hs_ne (by omega) ?_ | assumption))⟩, fun aaa haa => by repeat (first | rfl | refine hs_ne (by omega) ?_)⟩)
                  | exact Or.inr (Or.inr (⟨by omega, rfl, ⟨(by repeat (first | exact hs_eq _ _ _ | refine hs_ne (by omega) ?_ | assumption)), (by repeat (first | exact hs_eq _ _ _ | refine hs_ne (by omega) ?_ | assumption)), (by repeat (first | exact hs_eq _ _ _ | refine hs_ne (by omega) ?_ | assumption)), (by repeat (first | exact hs_eq _ _ _ | refine hs_ne (by omega) ?_ | assumption)), (by repeat (first | exact hs_eq _ _ _ | refine hs_ne (by omega) ?_ | assumption)), (by repeat (first | exact hs_eq _ _ _ | refine hs_ne (by omega) ?_ | assumption))⟩, fun aaa haa => by repeat (first | rfl | refine hs_ne (by omega) ?_)⟩)))
            · try (exfalso; omega)
              all_goals (
                refine k_iconst C dX8_pass_46 ?_
                refine k_iret C hr dX8_pass_47 ?_
                first
                  | exact Or.inl ⟨by omega, rfl, ⟨(by repeat (first | exact hs_eq _ _ _ | refine hs_ne (by omega) ?_ | assumption)), (by repeat (first | exact hs_eq _ _ _ | refine hs_ne (by omega) ?_ | assumption)), (by repeat (first | exact hs_eq _ _ _ | refine hs_ne (by omega) ?_ | assumption)), (by repeat (first | exact hs_eq _ _ _ | refine hs_ne (by omega) ?_ | assumption)), (by repeat (first | exact hs_eq _ _ _ | refine hs_ne (by omega) ?_ | assumption)), (by repeat (first | exact hs_eq _ _ _ | refine hs_ne (by omega) ?_ | assumption))⟩, Fr.tr (Fr.tr (fun aaa haa => by repeat (first | rfl | refine hs_ne (by omega) ?_)) hF1) (fun aaa haa => by repeat (first | rfl | refine hs_ne (by omega) ?_))⟩
                  | exact Or.inr (Or.inl ⟨by omega, rfl, ⟨(by repeat (first | exact hs_eq _ _ _ | refine hs_ne (by omega) ?_ | assumption)), (by repeat (first | exact hs_eq _ _ _ | refine hs_ne (by omega) ?_ | assumption)), (by repeat (first | exact hs_eq _ _ _ | refine hs_ne (by omega) ?_ | assumption)), (by repeat (first | exact hs_eq _ _ _ | refine hs_ne (by omega) ?_ | assumption)), (by repeat (first | exact hs_eq _ _ _ | refine hs_ne (by omega) ?_ | assumption)), (by repeat (first | exact hs_eq _ _ _ | refine hs_ne (by omega) ?_ | assumption))⟩, fun aaa haa => by repeat (first | rfl | refine hs_ne (by omega) ?_)⟩)
                  | exact Or.inr (Or.inr (⟨by omega, rfl, ⟨(by repeat (first | exact hs_eq _ _ _ | refine hs_ne (by omega) ?_ | assumption)), (by repeat (first | exact hs_eq _ _ _ | refine hs_ne (by omega) ?_ | assumption)), (by repeat (first | exact hs_eq _ _ _ | refine hs_ne (by omega) ?_ | assumption)), (by repeat (first | exact hs_eq _ _ _ | refine hs_ne (by omega) ?_ | assumption)), (by repeat (first | exact hs_eq _ _ _ | refine hs_ne (by omega) ?_ | assumption)), (by repeat (first | exact hs_eq _ _ _ | refine hs_ne (by omega) ?_ | assumption))⟩, fun aaa haa => by repeat (first | rfl | refine hs_ne (by omega) ?_)⟩)))))
    · try (exfalso; omega)
      all_goals (
        refine k_iconst C dX8_pass_12 ?_
        refine k_goto (tgt := 36) C dX8_pass_13 (by decide) ?_
        refine k_put C (k := 5) inX8 tyX8_ok nmX8 (ci := 8) rfl (by decide) fl_X8_25 rfl (Nat.le_of_ble_eq_true rfl) dX8_pass_36 (by repeat (first | exact hs_eq _ _ _ | refine hs_ne (by omega) ?_ | assumption)) ?_
        refine k_aload_n C dX8_pass_39 rfl ?_
        refine k_get C (k := 5) inX8 (ci := 8) rfl (by decide) fl_X8_25 dX8_pass_40 (by repeat (first | exact hs_eq _ _ _ | refine hs_ne (by omega) ?_ | assumption)) rfl ?_
        refine k_if_le (tgt := 48) C dX8_pass_43 (by decide) ⟨by omega, by omega⟩ (fun c43 => ?_) (fun c43 => ?_)
        · try (exfalso; omega)
          all_goals (
            refine k_aload_n C dX8_pass_48 rfl ?_
            refine k_callV C (n := 0) (as := []) (ct_X8_save l D tc base oo zrr hhi htx has hro st ln (0) re du hsh _ ⟨(by repeat (first | exact hs_eq _ _ _ | refine hs_ne (by omega) ?_ | assumption)), (by repeat (first | exact hs_eq _ _ _ | refine hs_ne (by omega) ?_ | assumption)), (by repeat (first | exact hs_eq _ _ _ | refine hs_ne (by omega) ?_ | assumption)), (by repeat (first | exact hs_eq _ _ _ | refine hs_ne (by omega) ?_ | assumption)), (by repeat (first | exact hs_eq _ _ _ | refine hs_ne (by omega) ?_ | assumption)), (by repeat (first | exact hs_eq _ _ _ | refine hs_ne (by omega) ?_ | assumption))⟩ hst) ml_X8_102 im_X8_save se_X8_save ini_X8 co_X8_save ⟨rfl, by decide, by decide, by decide +kernel⟩ rfl (ci := 8) rfl (by repeat (first | exact hs_eq _ _ _ | refine hs_ne (by omega) ?_ | assumption)) ⟨by decide, by decide⟩ rfl (Nat.le_of_ble_eq_true rfl) ⟨Nat.zero_le _, Nat.zero_le _⟩ dX8_pass_49 ?_
            rintro _ _ ⟨rfl, hM1, hF1⟩
            obtain ⟨k0, k1, k2, k3, k4, k5⟩ := id hM1
            refine k_aload_n C dX8_pass_52 rfl ?_
            refine k_get C (k := 0) inX8 (ci := 8) rfl (by decide) fl_X8_7 dX8_pass_53 (by repeat (first | exact hs_eq _ _ _ | refine hs_ne (by omega) ?_ | assumption)) rfl ?_
            refine k_bipush C dX8_pass_56 (by decide +kernel) ?_
            refine k_iaload C dX8_pass_58 (by repeat (first | exact hs_eq _ _ _ | refine hs_ne (by omega) ?_ | assumption)) (by omega) (by omega) (by omega) ?_
            refine k_istore_n C dX8_pass_59 (by decide) rfl ?_
            refine k_aload_n C dX8_pass_60 rfl ?_
            refine k_iload_n C dX8_pass_61 rfl ?_
            have eww : ww = (ww.toNat : Int) := by omega
            rw [eww]
            refine k_callV C (n := 1) (as := [_]) (ct_X8_goOn l D tc base oo (oo + 1) _ _ _ (by repeat (first | exact hs_eq _ _ _ | refine hs_ne (by omega) ?_ | assumption)) (by repeat (first | exact hs_eq _ _ _ | refine hs_ne (by omega) ?_ | assumption)) (by omega) hi ha ww.toNat (by omega)) ml_X8_122 im_X8_goOn se_X8_goOn ini_X8 co_X8_goOn ⟨rfl, by decide, by decide, by decide +kernel⟩ rfl (ci := 8) rfl (by repeat (first | exact hs_eq _ _ _ | refine hs_ne (by omega) ?_ | assumption)) ⟨by decide, by decide⟩ rfl (Nat.le_of_ble_eq_true rfl) ⟨Nat.zero_le _, Nat.zero_le _⟩ dX8_pass_62 ?_
            rintro _ _ ⟨rfl, rfl⟩
            refine k_aload_n C dX8_pass_65 rfl ?_
            refine k_get C (k := 0) inX8 (ci := 8) rfl (by decide) fl_X8_7 dX8_pass_66 (by repeat (first | exact hs_eq _ _ _ | refine hs_ne (by omega) ?_ | assumption)) rfl ?_
            refine k_bipush C dX8_pass_69 (by decide +kernel) ?_
            refine k_iaload C dX8_pass_71 (by repeat (first | exact hs_eq _ _ _ | refine hs_ne (by omega) ?_ | assumption)) (by omega) (by omega) (by omega) ?_
            refine k_iload_n C dX8_pass_72 rfl ?_
            refine k_isub C dX8_pass_73 ?_
            refine k_iret C hr dX8_pass_74 ?_
            first
              | exact Or.inl ⟨by omega, rfl, ⟨(by repeat (first | exact hs_eq _ _ _ | refine hs_ne (by omega) ?_ | assumption)), (by repeat (first | exact hs_eq _ _ _ | refine hs_ne (by omega) ?_ | assumption)), (by repeat (first | exact hs_eq _ _ _ | refine hs_ne (by omega) ?_ | assumption)), (by repeat (first | exact hs_eq _ _ _ | refine hs_ne (by omega) ?_ | assumption)), (by repeat (first | exact hs_eq _ _ _ | refine hs_ne (by omega) ?_ | assumption)), (by repeat (first | exact hs_eq _ _ _ | refine hs_ne (by omega) ?_ | assumption))⟩, Fr.tr (Fr.tr (fun aaa haa => by repeat (first | rfl | refine hs_ne (by omega) ?_)) hF1) (fun aaa haa => by repeat (first | rfl | refine hs_ne (by omega) ?_))⟩
              | exact Or.inr (Or.inl ⟨by omega, rfl, ⟨(by repeat (first | exact hs_eq _ _ _ | refine hs_ne (by omega) ?_ | assumption)), (by repeat (first | exact hs_eq _ _ _ | refine hs_ne (by omega) ?_ | assumption)), (by repeat (first | exact hs_eq _ _ _ | refine hs_ne (by omega) ?_ | assumption)), (by repeat (first | exact hs_eq _ _ _ | refine hs_ne (by omega) ?_ | assumption)), (by repeat (first | exact hs_eq _ _ _ | refine hs_ne (by omega) ?_ | assumption)), (by repeat (first | exact hs_eq _ _ _ | refine hs_ne (by omega) ?_ | assumption))⟩, fun aaa haa => by repeat (first | rfl | refine hs_ne (by omega) ?_)⟩)
              | exact Or.inr (Or.inr (⟨by omega, rfl, ⟨(by repeat (first | exact hs_eq _ _ _ | refine hs_ne (by omega) ?_ | assumption)), (by repeat (first | exact hs_eq _ _ _ | refine hs_ne (by omega) ?_ | assumption)), (by repeat (first | exact hs_eq _ _ _ | refine hs_ne (by omega) ?_ | assumption)), (by repeat (first | exact hs_eq _ _ _ | refine hs_ne (by omega) ?_ | assumption)), (by repeat (first | exact hs_eq _ _ _ | refine hs_ne (by omega) ?_ | assumption)), (by repeat (first | exact hs_eq _ _ _ | refine hs_ne (by omega) ?_ | assumption))⟩, fun aaa haa => by repeat (first | rfl | refine hs_ne (by omega) ?_)⟩)))
        · try (exfalso; omega)
          all_goals (
            refine k_iconst C dX8_pass_46 ?_
            refine k_iret C hr dX8_pass_47 ?_
            first
              | exact Or.inl ⟨by omega, rfl, ⟨(by repeat (first | exact hs_eq _ _ _ | refine hs_ne (by omega) ?_ | assumption)), (by repeat (first | exact hs_eq _ _ _ | refine hs_ne (by omega) ?_ | assumption)), (by repeat (first | exact hs_eq _ _ _ | refine hs_ne (by omega) ?_ | assumption)), (by repeat (first | exact hs_eq _ _ _ | refine hs_ne (by omega) ?_ | assumption)), (by repeat (first | exact hs_eq _ _ _ | refine hs_ne (by omega) ?_ | assumption)), (by repeat (first | exact hs_eq _ _ _ | refine hs_ne (by omega) ?_ | assumption))⟩, Fr.tr (Fr.tr (fun aaa haa => by repeat (first | rfl | refine hs_ne (by omega) ?_)) hF1) (fun aaa haa => by repeat (first | rfl | refine hs_ne (by omega) ?_))⟩
              | exact Or.inr (Or.inl ⟨by omega, rfl, ⟨(by repeat (first | exact hs_eq _ _ _ | refine hs_ne (by omega) ?_ | assumption)), (by repeat (first | exact hs_eq _ _ _ | refine hs_ne (by omega) ?_ | assumption)), (by repeat (first | exact hs_eq _ _ _ | refine hs_ne (by omega) ?_ | assumption)), (by repeat (first | exact hs_eq _ _ _ | refine hs_ne (by omega) ?_ | assumption)), (by repeat (first | exact hs_eq _ _ _ | refine hs_ne (by omega) ?_ | assumption)), (by repeat (first | exact hs_eq _ _ _ | refine hs_ne (by omega) ?_ | assumption))⟩, fun aaa haa => by repeat (first | rfl | refine hs_ne (by omega) ?_)⟩)
              | exact Or.inr (Or.inr (⟨by omega, rfl, ⟨(by repeat (first | exact hs_eq _ _ _ | refine hs_ne (by omega) ?_ | assumption)), (by repeat (first | exact hs_eq _ _ _ | refine hs_ne (by omega) ?_ | assumption)), (by repeat (first | exact hs_eq _ _ _ | refine hs_ne (by omega) ?_ | assumption)), (by repeat (first | exact hs_eq _ _ _ | refine hs_ne (by omega) ?_ | assumption)), (by repeat (first | exact hs_eq _ _ _ | refine hs_ne (by omega) ?_ | assumption)), (by repeat (first | exact hs_eq _ _ _ | refine hs_ne (by omega) ?_ | assumption))⟩, fun aaa haa => by repeat (first | rfl | refine hs_ne (by omega) ?_)⟩))))
  · skip
    refine k_if_ne (tgt := 16) C dX8_pass_9 (by decide) ⟨by omega, by omega⟩ (fun c9 => ?_) (fun c9 => ?_)
    · try (exfalso; omega)
      all_goals (
        refine k_aload_n C dX8_pass_16 rfl ?_
        refine k_get C (k := 0) inX8 (ci := 8) rfl (by decide) fl_X8_7 dX8_pass_17 (by repeat (first | exact hs_eq _ _ _ | refine hs_ne (by omega) ?_ | assumption)) rfl ?_
        refine k_bipush C dX8_pass_20 (by decide +kernel) ?_
        refine k_iaload C dX8_pass_22 (by repeat (first | exact hs_eq _ _ _ | refine hs_ne (by omega) ?_ | assumption)) (by omega) (by omega) (by omega) ?_
        refine k_iload_n C dX8_pass_23 rfl ?_
        refine k_iadd C dX8_pass_24 ?_
        refine k_sipush C dX8_pass_25 (by decide +kernel) ?_
        refine k_icmp_le (tgt := 35) C dX8_pass_28 (by decide) ⟨by omega, by omega⟩ ⟨by omega, by omega⟩ (fun c28 => ?_) (fun c28 => ?_)
        · try (exfalso; omega)
          all_goals (
            refine k_iconst C dX8_pass_35 ?_
            refine k_put C (k := 5) inX8 tyX8_ok nmX8 (ci := 8) rfl (by decide) fl_X8_25 rfl (Nat.le_of_ble_eq_true rfl) dX8_pass_36 (by repeat (first | exact hs_eq _ _ _ | refine hs_ne (by omega) ?_ | assumption)) ?_
            refine k_aload_n C dX8_pass_39 rfl ?_
            refine k_get C (k := 5) inX8 (ci := 8) rfl (by decide) fl_X8_25 dX8_pass_40 (by repeat (first | exact hs_eq _ _ _ | refine hs_ne (by omega) ?_ | assumption)) rfl ?_
            refine k_if_le (tgt := 48) C dX8_pass_43 (by decide) ⟨by omega, by omega⟩ (fun c43 => ?_) (fun c43 => ?_)
            · try (exfalso; omega)
              all_goals (
                refine k_aload_n C dX8_pass_48 rfl ?_
                refine k_callV C (n := 0) (as := []) (ct_X8_save l D tc base oo zrr hhi htx has hro st ln (0) re du hsh _ ⟨(by repeat (first | exact hs_eq _ _ _ | refine hs_ne (by omega) ?_ | assumption)), (by repeat (first | exact hs_eq _ _ _ | refine hs_ne (by omega) ?_ | assumption)), (by repeat (first | exact hs_eq _ _ _ | refine hs_ne (by omega) ?_ | assumption)), (by repeat (first | exact hs_eq _ _ _ | refine hs_ne (by omega) ?_ | assumption)), (by repeat (first | exact hs_eq _ _ _ | refine hs_ne (by omega) ?_ | assumption)), (by repeat (first | exact hs_eq _ _ _ | refine hs_ne (by omega) ?_ | assumption))⟩ hst) ml_X8_102 im_X8_save se_X8_save ini_X8 co_X8_save ⟨rfl, by decide, by decide, by decide +kernel⟩ rfl (ci := 8) rfl (by repeat (first | exact hs_eq _ _ _ | refine hs_ne (by omega) ?_ | assumption)) ⟨by decide, by decide⟩ rfl (Nat.le_of_ble_eq_true rfl) ⟨Nat.zero_le _, Nat.zero_le _⟩ dX8_pass_49 ?_
                rintro _ _ ⟨rfl, hM1, hF1⟩
                obtain ⟨k0, k1, k2, k3, k4, k5⟩ := id hM1
                refine k_aload_n C dX8_pass_52 rfl ?_
                refine k_get C (k := 0) inX8 (ci := 8) rfl (by decide) fl_X8_7 dX8_pass_53 (by repeat (first | exact hs_eq _ _ _ | refine hs_ne (by omega) ?_ | assumption)) rfl ?_
                refine k_bipush C dX8_pass_56 (by decide +kernel) ?_
                refine k_iaload C dX8_pass_58 (by repeat (first | exact hs_eq _ _ _ | refine hs_ne (by omega) ?_ | assumption)) (by omega) (by omega) (by omega) ?_
                refine k_istore_n C dX8_pass_59 (by decide) rfl ?_
                refine k_aload_n C dX8_pass_60 rfl ?_
                refine k_iload_n C dX8_pass_61 rfl ?_
                have eww : ww = (ww.toNat : Int) := by omega
                rw [eww]
                refine k_callV C (n := 1) (as := [_]) (ct_X8_goOn l D tc base oo (oo + 1) _ _ _ (by repeat (first | exact hs_eq _ _ _ | refine hs_ne (by omega) ?_ | assumption)) (by repeat (first | exact hs_eq _ _ _ | refine hs_ne (by omega) ?_ | assumption)) (by omega) hi ha ww.toNat (by omega)) ml_X8_122 im_X8_goOn se_X8_goOn ini_X8 co_X8_goOn ⟨rfl, by decide, by decide, by decide +kernel⟩ rfl (ci := 8) rfl (by repeat (first | exact hs_eq _ _ _ | refine hs_ne (by omega) ?_ | assumption)) ⟨by decide, by decide⟩ rfl (Nat.le_of_ble_eq_true rfl) ⟨Nat.zero_le _, Nat.zero_le _⟩ dX8_pass_62 ?_
                rintro _ _ ⟨rfl, rfl⟩
                refine k_aload_n C dX8_pass_65 rfl ?_
                refine k_get C (k := 0) inX8 (ci := 8) rfl (by decide) fl_X8_7 dX8_pass_66 (by repeat (first | exact hs_eq _ _ _ | refine hs_ne (by omega) ?_ | assumption)) rfl ?_
                refine k_bipush C dX8_pass_69 (by decide +kernel) ?_
                refine k_iaload C dX8_pass_71 (by repeat (first | exact hs_eq _ _ _ | refine hs_ne (by omega) ?_ | assumption)) (by omega) (by omega) (by omega) ?_
                refine k_iload_n C dX8_pass_72 rfl ?_
                refine k_isub C dX8_pass_73 ?_
                refine k_iret C hr dX8_pass_74 ?_
                first
                  | exact Or.inl ⟨by omega, rfl, ⟨(by repeat (first | exact hs_eq _ _ _ | refine hs_ne (by omega) ?_ | assumption)), (by repeat (first | exact hs_eq _ _ _ | refine hs_ne (by omega) ?_ | assumption)), (by repeat (first | exact hs_eq _ _ _ | refine hs_ne (by omega) ?_ | assumption)), (by repeat (first | exact hs_eq _ _ _ | refine hs_ne (by omega) ?_ | assumption)), (by repeat (first | exact hs_eq _ _ _ | refine hs_ne (by omega) ?_ | assumption)), (by repeat (first | exact hs_eq _ _ _ | refine hs_ne (by omega) ?_ | assumption))⟩, Fr.tr (Fr.tr (fun aaa haa => by repeat (first | rfl | refine hs_ne (by omega) ?_)) hF1) (fun aaa haa => by repeat (first | rfl | refine hs_ne (by omega) ?_))⟩
                  | exact Or.inr (Or.inl ⟨by omega, rfl, ⟨(by repeat (first | exact hs_eq _ _ _ | refine hs_ne (by omega) ?_ | assumption)), (by repeat (first | exact hs_eq _ _ _ | refine hs_ne (by omega) ?_ | assumption)), (by repeat (first | exact hs_eq _ _ _ | refine hs_ne (by omega) ?_ | assumption)), (by repeat (first | exact hs_eq _ _ _ | refine hs_ne (by omega) ?_ | assumption)), (by repeat (first | exact hs_eq _ _ _ | refine hs_ne (by omega) ?_ | assumption)), (by repeat (first | exact hs_eq _ _ _ | refine hs_ne (by omega) ?_ | assumption))⟩, fun aaa haa => by repeat (first | rfl | refine hs_ne (by omega) ?_)⟩)
                  | exact Or.inr (Or.inr (⟨by omega, rfl, ⟨(by repeat (first | exact hs_eq _ _ _ | refine hs_ne (by omega) ?_ | assumption)), (by repeat (first | exact hs_eq _ _ _ | refine hs_ne (by omega) ?_ | assumption)), (by repeat (first | exact hs_eq _ _ _ | refine hs_ne (by omega) ?_ | assumption)), (by repeat (first | exact hs_eq _ _ _ | refine hs_ne (by omega) ?_ | assumption)), (by repeat (first | exact hs_eq _ _ _ | refine hs_ne (by omega) ?_ | assumption)), (by repeat (first | exact hs_eq _ _ _ | refine hs_ne (by omega) ?_ | assumption))⟩, fun aaa haa => by repeat (first | rfl | refine hs_ne (by omega) ?_)⟩)))
            · try (exfalso; omega)
              all_goals (
                refine k_iconst C dX8_pass_46 ?_
                refine k_iret C hr dX8_pass_47 ?_
                first
                  | exact Or.inl ⟨by omega, rfl, ⟨(by repeat (first | exact hs_eq _ _ _ | refine hs_ne (by omega) ?_ | assumption)), (by repeat (first | exact hs_eq _ _ _ | refine hs_ne (by omega) ?_ | assumption)), (by repeat (first | exact hs_eq _ _ _ | refine hs_ne (by omega) ?_ | assumption)), (by repeat (first | exact hs_eq _ _ _ | refine hs_ne (by omega) ?_ | assumption)), (by repeat (first | exact hs_eq _ _ _ | refine hs_ne (by omega) ?_ | assumption)), (by repeat (first | exact hs_eq _ _ _ | refine hs_ne (by omega) ?_ | assumption))⟩, Fr.tr (Fr.tr (fun aaa haa => by repeat (first | rfl | refine hs_ne (by omega) ?_)) hF1) (fun aaa haa => by repeat (first | rfl | refine hs_ne (by omega) ?_))⟩
                  | exact Or.inr (Or.inl ⟨by omega, rfl, ⟨(by repeat (first | exact hs_eq _ _ _ | refine hs_ne (by omega) ?_ | assumption)), (by repeat (first | exact hs_eq _ _ _ | refine hs_ne (by omega) ?_ | assumption)), (by repeat (first | exact hs_eq _ _ _ | refine hs_ne (by omega) ?_ | assumption)), (by repeat (first | exact hs_eq _ _ _ | refine hs_ne (by omega) ?_ | assumption)), (by repeat (first | exact hs_eq _ _ _ | refine hs_ne (by omega) ?_ | assumption)), (by repeat (first | exact hs_eq _ _ _ | refine hs_ne (by omega) ?_ | assumption))⟩, fun aaa haa => by repeat (first | rfl | refine hs_ne (by omega) ?_)⟩)
                  | exact Or.inr (Or.inr (⟨by omega, rfl, ⟨(by repeat (first | exact hs_eq _ _ _ | refine hs_ne (by omega) ?_ | assumption)), (by repeat (first | exact hs_eq _ _ _ | refine hs_ne (by omega) ?_ | assumption)), (by repeat (first | exact hs_eq _ _ _ | refine hs_ne (by omega) ?_ | assumption)), (by repeat (first | exact hs_eq _ _ _ | refine hs_ne (by omega) ?_ | assumption)), (by repeat (first | exact hs_eq _ _ _ | refine hs_ne (by omega) ?_ | assumption)), (by repeat (first | exact hs_eq _ _ _ | refine hs_ne (by omega) ?_ | assumption))⟩, fun aaa haa => by repeat (first | rfl | refine hs_ne (by omega) ?_)⟩))))
        · try (exfalso; omega)
          all_goals (
            refine k_iconst C dX8_pass_31 ?_
            refine k_goto (tgt := 36) C dX8_pass_32 (by decide) ?_
            refine k_put C (k := 5) inX8 tyX8_ok nmX8 (ci := 8) rfl (by decide) fl_X8_25 rfl (Nat.le_of_ble_eq_true rfl) dX8_pass_36 (by repeat (first | exact hs_eq _ _ _ | refine hs_ne (by omega) ?_ | assumption)) ?_
            refine k_aload_n C dX8_pass_39 rfl ?_
            refine k_get C (k := 5) inX8 (ci := 8) rfl (by decide) fl_X8_25 dX8_pass_40 (by repeat (first | exact hs_eq _ _ _ | refine hs_ne (by omega) ?_ | assumption)) rfl ?_
            refine k_if_le (tgt := 48) C dX8_pass_43 (by decide) ⟨by omega, by omega⟩ (fun c43 => ?_) (fun c43 => ?_)
            · try (exfalso; omega)
              all_goals (
                refine k_aload_n C dX8_pass_48 rfl ?_
                refine k_callV C (n := 0) (as := []) (ct_X8_save l D tc base oo zrr hhi htx has hro st ln (0) re du hsh _ ⟨(by repeat (first | exact hs_eq _ _ _ | refine hs_ne (by omega) ?_ | assumption)), (by repeat (first | exact hs_eq _ _ _ | refine hs_ne (by omega) ?_ | assumption)), (by repeat (first | exact hs_eq _ _ _ | refine hs_ne (by omega) ?_ | assumption)), (by repeat (first | exact hs_eq _ _ _ | refine hs_ne (by omega) ?_ | assumption)), (by repeat (first | exact hs_eq _ _ _ | refine hs_ne (by omega) ?_ | assumption)), (by repeat (first | exact hs_eq _ _ _ | refine hs_ne (by omega) ?_ | assumption))⟩ hst) ml_X8_102 im_X8_save se_X8_save ini_X8 co_X8_save ⟨rfl, by decide, by decide, by decide +kernel⟩ rfl (ci := 8) rfl (by repeat (first | exact hs_eq _ _ _ | refine hs_ne (by omega) ?_ | assumption)) ⟨by decide, by decide⟩ rfl (Nat.le_of_ble_eq_true rfl) ⟨Nat.zero_le _, Nat.zero_le _⟩ dX8_pass_49 ?_
                rintro _ _ ⟨rfl, hM1, hF1⟩
                obtain ⟨k0, k1, k2, k3, k4, k5⟩ := id hM1
                refine k_aload_n C dX8_pass_52 rfl ?_
                refine k_get C (k := 0) inX8 (ci := 8) rfl (by decide) fl_X8_7 dX8_pass_53 (by repeat (first | exact hs_eq _ _ _ | refine hs_ne (by omega) ?_ | assumption)) rfl ?_
                refine k_bipush C dX8_pass_56 (by decide +kernel) ?_
                refine k_iaload C dX8_pass_58 (by repeat (first | exact hs_eq _ _ _ | refine hs_ne (by omega) ?_ | assumption)) (by omega) (by omega) (by omega) ?_
                refine k_istore_n C dX8_pass_59 (by decide) rfl ?_
                refine k_aload_n C dX8_pass_60 rfl ?_
                refine k_iload_n C dX8_pass_61 rfl ?_
                have eww : ww = (ww.toNat : Int) := by omega
                rw [eww]
                refine k_callV C (n := 1) (as := [_]) (ct_X8_goOn l D tc base oo (oo + 1) _ _ _ (by repeat (first | exact hs_eq _ _ _ | refine hs_ne (by omega) ?_ | assumption)) (by repeat (first | exact hs_eq _ _ _ | refine hs_ne (by omega) ?_ | assumption)) (by omega) hi ha ww.toNat (by omega)) ml_X8_122 im_X8_goOn se_X8_goOn ini_X8 co_X8_goOn ⟨rfl, by decide, by decide, by decide +kernel⟩ rfl (ci := 8) rfl (by repeat (first | exact hs_eq _ _ _ | refine hs_ne (by omega) ?_ | assumption)) ⟨by decide, by decide⟩ rfl (Nat.le_of_ble_eq_true rfl) ⟨Nat.zero_le _, Nat.zero_le _⟩ dX8_pass_62 ?_
                rintro _ _ ⟨rfl, rfl⟩
                refine k_aload_n C dX8_pass_65 rfl ?_
                refine k_get C (k := 0) inX8 (ci := 8) rfl (by decide) fl_X8_7 dX8_pass_66 (by repeat (first | exact hs_eq _ _ _ | refine hs_ne (by omega) ?_ | assumption)) rfl ?_
                refine k_bipush C dX8_pass_69 (by decide +kernel) ?_
                refine k_iaload C dX8_pass_71 (by repeat (first | exact hs_eq _ _ _ | refine hs_ne (by omega) ?_ | assumption)) (by omega) (by omega) (by omega) ?_
                refine k_iload_n C dX8_pass_72 rfl ?_
                refine k_isub C dX8_pass_73 ?_
                refine k_iret C hr dX8_pass_74 ?_
                first
                  | exact Or.inl ⟨by omega, rfl, ⟨(by repeat (first | exact hs_eq _ _ _ | refine hs_ne (by omega) ?_ | assumption)), (by repeat (first | exact hs_eq _ _ _ | refine hs_ne (by omega) ?_ | assumption)), (by repeat (first | exact hs_eq _ _ _ | refine hs_ne (by omega) ?_ | assumption)), (by repeat (first | exact hs_eq _ _ _ | refine hs_ne (by omega) ?_ | assumption)), (by repeat (first | exact hs_eq _ _ _ | refine hs_ne (by omega) ?_ | assumption)), (by repeat (first | exact hs_eq _ _ _ | refine hs_ne (by omega) ?_ | assumption))⟩, Fr.tr (Fr.tr (fun aaa haa => by repeat (first | rfl | refine hs_ne (by omega) ?_)) hF1) (fun aaa haa => by repeat (first | rfl | refine hs_ne (by omega) ?_))⟩
                  | exact Or.inr (Or.inl ⟨by omega, rfl, ⟨(by repeat (first | exact hs_eq _ _ _ | refine hs_ne (by omega) ?_ | assumption)), (by repeat (first | exact hs_eq _ _ _ | refine hs_ne (by omega) ?_ | assumption)), (by repeat (first | exact hs_eq _ _ _ | refine hs_ne (by omega) ?_ | assumption)), (by repeat (first | exact hs_eq _ _ _ | refine hs_ne (by omega) ?_ | assumption)), (by repeat (first | exact hs_eq _ _ _ | refine hs_ne (by omega) ?_ | assumption)), (by repeat (first | exact hs_eq _ _ _ | refine hs_ne (by omega) ?_ | assumption))⟩, fun aaa haa => by repeat (first | rfl | refine hs_ne (by omega) ?_)⟩)
                  | exact Or.inr (Or.inr (⟨by omega, rfl, ⟨(by repeat (first | exact hs_eq _ _ _ | refine hs_ne (by omega) ?_ | assumption)), (by repeat (first | exact hs_eq _ _ _ | refine hs_ne (by omega) ?_ | assumption)), (by repeat (first | exact hs_eq _ _ _ | refine hs_ne (by omega) ?_ | assumption)), (by repeat (first | exact hs_eq _ _ _ | refine hs_ne (by omega) ?_ | assumption)), (by repeat (first | exact hs_eq _ _ _ | refine hs_ne (by omega) ?_ | assumption)), (by repeat (first | exact hs_eq _ _ _ | refine hs_ne (by omega) ?_ | assumption))⟩, fun aaa haa => by repeat (first | rfl | refine hs_ne (by omega) ?_)⟩)))
            · try (exfalso; omega)
              all_goals (
                refine k_iconst C dX8_pass_46 ?_
                refine k_iret C hr dX8_pass_47 ?_
                first
                  | exact Or.inl ⟨by omega, rfl, ⟨(by repeat (first | exact hs_eq _ _ _ | refine hs_ne (by omega) ?_ | assumption)), (by repeat (first | exact hs_eq _ _ _ | refine hs_ne (by omega) ?_ | assumption)), (by repeat (first | exact hs_eq _ _ _ | refine hs_ne (by omega) ?_ | assumption)), (by repeat (first | exact hs_eq _ _ _ | refine hs_ne (by omega) ?_ | assumption)), (by repeat (first | exact hs_eq _ _ _ | refine hs_ne (by omega) ?_ | assumption)), (by repeat (first | exact hs_eq _ _ _ | refine hs_ne (by omega) ?_ | assumption))⟩, Fr.tr (Fr.tr (fun aaa haa => by repeat (first | rfl | refine hs_ne (by omega) ?_)) hF1) (fun aaa haa => by repeat (first | rfl | refine hs_ne (by omega) ?_))⟩
                  | exact Or.inr (Or.inl ⟨by omega, rfl, ⟨(by repeat (first | exact hs_eq _ _ _ | refine hs_ne (by omega) ?_ | assumption)), (by repeat (first | exact hs_eq _ _ _ | refine hs_ne (by omega) ?_ | assumption)), (by repeat (first | exact hs_eq _ _ _ | refine hs_ne (by omega) ?_ | assumption)), (by repeat (first | exact hs_eq _ _ _ | refine hs_ne (by omega) ?_ | assumption)), (by repeat (first | exact hs_eq _ _ _ | refine hs_ne (by omega) ?_ | assumption)), (by repeat (first | exact hs_eq _ _ _ | refine hs_ne (by omega) ?_ | assumption))⟩, fun aaa haa => by repeat (first | rfl | refine hs_ne (by omega) ?_)⟩)
                  | exact Or.inr (Or.inr (⟨by omega, rfl, ⟨(by repeat (first | exact hs_eq _ _ _ | refine hs_ne (by omega) ?_ | assumption)), (by repeat (first | exact hs_eq _ _ _ | refine hs_ne (by omega) ?_ | assumption)), (by repeat (first | exact hs_eq _ _ _ | refine hs_ne (by omega) ?_ | assumption)), (by repeat (first | exact hs_eq _ _ _ | refine hs_ne (by omega) ?_ | assumption)), (by repeat (first | exact hs_eq _ _ _ | refine hs_ne (by omega) ?_ | assumption)), (by repeat (first | exact hs_eq _ _ _ | refine hs_ne (by omega) ?_ | assumption))⟩, fun aaa haa => by repeat (first | rfl | refine hs_ne (by omega) ?_)⟩)))))
    · try (exfalso; omega)
      all_goals (
        refine k_iconst C dX8_pass_12 ?_
        refine k_goto (tgt := 36) C dX8_pass_13 (by decide) ?_
        refine k_put C (k := 5) inX8 tyX8_ok nmX8 (ci := 8) rfl (by decide) fl_X8_25 rfl (Nat.le_of_ble_eq_true rfl) dX8_pass_36 (by repeat (first | exact hs_eq _ _ _ | refine hs_ne (by omega) ?_ | assumption)) ?_
        refine k_aload_n C dX8_pass_39 rfl ?_
        refine k_get C (k := 5) inX8 (ci := 8) rfl (by decide) fl_X8_25 dX8_pass_40 (by repeat (first | exact hs_eq _ _ _ | refine hs_ne (by omega) ?_ | assumption)) rfl ?_
        refine k_if_le (tgt := 48) C dX8_pass_43 (by decide) ⟨by omega, by omega⟩ (fun c43 => ?_) (fun c43 => ?_)
        · try (exfalso; omega)
          all_goals (
            refine k_aload_n C dX8_pass_48 rfl ?_
            refine k_callV C (n := 0) (as := []) (ct_X8_save l D tc base oo zrr hhi htx has hro st ln (0) re du hsh _ ⟨(by repeat (first | exact hs_eq _ _ _ | refine hs_ne (by omega) ?_ | assumption)), (by repeat (first | exact hs_eq _ _ _ | refine hs_ne (by omega) ?_ | assumption)), (by repeat (first | exact hs_eq _ _ _ | refine hs_ne (by omega) ?_ | assumption)), (by repeat (first | exact hs_eq _ _ _ | refine hs_ne (by omega) ?_ | assumption)), (by repeat (first | exact hs_eq _ _ _ | refine hs_ne (by omega) ?_ | assumption)), (by repeat (first | exact hs_eq _ _ _ | refine hs_ne (by omega) ?_ | assumption))⟩ hst) ml_X8_102 im_X8_save se_X8_save ini_X8 co_X8_save ⟨rfl, by decide, by decide, by decide +kernel⟩ rfl (ci := 8) rfl (by repeat (first | exact hs_eq _ _ _ | refine hs_ne (by omega) ?_ | assumption)) ⟨by decide, by decide⟩ rfl (Nat.le_of_ble_eq_true rfl) ⟨Nat.zero_le _, Nat.zero_le _⟩ dX8_pass_49 ?_
            rintro _ _ ⟨rfl, hM1, hF1⟩
            obtain ⟨k0, k1, k2, k3, k4, k5⟩ := id hM1
            refine k_aload_n C dX8_pass_52 rfl ?_
            refine k_get C (k := 0) inX8 (ci := 8) rfl (by decide) fl_X8_7 dX8_pass_53 (by repeat (first | exact hs_eq _ _ _ | refine hs_ne (by omega) ?_ | assumption)) rfl ?_
            refine k_bipush C dX8_pass_56 (by decide +kernel) ?_
            refine k_iaload C dX8_pass_58 (by repeat (first | exact hs_eq _ _ _ | refine hs_ne (by omega) ?_ | assumption)) (by omega) (by omega) (by omega) ?_
            refine k_istore_n C dX8_pass_59 (by decide) rfl ?_
            refine k_aload_n C dX8_pass_60 rfl ?_
            refine k_iload_n C dX8_pass_61 rfl ?_
            have eww : ww = (ww.toNat : Int) := by omega
            rw [eww]
            refine k_callV C (n := 1) (as := [_]) (ct_X8_goOn l D tc base oo (oo + 1) _ _ _ (by repeat (first | exact hs_eq _ _ _ | refine hs_ne (by omega) ?_ | assumption)) (by repeat (first | exact hs_eq _ _ _ | refine hs_ne (by omega) ?_ | assumption)) (by omega) hi ha ww.toNat (by omega)) ml_X8_122 im_X8_goOn se_X8_goOn ini_X8 co_X8_goOn ⟨rfl, by decide, by decide, by decide +kernel⟩ rfl (ci := 8) rfl (by repeat (first | exact hs_eq _ _ _ | refine hs_ne (by omega) ?_ | assumption)) ⟨by decide, by decide⟩ rfl (Nat.le_of_ble_eq_true rfl) ⟨Nat.zero_le _, Nat.zero_le _⟩ dX8_pass_62 ?_
            rintro _ _ ⟨rfl, rfl⟩
            refine k_aload_n C dX8_pass_65 rfl ?_
            refine k_get C (k := 0) inX8 (ci := 8) rfl (by decide) fl_X8_7 dX8_pass_66 (by repeat (first | exact hs_eq _ _ _ | refine hs_ne (by omega) ?_ | assumption)) rfl ?_
            refine k_bipush C dX8_pass_69 (by decide +kernel) ?_
            refine k_iaload C dX8_pass_71 (by repeat (first | exact hs_eq _ _ _ | refine hs_ne (by omega) ?_ | assumption)) (by omega) (by omega) (by omega) ?_
            refine k_iload_n C dX8_pass_72 rfl ?_
            refine k_isub C dX8_pass_73 ?_
            refine k_iret C hr dX8_pass_74 ?_
            first
              | exact Or.inl ⟨by omega, rfl, ⟨(by repeat (first | exact hs_eq _ _ _ | refine hs_ne (by omega) ?_ | assumption)), (by repeat (first | exact hs_eq _ _ _ | refine hs_ne (by omega) ?_ | assumption)), (by repeat (first | exact hs_eq _ _ _ | refine hs_ne (by omega) ?_ | assumption)), (by repeat (first | exact hs_eq _ _ _ | refine hs_ne (by omega) ?_ | assumption)), (by repeat (first | exact hs_eq _ _ _ | refine hs_ne (by omega) ?_ | assumption)), (by repeat (first | exact hs_eq _ _ _ | refine hs_ne (by omega) ?_ | assumption))⟩, Fr.tr (Fr.tr (fun aaa haa => by repeat (first | rfl | refine hs_ne (by omega) ?_)) hF1) (fun aaa haa => by repeat (first | rfl | refine hs_ne (by omega) ?_))⟩
              | exact Or.inr (Or.inl ⟨by omega, rfl, ⟨(by repeat (first | exact hs_eq _ _ _ | refine hs_ne (by omega) ?_ | assumption)), (by repeat (first | exact hs_eq _ _ _ | refine hs_ne (by omega) ?_ | assumption)), (by repeat (first | exact hs_eq _ _ _ | refine hs_ne (by omega) ?_ | assumption)), (by repeat (first | exact hs_eq _ _ _ | refine hs_ne (by omega) ?_ | assumption)), (by repeat (first | exact hs_eq _ _ _ | refine hs_ne (by omega) ?_ | assumption)), (by repeat (first | exact hs_eq _ _ _ | refine hs_ne (by omega) ?_ | assumption))⟩, fun aaa haa => by repeat (first | rfl | refine hs_ne (by omega) ?_)⟩)
              | exact Or.inr (Or.inr (⟨by omega, rfl, ⟨(by repeat (first | exact hs_eq _ _ _ | refine hs_ne (by omega) ?_ | assumption)), (by repeat (first | exact hs_eq _ _ _ | refine hs_ne (by omega) ?_ | assumption)), (by repeat (first | exact hs_eq _ _ _ | refine hs_ne (by omega) ?_ | assumption)), (by repeat (first | exact hs_eq _ _ _ | refine hs_ne (by omega) ?_ | assumption)), (by repeat (first | exact hs_eq _ _ _ | refine hs_ne (by omega) ?_ | assumption)), (by repeat (first | exact hs_eq _ _ _ | refine hs_ne (by omega) ?_ | assumption))⟩, fun aaa haa => by repeat (first | rfl | refine hs_ne (by omega) ?_)⟩)))
        · try (exfalso; omega)
          all_goals (
            refine k_iconst C dX8_pass_46 ?_
            refine k_iret C hr dX8_pass_47 ?_
            first
              | exact Or.inl ⟨by omega, rfl, ⟨(by repeat (first | exact hs_eq _ _ _ | refine hs_ne (by omega) ?_ | assumption)), (by repeat (first | exact hs_eq _ _ _ | refine hs_ne (by omega) ?_ | assumption)), (by repeat (first | exact hs_eq _ _ _ | refine hs_ne (by omega) ?_ | assumption)), (by repeat (first | exact hs_eq _ _ _ | refine hs_ne (by omega) ?_ | assumption)), (by repeat (first | exact hs_eq _ _ _ | refine hs_ne (by omega) ?_ | assumption)), (by repeat (first | exact hs_eq _ _ _ | refine hs_ne (by omega) ?_ | assumption))⟩, Fr.tr (Fr.tr (fun aaa haa => by repeat (first | rfl | refine hs_ne (by omega) ?_)) hF1) (fun aaa haa => by repeat (first | rfl | refine hs_ne (by omega) ?_))⟩
              | exact Or.inr (Or.inl ⟨by omega, rfl, ⟨(by repeat (first | exact hs_eq _ _ _ | refine hs_ne (by omega) ?_ | assumption)), (by repeat (first | exact hs_eq _ _ _ | refine hs_ne (by omega) ?_ | assumption)), (by repeat (first | exact hs_eq _ _ _ | refine hs_ne (by omega) ?_ | assumption)), (by repeat (first | exact hs_eq _ _ _ | refine hs_ne (by omega) ?_ | assumption)), (by repeat (first | exact hs_eq _ _ _ | refine hs_ne (by omega) ?_ | assumption)), (by repeat (first | exact hs_eq _ _ _ | refine hs_ne (by omega) ?_ | assumption))⟩, fun aaa haa => by repeat (first | rfl | refine hs_ne (by omega) ?_)⟩)
              | exact Or.inr (Or.inr (⟨by omega, rfl, ⟨(by repeat (first | exact hs_eq _ _ _ | refine hs_ne (by omega) ?_ | assumption)), (by repeat (first | exact hs_eq _ _ _ | refine hs_ne (by omega) ?_ | assumption)), (by repeat (first | exact hs_eq _ _ _ | refine hs_ne (by omega) ?_ | assumption)), (by repeat (first | exact hs_eq _ _ _ | refine hs_ne (by omega) ?_ | assumption)), (by repeat (first | exact hs_eq _ _ _ | refine hs_ne (by omega) ?_ | assumption)), (by repeat (first | exact hs_eq _ _ _ | refine hs_ne (by omega) ?_ | assumption))⟩, fun aaa haa => by repeat (first | rfl | refine hs_ne (by omega) ?_)⟩))))

set_option maxRecDepth 20000 in
set_option maxHeartbeats 1000000 in
theorem ct_X8_append (l : Launch) (D : va_G) (tc : Nat → ClassId) (base : Nat) (oo : Nat) (zrr hhi htx has hro : Int → Int) (st ln th re du hsh : Int) (hpp : AH) (hM : MA hpp oo zrr hhi htx has hro st ln th re du hsh) (ww : Int) (hw : r32 ww) (hln : 0 ≤ ln ∧ ln ≤ 60) : CT l D tc base yX8_append cX8_append 2 (some .int) 1 [aR oo, aI ww] hpp (fun r h' => (((33 ≤ ww ∧ ww ≤ 126) ∧ ln < 60) ∧ r = some (aI (ln + 1)) ∧ MA h' oo (zrr) (hhi) (iu htx ln ww) (has) (hro) (st) (ln + 1) (0) (re) (du) (hsh) ∧ Fr hpp h' oo 6) ∨ (¬ (33 ≤ ww ∧ ww ≤ 126) ∧ r = some (aI (0)) ∧ MA h' oo (zrr) (hhi) (htx) (has) (hro) (st) (ln) (1) (re) (du) (hsh) ∧ Fr hpp h' oo 6) ∨ (((33 ≤ ww ∧ ww ≤ 126) ∧ ln = 60) ∧ r = some (aI (0)) ∧ MA h' oo (zrr) (hhi) (htx) (has) (hro) (st) (ln) (2) (re) (du) (hsh) ∧ Fr hpp h' oo 6)) := by
  refine CT.of [some (aR oo), some (aI ww)] (by decide +kernel) rfl (Nat.le_of_ble_eq_true rfl) ?_
  intro p e s m args below meth c C hr hnm
  obtain ⟨g0, g1, g2, g3, g4, g5⟩ := id hM
  refine k_aload_n C dX8_append_0 rfl ?_
  refine k_iload_n C dX8_append_1 rfl ?_
  refine k_bipush C dX8_append_2 (by decide +kernel) ?_
  refine k_bipush C dX8_append_4 (by decide +kernel) ?_
  refine k_callS C (n := 3) (as := [_, _, _]) (ct_X8_within l D tc base _ _ _ _ hw ⟨by omega, by omega⟩ ⟨by omega, by omega⟩) ml_X8_92 sm_X8_within ini_X8 co_X8_within ⟨by decide, by decide, by decide +kernel⟩ rfl ⟨by decide, by decide⟩ rfl (Nat.le_of_ble_eq_true rfl) ⟨Nat.zero_le _, Nat.zero_le _⟩ dX8_append_6 ?_
  rintro _ _ (⟨rfl, rfl, hq6⟩ | ⟨rfl, rfl, hq6⟩)
  · skip
    refine k_if_ne (tgt := 16) C dX8_append_9 (by decide) ⟨by omega, by omega⟩ (fun c9 => ?_) (fun c9 => ?_)
    · try (exfalso; omega)
      all_goals (
        refine k_aload_n C dX8_append_16 rfl ?_
        refine k_get C (k := 3) inX8 (ci := 8) rfl (by decide) fl_X8_126 dX8_append_17 (by repeat (first | exact hs_eq _ _ _ | refine hs_ne (by omega) ?_ | assumption)) rfl ?_
        refine k_bipush C dX8_append_20 (by decide +kernel) ?_
        refine k_icmp_ne (tgt := 29) C dX8_append_22 (by decide) ⟨by omega, by omega⟩ ⟨by omega, by omega⟩ (fun c22 => ?_) (fun c22 => ?_)
        · try (exfalso; omega)
          all_goals (
            refine k_iconst C dX8_append_29 ?_
            refine k_put C (k := 5) inX8 tyX8_ok nmX8 (ci := 8) rfl (by decide) fl_X8_25 rfl (Nat.le_of_ble_eq_true rfl) dX8_append_30 (by repeat (first | exact hs_eq _ _ _ | refine hs_ne (by omega) ?_ | assumption)) ?_
            refine k_aload_n C dX8_append_33 rfl ?_
            refine k_get C (k := 5) inX8 (ci := 8) rfl (by decide) fl_X8_25 dX8_append_34 (by repeat (first | exact hs_eq _ _ _ | refine hs_ne (by omega) ?_ | assumption)) rfl ?_
            refine k_if_le (tgt := 42) C dX8_append_37 (by decide) ⟨by omega, by omega⟩ (fun c37 => ?_) (fun c37 => ?_)
            · try (exfalso; omega)
              all_goals (
                refine k_aload_n C dX8_append_42 rfl ?_
                refine k_get C (k := 4) inX8 (ci := 8) rfl (by decide) fl_X8_16 dX8_append_43 (by repeat (first | exact hs_eq _ _ _ | refine hs_ne (by omega) ?_ | assumption)) rfl ?_
                refine k_aload_n C dX8_append_46 rfl ?_
                refine k_get C (k := 3) inX8 (ci := 8) rfl (by decide) fl_X8_126 dX8_append_47 (by repeat (first | exact hs_eq _ _ _ | refine hs_ne (by omega) ?_ | assumption)) rfl ?_
                refine k_iload_n C dX8_append_50 rfl ?_
                refine k_iastore C dX8_append_51 (by repeat (first | exact hs_eq _ _ _ | refine hs_ne (by omega) ?_ | assumption)) (by omega) (by omega) (by omega) ?_
                refine k_aload_n C dX8_append_52 rfl ?_
                refine k_dup C dX8_append_53 rfl ?_
                refine k_get C (k := 3) inX8 (ci := 8) rfl (by decide) fl_X8_126 dX8_append_54 (by repeat (first | exact hs_eq _ _ _ | refine hs_ne (by omega) ?_ | assumption)) rfl ?_
                refine k_iconst C dX8_append_57 ?_
                refine k_iadd C dX8_append_58 ?_
                refine k_put C (k := 3) inX8 tyX8_ok nmX8 (ci := 8) rfl (by decide) fl_X8_126 rfl (Nat.le_of_ble_eq_true rfl) dX8_append_59 (by repeat (first | exact hs_eq _ _ _ | refine hs_ne (by omega) ?_ | assumption)) ?_
                refine k_aload_n C dX8_append_62 rfl ?_
                refine k_get C (k := 3) inX8 (ci := 8) rfl (by decide) fl_X8_126 dX8_append_63 (by repeat (first | exact hs_eq _ _ _ | refine hs_ne (by omega) ?_ | assumption)) rfl ?_
                refine k_iret C hr dX8_append_66 ?_
                first
                  | exact Or.inl ⟨by omega, rfl, ⟨(by repeat (first | exact hs_eq _ _ _ | refine hs_ne (by omega) ?_ | assumption)), (by repeat (first | exact hs_eq _ _ _ | refine hs_ne (by omega) ?_ | assumption)), (by repeat (first | exact hs_eq _ _ _ | refine hs_ne (by omega) ?_ | assumption)), (by repeat (first | exact hs_eq _ _ _ | refine hs_ne (by omega) ?_ | assumption)), (by repeat (first | exact hs_eq _ _ _ | refine hs_ne (by omega) ?_ | assumption)), (by repeat (first | exact hs_eq _ _ _ | refine hs_ne (by omega) ?_ | assumption))⟩, fun aaa haa => by repeat (first | rfl | refine hs_ne (by omega) ?_)⟩
                  | exact Or.inr (Or.inl ⟨by omega, rfl, ⟨(by repeat (first | exact hs_eq _ _ _ | refine hs_ne (by omega) ?_ | assumption)), (by repeat (first | exact hs_eq _ _ _ | refine hs_ne (by omega) ?_ | assumption)), (by repeat (first | exact hs_eq _ _ _ | refine hs_ne (by omega) ?_ | assumption)), (by repeat (first | exact hs_eq _ _ _ | refine hs_ne (by omega) ?_ | assumption)), (by repeat (first | exact hs_eq _ _ _ | refine hs_ne (by omega) ?_ | assumption)), (by repeat (first | exact hs_eq _ _ _ | refine hs_ne (by omega) ?_ | assumption))⟩, fun aaa haa => by repeat (first | rfl | refine hs_ne (by omega) ?_)⟩)
                  | exact Or.inr (Or.inr (⟨by omega, rfl, ⟨(by repeat (first | exact hs_eq _ _ _ | refine hs_ne (by omega) ?_ | assumption)), (by repeat (first | exact hs_eq _ _ _ | refine hs_ne (by omega) ?_ | assumption)), (by repeat (first | exact hs_eq _ _ _ | refine hs_ne (by omega) ?_ | assumption)), (by repeat (first | exact hs_eq _ _ _ | refine hs_ne (by omega) ?_ | assumption)), (by repeat (first | exact hs_eq _ _ _ | refine hs_ne (by omega) ?_ | assumption)), (by repeat (first | exact hs_eq _ _ _ | refine hs_ne (by omega) ?_ | assumption))⟩, fun aaa haa => by repeat (first | rfl | refine hs_ne (by omega) ?_)⟩)))
            · try (exfalso; omega)
              all_goals (
                refine k_iconst C dX8_append_40 ?_
                refine k_iret C hr dX8_append_41 ?_
                first
                  | exact Or.inl ⟨by omega, rfl, ⟨(by repeat (first | exact hs_eq _ _ _ | refine hs_ne (by omega) ?_ | assumption)), (by repeat (first | exact hs_eq _ _ _ | refine hs_ne (by omega) ?_ | assumption)), (by repeat (first | exact hs_eq _ _ _ | refine hs_ne (by omega) ?_ | assumption)), (by repeat (first | exact hs_eq _ _ _ | refine hs_ne (by omega) ?_ | assumption)), (by repeat (first | exact hs_eq _ _ _ | refine hs_ne (by omega) ?_ | assumption)), (by repeat (first | exact hs_eq _ _ _ | refine hs_ne (by omega) ?_ | assumption))⟩, fun aaa haa => by repeat (first | rfl | refine hs_ne (by omega) ?_)⟩
                  | exact Or.inr (Or.inl ⟨by omega, rfl, ⟨(by repeat (first | exact hs_eq _ _ _ | refine hs_ne (by omega) ?_ | assumption)), (by repeat (first | exact hs_eq _ _ _ | refine hs_ne (by omega) ?_ | assumption)), (by repeat (first | exact hs_eq _ _ _ | refine hs_ne (by omega) ?_ | assumption)), (by repeat (first | exact hs_eq _ _ _ | refine hs_ne (by omega) ?_ | assumption)), (by repeat (first | exact hs_eq _ _ _ | refine hs_ne (by omega) ?_ | assumption)), (by repeat (first | exact hs_eq _ _ _ | refine hs_ne (by omega) ?_ | assumption))⟩, fun aaa haa => by repeat (first | rfl | refine hs_ne (by omega) ?_)⟩)
                  | exact Or.inr (Or.inr (⟨by omega, rfl, ⟨(by repeat (first | exact hs_eq _ _ _ | refine hs_ne (by omega) ?_ | assumption)), (by repeat (first | exact hs_eq _ _ _ | refine hs_ne (by omega) ?_ | assumption)), (by repeat (first | exact hs_eq _ _ _ | refine hs_ne (by omega) ?_ | assumption)), (by repeat (first | exact hs_eq _ _ _ | refine hs_ne (by omega) ?_ | assumption)), (by repeat (first | exact hs_eq _ _ _ | refine hs_ne (by omega) ?_ | assumption)), (by repeat (first | exact hs_eq _ _ _ | refine hs_ne (by omega) ?_ | assumption))⟩, fun aaa haa => by repeat (first | rfl | refine hs_ne (by omega) ?_)⟩))))
        · try (exfalso; omega)
          all_goals (
            refine k_iconst C dX8_append_25 ?_
            refine k_goto (tgt := 30) C dX8_append_26 (by decide) ?_
            refine k_put C (k := 5) inX8 tyX8_ok nmX8 (ci := 8) rfl (by decide) fl_X8_25 rfl (Nat.le_of_ble_eq_true rfl) dX8_append_30 (by repeat (first | exact hs_eq _ _ _ | refine hs_ne (by omega) ?_ | assumption)) ?_
            refine k_aload_n C dX8_append_33 rfl ?_
            refine k_get C (k := 5) inX8 (ci := 8) rfl (by decide) fl_X8_25 dX8_append_34 (by repeat (first | exact hs_eq _ _ _ | refine hs_ne (by omega) ?_ | assumption)) rfl ?_
            refine k_if_le (tgt := 42) C dX8_append_37 (by decide) ⟨by omega, by omega⟩ (fun c37 => ?_) (fun c37 => ?_)
            · try (exfalso; omega)
              all_goals (
                refine k_aload_n C dX8_append_42 rfl ?_
                refine k_get C (k := 4) inX8 (ci := 8) rfl (by decide) fl_X8_16 dX8_append_43 (by repeat (first | exact hs_eq _ _ _ | refine hs_ne (by omega) ?_ | assumption)) rfl ?_
                refine k_aload_n C dX8_append_46 rfl ?_
                refine k_get C (k := 3) inX8 (ci := 8) rfl (by decide) fl_X8_126 dX8_append_47 (by repeat (first | exact hs_eq _ _ _ | refine hs_ne (by omega) ?_ | assumption)) rfl ?_
                refine k_iload_n C dX8_append_50 rfl ?_
                refine k_iastore C dX8_append_51 (by repeat (first | exact hs_eq _ _ _ | refine hs_ne (by omega) ?_ | assumption)) (by omega) (by omega) (by omega) ?_
                refine k_aload_n C dX8_append_52 rfl ?_
                refine k_dup C dX8_append_53 rfl ?_
                refine k_get C (k := 3) inX8 (ci := 8) rfl (by decide) fl_X8_126 dX8_append_54 (by repeat (first | exact hs_eq _ _ _ | refine hs_ne (by omega) ?_ | assumption)) rfl ?_
                refine k_iconst C dX8_append_57 ?_
                refine k_iadd C dX8_append_58 ?_
                refine k_put C (k := 3) inX8 tyX8_ok nmX8 (ci := 8) rfl (by decide) fl_X8_126 rfl (Nat.le_of_ble_eq_true rfl) dX8_append_59 (by repeat (first | exact hs_eq _ _ _ | refine hs_ne (by omega) ?_ | assumption)) ?_
                refine k_aload_n C dX8_append_62 rfl ?_
                refine k_get C (k := 3) inX8 (ci := 8) rfl (by decide) fl_X8_126 dX8_append_63 (by repeat (first | exact hs_eq _ _ _ | refine hs_ne (by omega) ?_ | assumption)) rfl ?_
                refine k_iret C hr dX8_append_66 ?_
                first
                  | exact Or.inl ⟨by omega, rfl, ⟨(by repeat (first | exact hs_eq _ _ _ | refine hs_ne (by omega) ?_ | assumption)), (by repeat (first | exact hs_eq _ _ _ | refine hs_ne (by omega) ?_ | assumption)), (by repeat (first | exact hs_eq _ _ _ | refine hs_ne (by omega) ?_ | assumption)), (by repeat (first | exact hs_eq _ _ _ | refine hs_ne (by omega) ?_ | assumption)), (by repeat (first | exact hs_eq _ _ _ | refine hs_ne (by omega) ?_ | assumption)), (by repeat (first | exact hs_eq _ _ _ | refine hs_ne (by omega) ?_ | assumption))⟩, fun aaa haa => by repeat (first | rfl | refine hs_ne (by omega) ?_)⟩
                  | exact Or.inr (Or.inl ⟨by omega, rfl, ⟨(by repeat (first | exact hs_eq _ _ _ | refine hs_ne (by omega) ?_ | assumption)), (by repeat (first | exact hs_eq _ _ _ | refine hs_ne (by omega) ?_ | assumption)), (by repeat (first | exact hs_eq _ _ _ | refine hs_ne (by omega) ?_ | assumption)), (by repeat (first | exact hs_eq _ _ _ | refine hs_ne (by omega) ?_ | assumption)), (by repeat (first | exact hs_eq _ _ _ | refine hs_ne (by omega) ?_ | assumption)), (by repeat (first | exact hs_eq _ _ _ | refine hs_ne (by omega) ?_ | assumption))⟩, fun aaa haa => by repeat (first | rfl | refine hs_ne (by omega) ?_)⟩)
                  | exact Or.inr (Or.inr (⟨by omega, rfl, ⟨(by repeat (first | exact hs_eq _ _ _ | refine hs_ne (by omega) ?_ | assumption)), (by repeat (first | exact hs_eq _ _ _ | refine hs_ne (by omega) ?_ | assumption)), (by repeat (first | exact hs_eq _ _ _ | refine hs_ne (by omega) ?_ | assumption)), (by repeat (first | exact hs_eq _ _ _ | refine hs_ne (by omega) ?_ | assumption)), (by repeat (first | exact hs_eq _ _ _ | refine hs_ne (by omega) ?_ | assumption)), (by repeat (first | exact hs_eq _ _ _ | refine hs_ne (by omega) ?_ | assumption))⟩, fun aaa haa => by repeat (first | rfl | refine hs_ne (by omega) ?_)⟩)))
            · try (exfalso; omega)
              all_goals (
                refine k_iconst C dX8_append_40 ?_
                refine k_iret C hr dX8_append_41 ?_
                first
                  | exact Or.inl ⟨by omega, rfl, ⟨(by repeat (first | exact hs_eq _ _ _ | refine hs_ne (by omega) ?_ | assumption)), (by repeat (first | exact hs_eq _ _ _ | refine hs_ne (by omega) ?_ | assumption)), (by repeat (first | exact hs_eq _ _ _ | refine hs_ne (by omega) ?_ | assumption)), (by repeat (first | exact hs_eq _ _ _ | refine hs_ne (by omega) ?_ | assumption)), (by repeat (first | exact hs_eq _ _ _ | refine hs_ne (by omega) ?_ | assumption)), (by repeat (first | exact hs_eq _ _ _ | refine hs_ne (by omega) ?_ | assumption))⟩, fun aaa haa => by repeat (first | rfl | refine hs_ne (by omega) ?_)⟩
                  | exact Or.inr (Or.inl ⟨by omega, rfl, ⟨(by repeat (first | exact hs_eq _ _ _ | refine hs_ne (by omega) ?_ | assumption)), (by repeat (first | exact hs_eq _ _ _ | refine hs_ne (by omega) ?_ | assumption)), (by repeat (first | exact hs_eq _ _ _ | refine hs_ne (by omega) ?_ | assumption)), (by repeat (first | exact hs_eq _ _ _ | refine hs_ne (by omega) ?_ | assumption)), (by repeat (first | exact hs_eq _ _ _ | refine hs_ne (by omega) ?_ | assumption)), (by repeat (first | exact hs_eq _ _ _ | refine hs_ne (by omega) ?_ | assumption))⟩, fun aaa haa => by repeat (first | rfl | refine hs_ne (by omega) ?_)⟩)
                  | exact Or.inr (Or.inr (⟨by omega, rfl, ⟨(by repeat (first | exact hs_eq _ _ _ | refine hs_ne (by omega) ?_ | assumption)), (by repeat (first | exact hs_eq _ _ _ | refine hs_ne (by omega) ?_ | assumption)), (by repeat (first | exact hs_eq _ _ _ | refine hs_ne (by omega) ?_ | assumption)), (by repeat (first | exact hs_eq _ _ _ | refine hs_ne (by omega) ?_ | assumption)), (by repeat (first | exact hs_eq _ _ _ | refine hs_ne (by omega) ?_ | assumption)), (by repeat (first | exact hs_eq _ _ _ | refine hs_ne (by omega) ?_ | assumption))⟩, fun aaa haa => by repeat (first | rfl | refine hs_ne (by omega) ?_)⟩)))))
    · try (exfalso; omega)
      all_goals (
        refine k_iconst C dX8_append_12 ?_
        refine k_goto (tgt := 30) C dX8_append_13 (by decide) ?_
        refine k_put C (k := 5) inX8 tyX8_ok nmX8 (ci := 8) rfl (by decide) fl_X8_25 rfl (Nat.le_of_ble_eq_true rfl) dX8_append_30 (by repeat (first | exact hs_eq _ _ _ | refine hs_ne (by omega) ?_ | assumption)) ?_
        refine k_aload_n C dX8_append_33 rfl ?_
        refine k_get C (k := 5) inX8 (ci := 8) rfl (by decide) fl_X8_25 dX8_append_34 (by repeat (first | exact hs_eq _ _ _ | refine hs_ne (by omega) ?_ | assumption)) rfl ?_
        refine k_if_le (tgt := 42) C dX8_append_37 (by decide) ⟨by omega, by omega⟩ (fun c37 => ?_) (fun c37 => ?_)
        · try (exfalso; omega)
          all_goals (
            refine k_aload_n C dX8_append_42 rfl ?_
            refine k_get C (k := 4) inX8 (ci := 8) rfl (by decide) fl_X8_16 dX8_append_43 (by repeat (first | exact hs_eq _ _ _ | refine hs_ne (by omega) ?_ | assumption)) rfl ?_
            refine k_aload_n C dX8_append_46 rfl ?_
            refine k_get C (k := 3) inX8 (ci := 8) rfl (by decide) fl_X8_126 dX8_append_47 (by repeat (first | exact hs_eq _ _ _ | refine hs_ne (by omega) ?_ | assumption)) rfl ?_
            refine k_iload_n C dX8_append_50 rfl ?_
            refine k_iastore C dX8_append_51 (by repeat (first | exact hs_eq _ _ _ | refine hs_ne (by omega) ?_ | assumption)) (by omega) (by omega) (by omega) ?_
            refine k_aload_n C dX8_append_52 rfl ?_
            refine k_dup C dX8_append_53 rfl ?_
            refine k_get C (k := 3) inX8 (ci := 8) rfl (by decide) fl_X8_126 dX8_append_54 (by repeat (first | exact hs_eq _ _ _ | refine hs_ne (by omega) ?_ | assumption)) rfl ?_
            refine k_iconst C dX8_append_57 ?_
            refine k_iadd C dX8_append_58 ?_
            refine k_put C (k := 3) inX8 tyX8_ok nmX8 (ci := 8) rfl (by decide) fl_X8_126 rfl (Nat.le_of_ble_eq_true rfl) dX8_append_59 (by repeat (first | exact hs_eq _ _ _ | refine hs_ne (by omega) ?_ | assumption)) ?_
            refine k_aload_n C dX8_append_62 rfl ?_
            refine k_get C (k := 3) inX8 (ci := 8) rfl (by decide) fl_X8_126 dX8_append_63 (by repeat (first | exact hs_eq _ _ _ | refine hs_ne (by omega) ?_ | assumption)) rfl ?_
            refine k_iret C hr dX8_append_66 ?_
            first
              | exact Or.inl ⟨by omega, rfl, ⟨(by repeat (first | exact hs_eq _ _ _ | refine hs_ne (by omega) ?_ | assumption)), (by repeat (first | exact hs_eq _ _ _ | refine hs_ne (by omega) ?_ | assumption)), (by repeat (first | exact hs_eq _ _ _ | refine hs_ne (by omega) ?_ | assumption)), (by repeat (first | exact hs_eq _ _ _ | refine hs_ne (by omega) ?_ | assumption)), (by repeat (first | exact hs_eq _ _ _ | refine hs_ne (by omega) ?_ | assumption)), (by repeat (first | exact hs_eq _ _ _ | refine hs_ne (by omega) ?_ | assumption))⟩, fun aaa haa => by repeat (first | rfl | refine hs_ne (by omega) ?_)⟩
              | exact Or.inr (Or.inl ⟨by omega, rfl, ⟨(by repeat (first | exact hs_eq _ _ _ | refine hs_ne (by omega) ?_ | assumption)), (by repeat (first | exact hs_eq _ _ _ | refine hs_ne (by omega) ?_ | assumption)), (by repeat (first | exact hs_eq _ _ _ | refine hs_ne (by omega) ?_ | assumption)), (by repeat (first | exact hs_eq _ _ _ | refine hs_ne (by omega) ?_ | assumption)), (by repeat (first | exact hs_eq _ _ _ | refine hs_ne (by omega) ?_ | assumption)), (by repeat (first | exact hs_eq _ _ _ | refine hs_ne (by omega) ?_ | assumption))⟩, fun aaa haa => by repeat (first | rfl | refine hs_ne (by omega) ?_)⟩)
              | exact Or.inr (Or.inr (⟨by omega, rfl, ⟨(by repeat (first | exact hs_eq _ _ _ | refine hs_ne (by omega) ?_ | assumption)), (by repeat (first | exact hs_eq _ _ _ | refine hs_ne (by omega) ?_ | assumption)), (by repeat (first | exact hs_eq _ _ _ | refine hs_ne (by omega) ?_ | assumption)), (by repeat (first | exact hs_eq _ _ _ | refine hs_ne (by omega) ?_ | assumption)), (by repeat (first | exact hs_eq _ _ _ | refine hs_ne (by omega) ?_ | assumption)), (by repeat (first | exact hs_eq _ _ _ | refine hs_ne (by omega) ?_ | assumption))⟩, fun aaa haa => by repeat (first | rfl | refine hs_ne (by omega) ?_)⟩)))
        · try (exfalso; omega)
          all_goals (
            refine k_iconst C dX8_append_40 ?_
            refine k_iret C hr dX8_append_41 ?_
            first
              | exact Or.inl ⟨by omega, rfl, ⟨(by repeat (first | exact hs_eq _ _ _ | refine hs_ne (by omega) ?_ | assumption)), (by repeat (first | exact hs_eq _ _ _ | refine hs_ne (by omega) ?_ | assumption)), (by repeat (first | exact hs_eq _ _ _ | refine hs_ne (by omega) ?_ | assumption)), (by repeat (first | exact hs_eq _ _ _ | refine hs_ne (by omega) ?_ | assumption)), (by repeat (first | exact hs_eq _ _ _ | refine hs_ne (by omega) ?_ | assumption)), (by repeat (first | exact hs_eq _ _ _ | refine hs_ne (by omega) ?_ | assumption))⟩, fun aaa haa => by repeat (first | rfl | refine hs_ne (by omega) ?_)⟩
              | exact Or.inr (Or.inl ⟨by omega, rfl, ⟨(by repeat (first | exact hs_eq _ _ _ | refine hs_ne (by omega) ?_ | assumption)), (by repeat (first | exact hs_eq _ _ _ | refine hs_ne (by omega) ?_ | assumption)), (by repeat (first | exact hs_eq _ _ _ | refine hs_ne (by omega) ?_ | assumption)), (by repeat (first | exact hs_eq _ _ _ | refine hs_ne (by omega) ?_ | assumption)), (by repeat (first | exact hs_eq _ _ _ | refine hs_ne (by omega) ?_ | assumption)), (by repeat (first | exact hs_eq _ _ _ | refine hs_ne (by omega) ?_ | assumption))⟩, fun aaa haa => by repeat (first | rfl | refine hs_ne (by omega) ?_)⟩)
              | exact Or.inr (Or.inr (⟨by omega, rfl, ⟨(by repeat (first | exact hs_eq _ _ _ | refine hs_ne (by omega) ?_ | assumption)), (by repeat (first | exact hs_eq _ _ _ | refine hs_ne (by omega) ?_ | assumption)), (by repeat (first | exact hs_eq _ _ _ | refine hs_ne (by omega) ?_ | assumption)), (by repeat (first | exact hs_eq _ _ _ | refine hs_ne (by omega) ?_ | assumption)), (by repeat (first | exact hs_eq _ _ _ | refine hs_ne (by omega) ?_ | assumption)), (by repeat (first | exact hs_eq _ _ _ | refine hs_ne (by omega) ?_ | assumption))⟩, fun aaa haa => by repeat (first | rfl | refine hs_ne (by omega) ?_)⟩))))
  · skip
    refine k_if_ne (tgt := 16) C dX8_append_9 (by decide) ⟨by omega, by omega⟩ (fun c9 => ?_) (fun c9 => ?_)
    · try (exfalso; omega)
      all_goals (
        refine k_aload_n C dX8_append_16 rfl ?_
        refine k_get C (k := 3) inX8 (ci := 8) rfl (by decide) fl_X8_126 dX8_append_17 (by repeat (first | exact hs_eq _ _ _ | refine hs_ne (by omega) ?_ | assumption)) rfl ?_
        refine k_bipush C dX8_append_20 (by decide +kernel) ?_
        refine k_icmp_ne (tgt := 29) C dX8_append_22 (by decide) ⟨by omega, by omega⟩ ⟨by omega, by omega⟩ (fun c22 => ?_) (fun c22 => ?_)
        · try (exfalso; omega)
          all_goals (
            refine k_iconst C dX8_append_29 ?_
            refine k_put C (k := 5) inX8 tyX8_ok nmX8 (ci := 8) rfl (by decide) fl_X8_25 rfl (Nat.le_of_ble_eq_true rfl) dX8_append_30 (by repeat (first | exact hs_eq _ _ _ | refine hs_ne (by omega) ?_ | assumption)) ?_
            refine k_aload_n C dX8_append_33 rfl ?_
            refine k_get C (k := 5) inX8 (ci := 8) rfl (by decide) fl_X8_25 dX8_append_34 (by repeat (first | exact hs_eq _ _ _ | refine hs_ne (by omega) ?_ | assumption)) rfl ?_
            refine k_if_le (tgt := 42) C dX8_append_37 (by decide) ⟨by omega, by omega⟩ (fun c37 => ?_) (fun c37 => ?_)
            · try (exfalso; omega)
              all_goals (
                refine k_aload_n C dX8_append_42 rfl ?_
                refine k_get C (k := 4) inX8 (ci := 8) rfl (by decide) fl_X8_16 dX8_append_43 (by repeat (first | exact hs_eq _ _ _ | refine hs_ne (by omega) ?_ | assumption)) rfl ?_
                refine k_aload_n C dX8_append_46 rfl ?_
                refine k_get C (k := 3) inX8 (ci := 8) rfl (by decide) fl_X8_126 dX8_append_47 (by repeat (first | exact hs_eq _ _ _ | refine hs_ne (by omega) ?_ | assumption)) rfl ?_
                refine k_iload_n C dX8_append_50 rfl ?_
                refine k_iastore C dX8_append_51 (by repeat (first | exact hs_eq _ _ _ | refine hs_ne (by omega) ?_ | assumption)) (by omega) (by omega) (by omega) ?_
                refine k_aload_n C dX8_append_52 rfl ?_
                refine k_dup C dX8_append_53 rfl ?_
                refine k_get C (k := 3) inX8 (ci := 8) rfl (by decide) fl_X8_126 dX8_append_54 (by repeat (first | exact hs_eq _ _ _ | refine hs_ne (by omega) ?_ | assumption)) rfl ?_
                refine k_iconst C dX8_append_57 ?_
                refine k_iadd C dX8_append_58 ?_
                refine k_put C (k := 3) inX8 tyX8_ok nmX8 (ci := 8) rfl (by decide) fl_X8_126 rfl (Nat.le_of_ble_eq_true rfl) dX8_append_59 (by repeat (first | exact hs_eq _ _ _ | refine hs_ne (by omega) ?_ | assumption)) ?_
                refine k_aload_n C dX8_append_62 rfl ?_
                refine k_get C (k := 3) inX8 (ci := 8) rfl (by decide) fl_X8_126 dX8_append_63 (by repeat (first | exact hs_eq _ _ _ | refine hs_ne (by omega) ?_ | assumption)) rfl ?_
                refine k_iret C hr dX8_append_66 ?_
                first
                  | exact Or.inl ⟨by omega, rfl, ⟨(by repeat (first | exact hs_eq _ _ _ | refine hs_ne (by omega) ?_ | assumption)), (by repeat (first | exact hs_eq _ _ _ | refine hs_ne (by omega) ?_ | assumption)), (by repeat (first | exact hs_eq _ _ _ | refine hs_ne (by omega) ?_ | assumption)), (by repeat (first | exact hs_eq _ _ _ | refine hs_ne (by omega) ?_ | assumption)), (by repeat (first | exact hs_eq _ _ _ | refine hs_ne (by omega) ?_ | assumption)), (by repeat (first | exact hs_eq _ _ _ | refine hs_ne (by omega) ?_ | assumption))⟩, fun aaa haa => by repeat (first | rfl | refine hs_ne (by omega) ?_)⟩
                  | exact Or.inr (Or.inl ⟨by omega, rfl, ⟨(by repeat (first | exact hs_eq _ _ _ | refine hs_ne (by omega) ?_ | assumption)), (by repeat (first | exact hs_eq _ _ _ | refine hs_ne (by omega) ?_ | assumption)), (by repeat (first | exact hs_eq _ _ _ | refine hs_ne (by omega) ?_ | assumption)), (by repeat (first | exact hs_eq _ _ _ | refine hs_ne (by omega) ?_ | assumption)), (by repeat (first | exact hs_eq _ _ _ | refine hs_ne (by omega) ?_ | assumption)), (by repeat (first | exact hs_eq _ _ _ | refine hs_ne (by omega) ?_ | assumption))⟩, fun aaa haa => by repeat (first | rfl | refine hs_ne (by omega) ?_)⟩)
                  | exact Or.inr (Or.inr (⟨by omega, rfl, ⟨(by repeat (first | exact hs_eq _ _ _ | refine hs_ne (by omega) ?_ | assumption)), (by repeat (first | exact hs_eq _ _ _ | refine hs_ne (by omega) ?_ | assumption)), (by repeat (first | exact hs_eq _ _ _ | refine hs_ne (by omega) ?_ | assumption)), (by repeat (first | exact hs_eq _ _ _ | refine hs_ne (by omega) ?_ | assumption)), (by repeat (first | exact hs_eq _ _ _ | refine hs_ne (by omega) ?_ | assumption)), (by repeat (first | exact hs_eq _ _ _ | refine hs_ne (by omega) ?_ | assumption))⟩, fun aaa haa => by repeat (first | rfl | refine hs_ne (by omega) ?_)⟩)))
            · try (exfalso; omega)
              all_goals (
                refine k_iconst C dX8_append_40 ?_
                refine k_iret C hr dX8_append_41 ?_
                first
                  | exact Or.inl ⟨by omega, rfl, ⟨(by repeat (first | exact hs_eq _ _ _ | refine hs_ne (by omega) ?_ | assumption)), (by repeat (first | exact hs_eq _ _ _ | refine hs_ne (by omega) ?_ | assumption)), (by repeat (first | exact hs_eq _ _ _ | refine hs_ne (by omega) ?_ | assumption)), (by repeat (first | exact hs_eq _ _ _ | refine hs_ne (by omega) ?_ | assumption)), (by repeat (first | exact hs_eq _ _ _ | refine hs_ne (by omega) ?_ | assumption)), (by repeat (first | exact hs_eq _ _ _ | refine hs_ne (by omega) ?_ | assumption))⟩, fun aaa haa => by repeat (first | rfl | refine hs_ne (by omega) ?_)⟩
                  | exact Or.inr (Or.inl ⟨by omega, rfl, ⟨(by repeat (first | exact hs_eq _ _ _ | refine hs_ne (by omega) ?_ | assumption)), (by repeat (first | exact hs_eq _ _ _ | refine hs_ne (by omega) ?_ | assumption)), (by repeat (first | exact hs_eq _ _ _ | refine hs_ne (by omega) ?_ | assumption)), (by repeat (first | exact hs_eq _ _ _ | refine hs_ne (by omega) ?_ | assumption)), (by repeat (first | exact hs_eq _ _ _ | refine hs_ne (by omega) ?_ | assumption)), (by repeat (first | exact hs_eq _ _ _ | refine hs_ne (by omega) ?_ | assumption))⟩, fun aaa haa => by repeat (first | rfl | refine hs_ne (by omega) ?_)⟩)
                  | exact Or.inr (Or.inr (⟨by omega, rfl, ⟨(by repeat (first | exact hs_eq _ _ _ | refine hs_ne (by omega) ?_ | assumption)), (by repeat (first | exact hs_eq _ _ _ | refine hs_ne (by omega) ?_ | assumption)), (by repeat (first | exact hs_eq _ _ _ | refine hs_ne (by omega) ?_ | assumption)), (by repeat (first | exact hs_eq _ _ _ | refine hs_ne (by omega) ?_ | assumption)), (by repeat (first | exact hs_eq _ _ _ | refine hs_ne (by omega) ?_ | assumption)), (by repeat (first | exact hs_eq _ _ _ | refine hs_ne (by omega) ?_ | assumption))⟩, fun aaa haa => by repeat (first | rfl | refine hs_ne (by omega) ?_)⟩))))
        · try (exfalso; omega)
          all_goals (
            refine k_iconst C dX8_append_25 ?_
            refine k_goto (tgt := 30) C dX8_append_26 (by decide) ?_
            refine k_put C (k := 5) inX8 tyX8_ok nmX8 (ci := 8) rfl (by decide) fl_X8_25 rfl (Nat.le_of_ble_eq_true rfl) dX8_append_30 (by repeat (first | exact hs_eq _ _ _ | refine hs_ne (by omega) ?_ | assumption)) ?_
            refine k_aload_n C dX8_append_33 rfl ?_
            refine k_get C (k := 5) inX8 (ci := 8) rfl (by decide) fl_X8_25 dX8_append_34 (by repeat (first | exact hs_eq _ _ _ | refine hs_ne (by omega) ?_ | assumption)) rfl ?_
            refine k_if_le (tgt := 42) C dX8_append_37 (by decide) ⟨by omega, by omega⟩ (fun c37 => ?_) (fun c37 => ?_)
            · try (exfalso; omega)
              all_goals (
                refine k_aload_n C dX8_append_42 rfl ?_
                refine k_get C (k := 4) inX8 (ci := 8) rfl (by decide) fl_X8_16 dX8_append_43 (by repeat (first | exact hs_eq _ _ _ | refine hs_ne (by omega) ?_ | assumption)) rfl ?_
                refine k_aload_n C dX8_append_46 rfl ?_
                refine k_get C (k := 3) inX8 (ci := 8) rfl (by decide) fl_X8_126 dX8_append_47 (by repeat (first | exact hs_eq _ _ _ | refine hs_ne (by omega) ?_ | assumption)) rfl ?_
                refine k_iload_n C dX8_append_50 rfl ?_
                refine k_iastore C dX8_append_51 (by repeat (first | exact hs_eq _ _ _ | refine hs_ne (by omega) ?_ | assumption)) (by omega) (by omega) (by omega) ?_
                refine k_aload_n C dX8_append_52 rfl ?_
                refine k_dup C dX8_append_53 rfl ?_
                refine k_get C (k := 3) inX8 (ci := 8) rfl (by decide) fl_X8_126 dX8_append_54 (by repeat (first | exact hs_eq _ _ _ | refine hs_ne (by omega) ?_ | assumption)) rfl ?_
                refine k_iconst C dX8_append_57 ?_
                refine k_iadd C dX8_append_58 ?_
                refine k_put C (k := 3) inX8 tyX8_ok nmX8 (ci := 8) rfl (by decide) fl_X8_126 rfl (Nat.le_of_ble_eq_true rfl) dX8_append_59 (by repeat (first | exact hs_eq _ _ _ | refine hs_ne (by omega) ?_ | assumption)) ?_
                refine k_aload_n C dX8_append_62 rfl ?_
                refine k_get C (k := 3) inX8 (ci := 8) rfl (by decide) fl_X8_126 dX8_append_63 (by repeat (first | exact hs_eq _ _ _ | refine hs_ne (by omega) ?_ | assumption)) rfl ?_
                refine k_iret C hr dX8_append_66 ?_
                first
                  | exact Or.inl ⟨by omega, rfl, ⟨(by repeat (first | exact hs_eq _ _ _ | refine hs_ne (by omega) ?_ | assumption)), (by repeat (first | exact hs_eq _ _ _ | refine hs_ne (by omega) ?_ | assumption)), (by repeat (first | exact hs_eq _ _ _ | refine hs_ne (by omega) ?_ | assumption)), (by repeat (first | exact hs_eq _ _ _ | refine hs_ne (by omega) ?_ | assumption)), (by repeat (first | exact hs_eq _ _ _ | refine hs_ne (by omega) ?_ | assumption)), (by repeat (first | exact hs_eq _ _ _ | refine hs_ne (by omega) ?_ | assumption))⟩, fun aaa haa => by repeat (first | rfl | refine hs_ne (by omega) ?_)⟩
                  | exact Or.inr (Or.inl ⟨by omega, rfl, ⟨(by repeat (first | exact hs_eq _ _ _ | refine hs_ne (by omega) ?_ | assumption)), (by repeat (first | exact hs_eq _ _ _ | refine hs_ne (by omega) ?_ | assumption)), (by repeat (first | exact hs_eq _ _ _ | refine hs_ne (by omega) ?_ | assumption)), (by repeat (first | exact hs_eq _ _ _ | refine hs_ne (by omega) ?_ | assumption)), (by repeat (first | exact hs_eq _ _ _ | refine hs_ne (by omega) ?_ | assumption)), (by repeat (first | exact hs_eq _ _ _ | refine hs_ne (by omega) ?_ | assumption))⟩, fun aaa haa => by repeat (first | rfl | refine hs_ne (by omega) ?_)⟩)
                  | exact Or.inr (Or.inr (⟨by omega, rfl, ⟨(by repeat (first | exact hs_eq _ _ _ | refine hs_ne (by omega) ?_ | assumption)), (by repeat (first | exact hs_eq _ _ _ | refine hs_ne (by omega) ?_ | assumption)), (by repeat (first | exact hs_eq _ _ _ | refine hs_ne (by omega) ?_ | assumption)), (by repeat (first | exact hs_eq _ _ _ | refine hs_ne (by omega) ?_ | assumption)), (by repeat (first | exact hs_eq _ _ _ | refine hs_ne (by omega) ?_ | assumption)), (by repeat (first | exact hs_eq _ _ _ | refine hs_ne (by omega) ?_ | assumption))⟩, fun aaa haa => by repeat (first | rfl | refine hs_ne (by omega) ?_)⟩)))
            · try (exfalso; omega)
              all_goals (
                refine k_iconst C dX8_append_40 ?_
                refine k_iret C hr dX8_append_41 ?_
                first
                  | exact Or.inl ⟨by omega, rfl, ⟨(by repeat (first | exact hs_eq _ _ _ | refine hs_ne (by omega) ?_ | assumption)), (by repeat (first | exact hs_eq _ _ _ | refine hs_ne (by omega) ?_ | assumption)), (by repeat (first | exact hs_eq _ _ _ | refine hs_ne (by omega) ?_ | assumption)), (by repeat (first | exact hs_eq _ _ _ | refine hs_ne (by omega) ?_ | assumption)), (by repeat (first | exact hs_eq _ _ _ | refine hs_ne (by omega) ?_ | assumption)), (by repeat (first | exact hs_eq _ _ _ | refine hs_ne (by omega) ?_ | assumption))⟩, fun aaa haa => by repeat (first | rfl | refine hs_ne (by omega) ?_)⟩
                  | exact Or.inr (Or.inl ⟨by omega, rfl, ⟨(by repeat (first | exact hs_eq _ _ _ | refine hs_ne (by omega) ?_ | assumption)), (by repeat (first | exact hs_eq _ _ _ | refine hs_ne (by omega) ?_ | assumption)), (by repeat (first | exact hs_eq _ _ _ | refine hs_ne (by omega) ?_ | assumption)), (by repeat (first | exact hs_eq _ _ _ | refine hs_ne (by omega) ?_ | assumption)), (by repeat (first | exact hs_eq _ _ _ | refine hs_ne (by omega) ?_ | assumption)), (by repeat (first | exact hs_eq _ _ _ | refine hs_ne (by omega) ?_ | assumption))⟩, fun aaa haa => by repeat (first | rfl | refine hs_ne (by omega) ?_)⟩)
                  | exact Or.inr (Or.inr (⟨by omega, rfl, ⟨(by repeat (first | exact hs_eq _ _ _ | refine hs_ne (by omega) ?_ | assumption)), (by repeat (first | exact hs_eq _ _ _ | refine hs_ne (by omega) ?_ | assumption)), (by repeat (first | exact hs_eq _ _ _ | refine hs_ne (by omega) ?_ | assumption)), (by repeat (first | exact hs_eq _ _ _ | refine hs_ne (by omega) ?_ | assumption)), (by repeat (first | exact hs_eq _ _ _ | refine hs_ne (by omega) ?_ | assumption)), (by repeat (first | exact hs_eq _ _ _ | refine hs_ne (by omega) ?_ | assumption))⟩, fun aaa haa => by repeat (first | rfl | refine hs_ne (by omega) ?_)⟩)))))
    · try (exfalso; omega)
      all_goals (
        refine k_iconst C dX8_append_12 ?_
        refine k_goto (tgt := 30) C dX8_append_13 (by decide) ?_
        refine k_put C (k := 5) inX8 tyX8_ok nmX8 (ci := 8) rfl (by decide) fl_X8_25 rfl (Nat.le_of_ble_eq_true rfl) dX8_append_30 (by repeat (first | exact hs_eq _ _ _ | refine hs_ne (by omega) ?_ | assumption)) ?_
        refine k_aload_n C dX8_append_33 rfl ?_
        refine k_get C (k := 5) inX8 (ci := 8) rfl (by decide) fl_X8_25 dX8_append_34 (by repeat (first | exact hs_eq _ _ _ | refine hs_ne (by omega) ?_ | assumption)) rfl ?_
        refine k_if_le (tgt := 42) C dX8_append_37 (by decide) ⟨by omega, by omega⟩ (fun c37 => ?_) (fun c37 => ?_)
        · try (exfalso; omega)
          all_goals (
            refine k_aload_n C dX8_append_42 rfl ?_
            refine k_get C (k := 4) inX8 (ci := 8) rfl (by decide) fl_X8_16 dX8_append_43 (by repeat (first | exact hs_eq _ _ _ | refine hs_ne (by omega) ?_ | assumption)) rfl ?_
            refine k_aload_n C dX8_append_46 rfl ?_
            refine k_get C (k := 3) inX8 (ci := 8) rfl (by decide) fl_X8_126 dX8_append_47 (by repeat (first | exact hs_eq _ _ _ | refine hs_ne (by omega) ?_ | assumption)) rfl ?_
            refine k_iload_n C dX8_append_50 rfl ?_
            refine k_iastore C dX8_append_51 (by repeat (first | exact hs_eq _ _ _ | refine hs_ne (by omega) ?_ | assumption)) (by omega) (by omega) (by omega) ?_
            refine k_aload_n C dX8_append_52 rfl ?_
            refine k_dup C dX8_append_53 rfl ?_
            refine k_get C (k := 3) inX8 (ci := 8) rfl (by decide) fl_X8_126 dX8_append_54 (by repeat (first | exact hs_eq _ _ _ | refine hs_ne (by omega) ?_ | assumption)) rfl ?_
            refine k_iconst C dX8_append_57 ?_
            refine k_iadd C dX8_append_58 ?_
            refine k_put C (k := 3) inX8 tyX8_ok nmX8 (ci := 8) rfl (by decide) fl_X8_126 rfl (Nat.le_of_ble_eq_true rfl) dX8_append_59 (by repeat (first | exact hs_eq _ _ _ | refine hs_ne (by omega) ?_ | assumption)) ?_
            refine k_aload_n C dX8_append_62 rfl ?_
            refine k_get C (k := 3) inX8 (ci := 8) rfl (by decide) fl_X8_126 dX8_append_63 (by repeat (first | exact hs_eq _ _ _ | refine hs_ne (by omega) ?_ | assumption)) rfl ?_
            refine k_iret C hr dX8_append_66 ?_
            first
              | exact Or.inl ⟨by omega, rfl, ⟨(by repeat (first | exact hs_eq _ _ _ | refine hs_ne (by omega) ?_ | assumption)), (by repeat (first | exact hs_eq _ _ _ | refine hs_ne (by omega) ?_ | assumption)), (by repeat (first | exact hs_eq _ _ _ | refine hs_ne (by omega) ?_ | assumption)), (by repeat (first | exact hs_eq _ _ _ | refine hs_ne (by omega) ?_ | assumption)), (by repeat (first | exact hs_eq _ _ _ | refine hs_ne (by omega) ?_ | assumption)), (by repeat (first | exact hs_eq _ _ _ | refine hs_ne (by omega) ?_ | assumption))⟩, fun aaa haa => by repeat (first | rfl | refine hs_ne (by omega) ?_)⟩
              | exact Or.inr (Or.inl ⟨by omega, rfl, ⟨(by repeat (first | exact hs_eq _ _ _ | refine hs_ne (by omega) ?_ | assumption)), (by repeat (first | exact hs_eq _ _ _ | refine hs_ne (by omega) ?_ | assumption)), (by repeat (first | exact hs_eq _ _ _ | refine hs_ne (by omega) ?_ | assumption)), (by repeat (first | exact hs_eq _ _ _ | refine hs_ne (by omega) ?_ | assumption)), (by repeat (first | exact hs_eq _ _ _ | refine hs_ne (by omega) ?_ | assumption)), (by repeat (first | exact hs_eq _ _ _ | refine hs_ne (by omega) ?_ | assumption))⟩, fun aaa haa => by repeat (first | rfl | refine hs_ne (by omega) ?_)⟩)
              | exact Or.inr (Or.inr (⟨by omega, rfl, ⟨(by repeat (first | exact hs_eq _ _ _ | refine hs_ne (by omega) ?_ | assumption)), (by repeat (first | exact hs_eq _ _ _ | refine hs_ne (by omega) ?_ | assumption)), (by repeat (first | exact hs_eq _ _ _ | refine hs_ne (by omega) ?_ | assumption)), (by repeat (first | exact hs_eq _ _ _ | refine hs_ne (by omega) ?_ | assumption)), (by repeat (first | exact hs_eq _ _ _ | refine hs_ne (by omega) ?_ | assumption)), (by repeat (first | exact hs_eq _ _ _ | refine hs_ne (by omega) ?_ | assumption))⟩, fun aaa haa => by repeat (first | rfl | refine hs_ne (by omega) ?_)⟩)))
        · try (exfalso; omega)
          all_goals (
            refine k_iconst C dX8_append_40 ?_
            refine k_iret C hr dX8_append_41 ?_
            first
              | exact Or.inl ⟨by omega, rfl, ⟨(by repeat (first | exact hs_eq _ _ _ | refine hs_ne (by omega) ?_ | assumption)), (by repeat (first | exact hs_eq _ _ _ | refine hs_ne (by omega) ?_ | assumption)), (by repeat (first | exact hs_eq _ _ _ | refine hs_ne (by omega) ?_ | assumption)), (by repeat (first | exact hs_eq _ _ _ | refine hs_ne (by omega) ?_ | assumption)), (by repeat (first | exact hs_eq _ _ _ | refine hs_ne (by omega) ?_ | assumption)), (by repeat (first | exact hs_eq _ _ _ | refine hs_ne (by omega) ?_ | assumption))⟩, fun aaa haa => by repeat (first | rfl | refine hs_ne (by omega) ?_)⟩
              | exact Or.inr (Or.inl ⟨by omega, rfl, ⟨(by repeat (first | exact hs_eq _ _ _ | refine hs_ne (by omega) ?_ | assumption)), (by repeat (first | exact hs_eq _ _ _ | refine hs_ne (by omega) ?_ | assumption)), (by repeat (first | exact hs_eq _ _ _ | refine hs_ne (by omega) ?_ | assumption)), (by repeat (first | exact hs_eq _ _ _ | refine hs_ne (by omega) ?_ | assumption)), (by repeat (first | exact hs_eq _ _ _ | refine hs_ne (by omega) ?_ | assumption)), (by repeat (first | exact hs_eq _ _ _ | refine hs_ne (by omega) ?_ | assumption))⟩, fun aaa haa => by repeat (first | rfl | refine hs_ne (by omega) ?_)⟩)
              | exact Or.inr (Or.inr (⟨by omega, rfl, ⟨(by repeat (first | exact hs_eq _ _ _ | refine hs_ne (by omega) ?_ | assumption)), (by repeat (first | exact hs_eq _ _ _ | refine hs_ne (by omega) ?_ | assumption)), (by repeat (first | exact hs_eq _ _ _ | refine hs_ne (by omega) ?_ | assumption)), (by repeat (first | exact hs_eq _ _ _ | refine hs_ne (by omega) ?_ | assumption)), (by repeat (first | exact hs_eq _ _ _ | refine hs_ne (by omega) ?_ | assumption)), (by repeat (first | exact hs_eq _ _ _ | refine hs_ne (by omega) ?_ | assumption))⟩, fun aaa haa => by repeat (first | rfl | refine hs_ne (by omega) ?_)⟩))))

set_option maxRecDepth 20000 in
set_option maxHeartbeats 1000000 in
theorem ct_X8_clearBuffer (l : Launch) (D : va_G) (tc : Nat → ClassId) (base : Nat) (oo : Nat) (zrr hhi htx has hro : Int → Int) (st ln th re du hsh : Int) (hpp : AH) (hM : MA hpp oo zrr hhi htx has hro st ln th re du hsh) : CT l D tc base yX8_clearBuffer cX8_clearBuffer 2 (some .int) 0 [aR oo] hpp (fun r h' => (True ∧ r = some (aI (ln)) ∧ MA h' oo (zrr) (hhi) (htx) (has) (hro) (st) (0) (0) (re) (du) (hsh) ∧ Fr hpp h' oo 6)) := by
  refine CT.of [some (aR oo), none] (by decide +kernel) rfl (Nat.le_of_ble_eq_true rfl) ?_
  intro p e s m args below meth c C hr hnm
  obtain ⟨g0, g1, g2, g3, g4, g5⟩ := id hM
  refine k_aload_n C dX8_clearBuffer_0 rfl ?_
  refine k_iconst C dX8_clearBuffer_1 ?_
  refine k_put C (k := 5) inX8 tyX8_ok nmX8 (ci := 8) rfl (by decide) fl_X8_25 rfl (Nat.le_of_ble_eq_true rfl) dX8_clearBuffer_2 (by repeat (first | exact hs_eq _ _ _ | refine hs_ne (by omega) ?_ | assumption)) ?_
  refine k_aload_n C dX8_clearBuffer_5 rfl ?_
  refine k_get C (k := 3) inX8 (ci := 8) rfl (by decide) fl_X8_126 dX8_clearBuffer_6 (by repeat (first | exact hs_eq _ _ _ | refine hs_ne (by omega) ?_ | assumption)) rfl ?_
  refine k_istore_n C dX8_clearBuffer_9 (by decide) rfl ?_
  refine k_aload_n C dX8_clearBuffer_10 rfl ?_
  refine k_iconst C dX8_clearBuffer_11 ?_
  refine k_put C (k := 3) inX8 tyX8_ok nmX8 (ci := 8) rfl (by decide) fl_X8_126 rfl (Nat.le_of_ble_eq_true rfl) dX8_clearBuffer_12 (by repeat (first | exact hs_eq _ _ _ | refine hs_ne (by omega) ?_ | assumption)) ?_
  refine k_iload_n C dX8_clearBuffer_15 rfl ?_
  refine k_iret C hr dX8_clearBuffer_16 ?_
  exact ⟨trivial, rfl, ⟨(by repeat (first | exact hs_eq _ _ _ | refine hs_ne (by omega) ?_ | assumption)), (by repeat (first | exact hs_eq _ _ _ | refine hs_ne (by omega) ?_ | assumption)), (by repeat (first | exact hs_eq _ _ _ | refine hs_ne (by omega) ?_ | assumption)), (by repeat (first | exact hs_eq _ _ _ | refine hs_ne (by omega) ?_ | assumption)), (by repeat (first | exact hs_eq _ _ _ | refine hs_ne (by omega) ?_ | assumption)), (by repeat (first | exact hs_eq _ _ _ | refine hs_ne (by omega) ?_ | assumption))⟩, fun aaa haa => by repeat (first | rfl | refine hs_ne (by omega) ?_)⟩
