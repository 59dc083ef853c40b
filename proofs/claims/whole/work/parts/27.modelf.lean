set_option maxRecDepth 20000 in
set_option maxHeartbeats 1000000 in
theorem ct_X8_layBackE (l : Launch) (D : va_G) (tc : Nat → ClassId) (base : Nat) (oo : Nat) (zrr hhi htx has hro : Int → Int) (st ln th re du hsh : Int) (hpp : AH) (hM : MA hpp oo zrr hhi htx has hro st ln th re du hsh) (zoo : Int → Int) (hzo : ∀ jj : Int, 0 ≤ jj → jj < 67 → has jj = zoo jj) : CT l D tc base yX8_layBack cX8_layBack 2 none 0 [aR oo] hpp (fun r h' => r = none ∧ MA h' oo (zoo) (hhi) (htx) (has) (hro) (st) (ln) (th) (re) (du) (hsh) ∧ Fr hpp h' oo 6) := by
  refine CT.of [some (aR oo), none] (by decide +kernel) rfl (Nat.le_of_ble_eq_true rfl) ?_
  intro p e s m args below meth c C hr hnm
  obtain ⟨g0, g1, g2, g3, g4, g5⟩ := id hM
  refine k_iconst C dX8_layBack_0 ?_
  refine k_istore_n C dX8_layBack_1 (by decide) rfl ?_
  have loop2 : ∀ (n : Nat) (kk : Int) (hkk : AH), 0 ≤ kk → kk ≤ 67 → MA hkk oo (hCp zrr has kk) (hhi) (htx) (has) (hro) (st) (ln) (th) (re) (du) (hsh) → Fr hpp hkk oo 6 → (67 : Int) - kk < (n : Int) → Wk D tc base 2 p l e (lvR 0) s m args below meth c 0 0 (MQ below (Qx D tc base (fun r h' => r = none ∧ MA h' oo (zoo) (hhi) (htx) (has) (hro) (st) (ln) (th) (re) (du) (hsh) ∧ Fr hpp h' oo 6)) args s 0 0 (fun q => base ≤ q)) 2 [some (aR oo), some (aI kk)] [] hkk := by
    intro n
    induction n with
    | zero =>
      intro kk hkk hk0 hk1 hMk hFk hmu
      exfalso
      omega
    | succ n ih =>
      intro kk hkk hk0 hk1 hMk hFk hmu
      obtain ⟨k0, k1, k2, k3, k4, k5⟩ := id hMk
      refine k_iload_n C dX8_layBack_2 rfl ?_
      refine k_bipush C dX8_layBack_3 (by decide +kernel) ?_
      refine k_icmp_ge (tgt := 26) C dX8_layBack_5 (by decide) ⟨by omega, by omega⟩ ⟨by omega, by omega⟩ (fun c5 => ?_) (fun c5 => ?_)
      · try (exfalso; omega)
        all_goals (
          have e6 : kk = 67 := by omega
          subst e6
          refine k_ext zoo k1 (fun jj h0 h1 => by rw [hCp_in h0 (by omega)]; exact hzo jj h0 (by omega)) ?_
          refine k_vret C hr dX8_layBack_26 ?_
          exact ⟨rfl, ⟨(by repeat (first | exact hs_eq _ _ _ | refine hs_ne (by omega) ?_ | assumption)), (by repeat (first | exact hs_eq _ _ _ | refine hs_ne (by omega) ?_ | assumption)), (by repeat (first | exact hs_eq _ _ _ | refine hs_ne (by omega) ?_ | assumption)), (by repeat (first | exact hs_eq _ _ _ | refine hs_ne (by omega) ?_ | assumption)), (by repeat (first | exact hs_eq _ _ _ | refine hs_ne (by omega) ?_ | assumption)), (by repeat (first | exact hs_eq _ _ _ | refine hs_ne (by omega) ?_ | assumption))⟩, hFk.tr (fun aaa haa => by repeat (first | rfl | refine hs_ne (by omega) ?_))⟩)
      · try (exfalso; omega)
        all_goals (
          refine k_aload_n C dX8_layBack_8 rfl ?_
          refine k_get C (k := 0) inX8 (ci := 8) rfl (by decide) fl_X8_7 dX8_layBack_9 (by repeat (first | exact hs_eq _ _ _ | refine hs_ne (by omega) ?_ | assumption)) rfl ?_
          refine k_iload_n C dX8_layBack_12 rfl ?_
          refine k_aload_n C dX8_layBack_13 rfl ?_
          refine k_get C (k := 6) inX8 (ci := 8) rfl (by decide) fl_X8_19 dX8_layBack_14 (by repeat (first | exact hs_eq _ _ _ | refine hs_ne (by omega) ?_ | assumption)) rfl ?_
          refine k_iload_n C dX8_layBack_17 rfl ?_
          refine k_iaload C dX8_layBack_18 (by repeat (first | exact hs_eq _ _ _ | refine hs_ne (by omega) ?_ | assumption)) (by omega) (by omega) (by omega) ?_
          refine k_iastore C dX8_layBack_19 (by repeat (first | exact hs_eq _ _ _ | refine hs_ne (by omega) ?_ | assumption)) (by omega) (by omega) (by omega) ?_
          refine k_iinc C dX8_layBack_20 rfl (by decide) rfl ?_
          refine k_goto (tgt := 2) C dX8_layBack_23 (by decide) ?_
          rw [hCp_s zrr has hk0]
          exact ih (kk + 1) _ (by omega) (by omega) ⟨(by repeat (first | exact hs_eq _ _ _ | refine hs_ne (by omega) ?_ | assumption)), (by repeat (first | exact hs_eq _ _ _ | refine hs_ne (by omega) ?_ | assumption)), (by repeat (first | exact hs_eq _ _ _ | refine hs_ne (by omega) ?_ | assumption)), (by repeat (first | exact hs_eq _ _ _ | refine hs_ne (by omega) ?_ | assumption)), (by repeat (first | exact hs_eq _ _ _ | refine hs_ne (by omega) ?_ | assumption)), (by repeat (first | exact hs_eq _ _ _ | refine hs_ne (by omega) ?_ | assumption))⟩ (hFk.tr (fun aaa haa => by repeat (first | rfl | refine hs_ne (by omega) ?_))) (by omega))
  exact loop2 68 0 hpp (by omega) (by omega) (by rw [hCp_0]; exact hM) (Fr.rf _ _ _) (by omega)

set_option maxRecDepth 20000 in
set_option maxHeartbeats 1000000 in
theorem ct_X8_weightNow (l : Launch) (D : va_G) (tc : Nat → ClassId) (base : Nat) (oo : Nat) (zrr hhi htx has hro : Int → Int) (st ln th re du hsh : Int) (hpp : AH) (hM : MA hpp oo zrr hhi htx has hro st ln th re du hsh) (ww qq : Int) (hw : 0 ≤ ww ∧ ww ≤ 2) (hq : 0 ≤ qq ∧ qq ≤ 2) : CT l D tc base yX8_weightNow cX8_weightNow 3 (some .int) 0 [aR oo, aI ww, aI qq] hpp (fun r h' => r = some (aI (zrr (3 * qq + ww))) ∧ hpp = h') := by
  refine CT.of [some (aR oo), some (aI ww), some (aI qq)] (by decide +kernel) rfl (Nat.le_of_ble_eq_true rfl) ?_
  intro p e s m args below meth c C hr hnm
  obtain ⟨g0, g1, g2, g3, g4, g5⟩ := id hM
  refine k_aload_n C dX8_weightNow_0 rfl ?_
  refine k_get C (k := 0) inX8 (ci := 8) rfl (by decide) fl_X8_7 dX8_weightNow_1 (by repeat (first | exact hs_eq _ _ _ | refine hs_ne (by omega) ?_ | assumption)) rfl ?_
  refine k_iconst C dX8_weightNow_4 ?_
  refine k_iload_n C dX8_weightNow_5 rfl ?_
  refine k_imul C dX8_weightNow_6 ?_
  refine k_iload_n C dX8_weightNow_7 rfl ?_
  refine k_iadd C dX8_weightNow_8 ?_
  refine k_iaload C dX8_weightNow_9 (by repeat (first | exact hs_eq _ _ _ | refine hs_ne (by omega) ?_ | assumption)) (by omega) (by omega) (by omega) ?_
  refine k_iret C hr dX8_weightNow_10 ?_
  exact ⟨rfl, rfl⟩

set_option maxRecDepth 20000 in
set_option maxHeartbeats 1000000 in
theorem ct_X8_weight (l : Launch) (D : va_G) (tc : Nat → ClassId) (base : Nat) (oo : Nat) (zrr hhi htx has hro : Int → Int) (st ln th re du hsh : Int) (hpp : AH) (hM : MA hpp oo zrr hhi htx has hro st ln th re du hsh) (ww qq : Int) (hw : r32 ww) (hqq : r32 qq) : CT l D tc base yX8_weight cX8_weight 3 (some .int) 2 [aR oo, aI ww, aI qq] hpp (fun r h' => (((0 ≤ ww ∧ ww ≤ 2) ∧ (0 ≤ qq ∧ qq ≤ 2)) ∧ r = some (aI (zrr (3 * qq + ww))) ∧ MA h' oo (zrr) (hhi) (htx) (has) (hro) (st) (ln) (0) (re) (du) (hsh) ∧ Fr hpp h' oo 6) ∨ (¬ (0 ≤ ww ∧ ww ≤ 2) ∧ r = some (aI (0)) ∧ MA h' oo (zrr) (hhi) (htx) (has) (hro) (st) (ln) (1) (re) (du) (hsh) ∧ Fr hpp h' oo 6) ∨ (((0 ≤ ww ∧ ww ≤ 2) ∧ ¬ (0 ≤ qq ∧ qq ≤ 2)) ∧ r = some (aI (0)) ∧ MA h' oo (zrr) (hhi) (htx) (has) (hro) (st) (ln) (2) (re) (du) (hsh) ∧ Fr hpp h' oo 6)) := by
  refine CT.of [some (aR oo), some (aI ww), some (aI qq)] (by decide +kernel) rfl (Nat.le_of_ble_eq_true rfl) ?_
  intro p e s m args below meth c C hr hnm
  obtain ⟨g0, g1, g2, g3, g4, g5⟩ := id hM
  refine k_aload_n C dX8_weight_0 rfl ?_
  refine k_iload_n C dX8_weight_1 rfl ?_
  refine k_callS C (n := 1) (as := [_]) (ct_X8_isWeight l D tc base _ _ hw) ml_X8_96 sm_X8_isWeight ini_X8 co_X8_isWeight ⟨by decide, by decide, by decide +kernel⟩ rfl ⟨by decide, by decide⟩ rfl (Nat.le_of_ble_eq_true rfl) ⟨Nat.zero_le _, Nat.zero_le _⟩ dX8_weight_2 ?_
  rintro _ _ (⟨rfl, rfl, hq2⟩ | ⟨rfl, rfl, hq2⟩)
  · skip
    refine k_if_ne (tgt := 12) C dX8_weight_5 (by decide) ⟨by omega, by omega⟩ (fun c5 => ?_) (fun c5 => ?_)
    · try (exfalso; omega)
      all_goals (
        refine k_iload_n C dX8_weight_12 rfl ?_
        refine k_iconst C dX8_weight_13 ?_
        refine k_iconst C dX8_weight_14 ?_
        refine k_callS C (n := 3) (as := [_, _, _]) (ct_X8_within l D tc base _ _ _ _ hqq ⟨by omega, by omega⟩ ⟨by omega, by omega⟩) ml_X8_92 sm_X8_within ini_X8 co_X8_within ⟨by decide, by decide, by decide +kernel⟩ rfl ⟨by decide, by decide⟩ rfl (Nat.le_of_ble_eq_true rfl) ⟨Nat.zero_le _, Nat.zero_le _⟩ dX8_weight_15 ?_
        rintro _ _ (⟨rfl, rfl, hq15⟩ | ⟨rfl, rfl, hq15⟩)
        · skip
          refine k_if_eq (tgt := 25) C dX8_weight_18 (by decide) ⟨by omega, by omega⟩ (fun c18 => ?_) (fun c18 => ?_)
          · try (exfalso; omega)
            all_goals (
              refine k_iconst C dX8_weight_25 ?_
              refine k_put C (k := 5) inX8 tyX8_ok nmX8 (ci := 8) rfl (by decide) fl_X8_25 rfl (Nat.le_of_ble_eq_true rfl) dX8_weight_26 (by repeat (first | exact hs_eq _ _ _ | refine hs_ne (by omega) ?_ | assumption)) ?_
              refine k_aload_n C dX8_weight_29 rfl ?_
              refine k_get C (k := 5) inX8 (ci := 8) rfl (by decide) fl_X8_25 dX8_weight_30 (by repeat (first | exact hs_eq _ _ _ | refine hs_ne (by omega) ?_ | assumption)) rfl ?_
              refine k_if_le (tgt := 40) C dX8_weight_33 (by decide) ⟨by omega, by omega⟩ (fun c33 => ?_) (fun c33 => ?_)
              · try (exfalso; omega)
                all_goals (
                  refine k_aload_n C dX8_weight_40 rfl ?_
                  refine k_iload_n C dX8_weight_41 rfl ?_
                  refine k_iload_n C dX8_weight_42 rfl ?_
                  refine k_callV C (n := 2) (as := [_, _]) (ct_X8_weightNow l D tc base oo zrr hhi htx has hro st ln _ re du hsh _ ⟨(by repeat (first | exact hs_eq _ _ _ | refine hs_ne (by omega) ?_ | assumption)), (by repeat (first | exact hs_eq _ _ _ | refine hs_ne (by omega) ?_ | assumption)), (by repeat (first | exact hs_eq _ _ _ | refine hs_ne (by omega) ?_ | assumption)), (by repeat (first | exact hs_eq _ _ _ | refine hs_ne (by omega) ?_ | assumption)), (by repeat (first | exact hs_eq _ _ _ | refine hs_ne (by omega) ?_ | assumption)), (by repeat (first | exact hs_eq _ _ _ | refine hs_ne (by omega) ?_ | assumption))⟩ _ _ (by omega) (by omega)) ml_X8_146 im_X8_weightNow se_X8_weightNow ini_X8 co_X8_weightNow ⟨rfl, by decide, by decide, by decide +kernel⟩ rfl (ci := 8) rfl (by repeat (first | exact hs_eq _ _ _ | refine hs_ne (by omega) ?_ | assumption)) ⟨by decide, by decide⟩ rfl (Nat.le_of_ble_eq_true rfl) ⟨Nat.zero_le _, Nat.zero_le _⟩ dX8_weight_43 ?_
                  rintro _ _ ⟨rfl, rfl⟩
                  refine k_iret C hr dX8_weight_46 ?_
                  first
                    | exact Or.inl ⟨by omega, rfl, ⟨(by repeat (first | exact hs_eq _ _ _ | refine hs_ne (by omega) ?_ | assumption)), (by repeat (first | exact hs_eq _ _ _ | refine hs_ne (by omega) ?_ | assumption)), (by repeat (first | exact hs_eq _ _ _ | refine hs_ne (by omega) ?_ | assumption)), (by repeat (first | exact hs_eq _ _ _ | refine hs_ne (by omega) ?_ | assumption)), (by repeat (first | exact hs_eq _ _ _ | refine hs_ne (by omega) ?_ | assumption)), (by repeat (first | exact hs_eq _ _ _ | refine hs_ne (by omega) ?_ | assumption))⟩, fun aaa haa => by repeat (first | rfl | refine hs_ne (by omega) ?_)⟩
                    | exact Or.inr (Or.inl ⟨by omega, rfl, ⟨(by repeat (first | exact hs_eq _ _ _ | refine hs_ne (by omega) ?_ | assumption)), (by repeat (first | exact hs_eq _ _ _ | refine hs_ne (by omega) ?_ | assumption)), (by repeat (first | exact hs_eq _ _ _ | refine hs_ne (by omega) ?_ | assumption)), (by repeat (first | exact hs_eq _ _ _ | refine hs_ne (by omega) ?_ | assumption)), (by repeat (first | exact hs_eq _ _ _ | refine hs_ne (by omega) ?_ | assumption)), (by repeat (first | exact hs_eq _ _ _ | refine hs_ne (by omega) ?_ | assumption))⟩, fun aaa haa => by repeat (first | rfl | refine hs_ne (by omega) ?_)⟩)
                    | exact Or.inr (Or.inr (⟨by omega, rfl, ⟨(by repeat (first | exact hs_eq _ _ _ | refine hs_ne (by omega) ?_ | assumption)), (by repeat (first | exact hs_eq _ _ _ | refine hs_ne (by omega) ?_ | assumption)), (by repeat (first | exact hs_eq _ _ _ | refine hs_ne (by omega) ?_ | assumption)), (by repeat (first | exact hs_eq _ _ _ | refine hs_ne (by omega) ?_ | assumption)), (by repeat (first | exact hs_eq _ _ _ | refine hs_ne (by omega) ?_ | assumption)), (by repeat (first | exact hs_eq _ _ _ | refine hs_ne (by omega) ?_ | assumption))⟩, fun aaa haa => by repeat (first | rfl | refine hs_ne (by omega) ?_)⟩)))
              · try (exfalso; omega)
                all_goals (
                  refine k_iconst C dX8_weight_36 ?_
                  refine k_goto (tgt := 46) C dX8_weight_37 (by decide) ?_
                  refine k_iret C hr dX8_weight_46 ?_
                  first
                    | exact Or.inl ⟨by omega, rfl, ⟨(by repeat (first | exact hs_eq _ _ _ | refine hs_ne (by omega) ?_ | assumption)), (by repeat (first | exact hs_eq _ _ _ | refine hs_ne (by omega) ?_ | assumption)), (by repeat (first | exact hs_eq _ _ _ | refine hs_ne (by omega) ?_ | assumption)), (by repeat (first | exact hs_eq _ _ _ | refine hs_ne (by omega) ?_ | assumption)), (by repeat (first | exact hs_eq _ _ _ | refine hs_ne (by omega) ?_ | assumption)), (by repeat (first | exact hs_eq _ _ _ | refine hs_ne (by omega) ?_ | assumption))⟩, fun aaa haa => by repeat (first | rfl | refine hs_ne (by omega) ?_)⟩
                    | exact Or.inr (Or.inl ⟨by omega, rfl, ⟨(by repeat (first | exact hs_eq _ _ _ | refine hs_ne (by omega) ?_ | assumption)), (by repeat (first | exact hs_eq _ _ _ | refine hs_ne (by omega) ?_ | assumption)), (by repeat (first | exact hs_eq _ _ _ | refine hs_ne (by omega) ?_ | assumption)), (by repeat (first | exact hs_eq _ _ _ | refine hs_ne (by omega) ?_ | assumption)), (by repeat (first | exact hs_eq _ _ _ | refine hs_ne (by omega) ?_ | assumption)), (by repeat (first | exact hs_eq _ _ _ | refine hs_ne (by omega) ?_ | assumption))⟩, fun aaa haa => by repeat (first | rfl | refine hs_ne (by omega) ?_)⟩)
                    | exact Or.inr (Or.inr (⟨by omega, rfl, ⟨(by repeat (first | exact hs_eq _ _ _ | refine hs_ne (by omega) ?_ | assumption)), (by repeat (first | exact hs_eq _ _ _ | refine hs_ne (by omega) ?_ | assumption)), (by repeat (first | exact hs_eq _ _ _ | refine hs_ne (by omega) ?_ | assumption)), (by repeat (first | exact hs_eq _ _ _ | refine hs_ne (by omega) ?_ | assumption)), (by repeat (first | exact hs_eq _ _ _ | refine hs_ne (by omega) ?_ | assumption)), (by repeat (first | exact hs_eq _ _ _ | refine hs_ne (by omega) ?_ | assumption))⟩, fun aaa haa => by repeat (first | rfl | refine hs_ne (by omega) ?_)⟩))))
          · try (exfalso; omega)
            all_goals (
              refine k_iconst C dX8_weight_21 ?_
              refine k_goto (tgt := 26) C dX8_weight_22 (by decide) ?_
              refine k_put C (k := 5) inX8 tyX8_ok nmX8 (ci := 8) rfl (by decide) fl_X8_25 rfl (Nat.le_of_ble_eq_true rfl) dX8_weight_26 (by repeat (first | exact hs_eq _ _ _ | refine hs_ne (by omega) ?_ | assumption)) ?_
              refine k_aload_n C dX8_weight_29 rfl ?_
              refine k_get C (k := 5) inX8 (ci := 8) rfl (by decide) fl_X8_25 dX8_weight_30 (by repeat (first | exact hs_eq _ _ _ | refine hs_ne (by omega) ?_ | assumption)) rfl ?_
              refine k_if_le (tgt := 40) C dX8_weight_33 (by decide) ⟨by omega, by omega⟩ (fun c33 => ?_) (fun c33 => ?_)
              · try (exfalso; omega)
                all_goals (
                  refine k_aload_n C dX8_weight_40 rfl ?_
                  refine k_iload_n C dX8_weight_41 rfl ?_
                  refine k_iload_n C dX8_weight_42 rfl ?_
                  refine k_callV C (n := 2) (as := [_, _]) (ct_X8_weightNow l D tc base oo zrr hhi htx has hro st ln _ re du hsh _ ⟨(by repeat (first | exact hs_eq _ _ _ | refine hs_ne (by omega) ?_ | assumption)), (by repeat (first | exact hs_eq _ _ _ | refine hs_ne (by omega) ?_ | assumption)), (by repeat (first | exact hs_eq _ _ _ | refine hs_ne (by omega) ?_ | assumption)), (by repeat (first | exact hs_eq _ _ _ | refine hs_ne (by omega) ?_ | assumption)), (by repeat (first | exact hs_eq _ _ _ | refine hs_ne (by omega) ?_ | assumption)), (by repeat (first | exact hs_eq _ _ _ | refine hs_ne (by omega) ?_ | assumption))⟩ _ _ (by omega) (by omega)) ml_X8_146 im_X8_weightNow se_X8_weightNow ini_X8 co_X8_weightNow ⟨rfl, by decide, by decide, by decide +kernel⟩ rfl (ci := 8) rfl (by repeat (first | exact hs_eq _ _ _ | refine hs_ne (by omega) ?_ | assumption)) ⟨by decide, by decide⟩ rfl (Nat.le_of_ble_eq_true rfl) ⟨Nat.zero_le _, Nat.zero_le _⟩ dX8_weight_43 ?_
                  rintro _ _ ⟨rfl, rfl⟩
                  refine k_iret C hr dX8_weight_46 ?_
                  first
                    | exact Or.inl ⟨by omega, rfl, ⟨(by repeat (first | exact hs_eq _ _ _ | refine hs_ne (by omega) ?_ | assumption)), (by repeat (first | exact hs_eq _ _ _ | refine hs_ne (by omega) ?_ | assumption)), (by repeat (first | exact hs_eq _ _ _ | refine hs_ne (by omega) ?_ | assumption)), (by repeat (first | exact hs_eq _ _ _ | refine hs_ne (by omega) ?_ | assumption)), (by repeat (first | exact hs_eq _ _ _ | refine hs_ne (by omega) ?_ | assumption)), (by repeat (first | exact hs_eq _ _ _ | refine hs_ne (by omega) ?_ | assumption))⟩, fun aaa haa => by repeat (first | rfl | refine hs_ne (by omega) ?_)⟩
                    | exact Or.inr (Or.inl ⟨by omega, rfl, ⟨(by repeat (first | exact hs_eq _ _ _ | refine hs_ne (by omega) ?_ | assumption)), (by repeat (first | exact hs_eq _ _ _ | refine hs_ne (by omega) ?_ | assumption)), (by repeat (first | exact hs_eq _ _ _ | refine hs_ne (by omega) ?_ | assumption)), (by repeat (first | exact hs_eq _ _ _ | refine hs_ne (by omega) ?_ | assumption)), (by repeat (first | exact hs_eq _ _ _ | refine hs_ne (by omega) ?_ | assumption)), (by repeat (first | exact hs_eq _ _ _ | refine hs_ne (by omega) ?_ | assumption))⟩, fun aaa haa => by repeat (first | rfl | refine hs_ne (by omega) ?_)⟩)
                    | exact Or.inr (Or.inr (⟨by omega, rfl, ⟨(by repeat (first | exact hs_eq _ _ _ | refine hs_ne (by omega) ?_ | assumption)), (by repeat (first | exact hs_eq _ _ _ | refine hs_ne (by omega) ?_ | assumption)), (by repeat (first | exact hs_eq _ _ _ | refine hs_ne (by omega) ?_ | assumption)), (by repeat (first | exact hs_eq _ _ _ | refine hs_ne (by omega) ?_ | assumption)), (by repeat (first | exact hs_eq _ _ _ | refine hs_ne (by omega) ?_ | assumption)), (by repeat (first | exact hs_eq _ _ _ | refine hs_ne (by omega) ?_ | assumption))⟩, fun aaa haa => by repeat (first | rfl | refine hs_ne (by omega) ?_)⟩)))
              · try (exfalso; omega)
                all_goals (
                  refine k_iconst C dX8_weight_36 ?_
                  refine k_goto (tgt := 46) C dX8_weight_37 (by decide) ?_
                  refine k_iret C hr dX8_weight_46 ?_
                  first
                    | exact Or.inl ⟨by omega, rfl, ⟨(by repeat (first | exact hs_eq _ _ _ | refine hs_ne (by omega) ?_ | assumption)), (by repeat (first | exact hs_eq _ _ _ | refine hs_ne (by omega) ?_ | assumption)), (by repeat (first | exact hs_eq _ _ _ | refine hs_ne (by omega) ?_ | assumption)), (by repeat (first | exact hs_eq _ _ _ | refine hs_ne (by omega) ?_ | assumption)), (by repeat (first | exact hs_eq _ _ _ | refine hs_ne (by omega) ?_ | assumption)), (by repeat (first | exact hs_eq _ _ _ | refine hs_ne (by omega) ?_ | assumption))⟩, fun aaa haa => by repeat (first | rfl | refine hs_ne (by omega) ?_)⟩
                    | exact Or.inr (Or.inl ⟨by omega, rfl, ⟨(by repeat (first | exact hs_eq _ _ _ | refine hs_ne (by omega) ?_ | assumption)), (by repeat (first | exact hs_eq _ _ _ | refine hs_ne (by omega) ?_ | assumption)), (by repeat (first | exact hs_eq _ _ _ | refine hs_ne (by omega) ?_ | assumption)), (by repeat (first | exact hs_eq _ _ _ | refine hs_ne (by omega) ?_ | assumption)), (by repeat (first | exact hs_eq _ _ _ | refine hs_ne (by omega) ?_ | assumption)), (by repeat (first | exact hs_eq _ _ _ | refine hs_ne (by omega) ?_ | assumption))⟩, fun aaa haa => by repeat (first | rfl | refine hs_ne (by omega) ?_)⟩)
                    | exact Or.inr (Or.inr (⟨by omega, rfl, ⟨(by repeat (first | exact hs_eq _ _ _ | refine hs_ne (by omega) ?_ | assumption)), (by repeat (first | exact hs_eq _ _ _ | refine hs_ne (by omega) ?_ | assumption)), (by repeat (first | exact hs_eq _ _ _ | refine hs_ne (by omega) ?_ | assumption)), (by repeat (first | exact hs_eq _ _ _ | refine hs_ne (by omega) ?_ | assumption)), (by repeat (first | exact hs_eq _ _ _ | refine hs_ne (by omega) ?_ | assumption)), (by repeat (first | exact hs_eq _ _ _ | refine hs_ne (by omega) ?_ | assumption))⟩, fun aaa haa => by repeat (first | rfl | refine hs_ne (by omega) ?_)⟩))))
        · skip
          refine k_if_eq (tgt := 25) C dX8_weight_18 (by decide) ⟨by omega, by omega⟩ (fun c18 => ?_) (fun c18 => ?_)
          · try (exfalso; omega)
            all_goals (
              refine k_iconst C dX8_weight_25 ?_
              refine k_put C (k := 5) inX8 tyX8_ok nmX8 (ci := 8) rfl (by decide) fl_X8_25 rfl (Nat.le_of_ble_eq_true rfl) dX8_weight_26 (by repeat (first | exact hs_eq _ _ _ | refine hs_ne (by omega) ?_ | assumption)) ?_
              refine k_aload_n C dX8_weight_29 rfl ?_
              refine k_get C (k := 5) inX8 (ci := 8) rfl (by decide) fl_X8_25 dX8_weight_30 (by repeat (first | exact hs_eq _ _ _ | refine hs_ne (by omega) ?_ | assumption)) rfl ?_
              refine k_if_le (tgt := 40) C dX8_weight_33 (by decide) ⟨by omega, by omega⟩ (fun c33 => ?_) (fun c33 => ?_)
              · try (exfalso; omega)
                all_goals (
                  refine k_aload_n C dX8_weight_40 rfl ?_
                  refine k_iload_n C dX8_weight_41 rfl ?_
                  refine k_iload_n C dX8_weight_42 rfl ?_
                  refine k_callV C (n := 2) (as := [_, _]) (ct_X8_weightNow l D tc base oo zrr hhi htx has hro st ln _ re du hsh _ ⟨(by repeat (first | exact hs_eq _ _ _ | refine hs_ne (by omega) ?_ | assumption)), (by repeat (first | exact hs_eq _ _ _ | refine hs_ne (by omega) ?_ | assumption)), (by repeat (first | exact hs_eq _ _ _ | refine hs_ne (by omega) ?_ | assumption)), (by repeat (first | exact hs_eq _ _ _ | refine hs_ne (by omega) ?_ | assumption)), (by repeat (first | exact hs_eq _ _ _ | refine hs_ne (by omega) ?_ | assumption)), (by repeat (first | exact hs_eq _ _ _ | refine hs_ne (by omega) ?_ | assumption))⟩ _ _ (by omega) (by omega)) ml_X8_146 im_X8_weightNow se_X8_weightNow ini_X8 co_X8_weightNow ⟨rfl, by decide, by decide, by decide +kernel⟩ rfl (ci := 8) rfl (by repeat (first | exact hs_eq _ _ _ | refine hs_ne (by omega) ?_ | assumption)) ⟨by decide, by decide⟩ rfl (Nat.le_of_ble_eq_true rfl) ⟨Nat.zero_le _, Nat.zero_le _⟩ dX8_weight_43 ?_
                  rintro _ _ ⟨rfl, rfl⟩
                  refine k_iret C hr dX8_weight_46 ?_
                  first
                    | exact Or.inl ⟨by omega, rfl, ⟨(by repeat (first | exact hs_eq _ _ _ | refine hs_ne (by omega) ?_ | assumption)), (by repeat (first | exact hs_eq _ _ _ | refine hs_ne (by omega) ?_ | assumption)), (by repeat (first | exact hs_eq _ _ _ | refine hs_ne (by omega) ?_ | assumption)), (by repeat (first | exact hs_eq _ _ _ | refine hs_ne (by omega) ?_ | assumption)), (by repeat (first | exact hs_eq _ _ _ | refine hs_ne (by omega) ?_ | assumption)), (by repeat (first | exact hs_eq _ _ _ | refine hs_ne (by omega) ?_ | assumption))⟩, fun aaa haa => by repeat (first | rfl | refine hs_ne (by omega) ?_)⟩
                    | exact Or.inr (Or.inl ⟨by omega, rfl, ⟨(by repeat (first | exact hs_eq _ _ _ | refine hs_ne (by omega) ?_ | assumption)), (by repeat (first | exact hs_eq _ _ _ | refine hs_ne (by omega) ?_ | assumption)), (by repeat (first | exact hs_eq _ _ _ | refine hs_ne (by omega) ?_ | assumption)), (by repeat (first | exact hs_eq _ _ _ | refine hs_ne (by omega) ?_ | assumption)), (by repeat (first | exact hs_eq _ _ _ | refine hs_ne (by omega) ?_ | assumption)), (by repeat (first | exact hs_eq _ _ _ | refine hs_ne (by omega) ?_ | assumption))⟩, fun aaa haa => by repeat (first | rfl | refine hs_ne (by omega) ?_)⟩)
                    | exact Or.inr (Or.inr (⟨by omega, rfl, ⟨(by repeat (first | exact hs_eq _ _ _ | refine hs_ne (by omega) ?_ | assumption)), (by repeat (first | exact hs_eq _ _ _ | refine hs_ne (by omega) ?_ | assumption)), (by repeat (first | exact hs_eq _ _ _ | refine hs_ne (by omega) ?_ | assumption)), (by repeat (first | exact hs_eq _ _ _ | refine hs_ne (by omega) ?_ | assumption)), (by repeat (first | exact hs_eq _ _ _ | refine hs_ne (by omega) ?_ | assumption)), (by repeat (first | exact hs_eq _ _ _ | refine hs_ne (by omega) ?_ | assumption))⟩, fun aaa haa => by repeat (first | rfl | refine hs_ne (by omega) ?_)⟩)))
              · try (exfalso; omega)
                all_goals (
                  refine k_iconst C dX8_weight_36 ?_
                  refine k_goto (tgt := 46) C dX8_weight_37 (by decide) ?_
                  refine k_iret C hr dX8_weight_46 ?_
                  first
                    | exact Or.inl ⟨by omega, rfl, ⟨(by repeat (first | exact hs_eq _ _ _ | refine hs_ne (by omega) ?_ | assumption)), (by repeat (first | exact hs_eq _ _ _ | refine hs_ne (by omega) ?_ | assumption)), (by repeat (first | exact hs_eq _ _ _ | refine hs_ne (by omega) ?_ | assumption)), (by repeat (first | exact hs_eq _ _ _ | refine hs_ne (by omega) ?_ | assumption)), (by repeat (first | exact hs_eq _ _ _ | refine hs_ne (by omega) ?_ | assumption)), (by repeat (first | exact hs_eq _ _ _ | refine hs_ne (by omega) ?_ | assumption))⟩, fun aaa haa => by repeat (first | rfl | refine hs_ne (by omega) ?_)⟩
                    | exact Or.inr (Or.inl ⟨by omega, rfl, ⟨(by repeat (first | exact hs_eq _ _ _ | refine hs_ne (by omega) ?_ | assumption)), (by repeat (first | exact hs_eq _ _ _ | refine hs_ne (by omega) ?_ | assumption)), (by repeat (first | exact hs_eq _ _ _ | refine hs_ne (by omega) ?_ | assumption)), (by repeat (first | exact hs_eq _ _ _ | refine hs_ne (by omega) ?_ | assumption)), (by repeat (first | exact hs_eq _ _ _ | refine hs_ne (by omega) ?_ | assumption)), (by repeat (first | exact hs_eq _ _ _ | refine hs_ne (by omega) ?_ | assumption))⟩, fun aaa haa => by repeat (first | rfl | refine hs_ne (by omega) ?_)⟩)
                    | exact Or.inr (Or.inr (⟨by omega, rfl, ⟨(by repeat (first | exact hs_eq _ _ _ | refine hs_ne (by omega) ?_ | assumption)), (by repeat (first | exact hs_eq _ _ _ | refine hs_ne (by omega) ?_ | assumption)), (by repeat (first | exact hs_eq _ _ _ | refine hs_ne (by omega) ?_ | assumption)), (by repeat (first | exact hs_eq _ _ _ | refine hs_ne (by omega) ?_ | assumption)), (by repeat (first | exact hs_eq _ _ _ | refine hs_ne (by omega) ?_ | assumption)), (by repeat (first | exact hs_eq _ _ _ | refine hs_ne (by omega) ?_ | assumption))⟩, fun aaa haa => by repeat (first | rfl | refine hs_ne (by omega) ?_)⟩))))
          · try (exfalso; omega)
            all_goals (
              refine k_iconst C dX8_weight_21 ?_
              refine k_goto (tgt := 26) C dX8_weight_22 (by decide) ?_
              refine k_put C (k := 5) inX8 tyX8_ok nmX8 (ci := 8) rfl (by decide) fl_X8_25 rfl (Nat.le_of_ble_eq_true rfl) dX8_weight_26 (by repeat (first | exact hs_eq _ _ _ | refine hs_ne (by omega) ?_ | assumption)) ?_
              refine k_aload_n C dX8_weight_29 rfl ?_
              refine k_get C (k := 5) inX8 (ci := 8) rfl (by decide) fl_X8_25 dX8_weight_30 (by repeat (first | exact hs_eq _ _ _ | refine hs_ne (by omega) ?_ | assumption)) rfl ?_
              refine k_if_le (tgt := 40) C dX8_weight_33 (by decide) ⟨by omega, by omega⟩ (fun c33 => ?_) (fun c33 => ?_)
              · try (exfalso; omega)
                all_goals (
                  refine k_aload_n C dX8_weight_40 rfl ?_
                  refine k_iload_n C dX8_weight_41 rfl ?_
                  refine k_iload_n C dX8_weight_42 rfl ?_
                  refine k_callV C (n := 2) (as := [_, _]) (ct_X8_weightNow l D tc base oo zrr hhi htx has hro st ln _ re du hsh _ ⟨(by repeat (first | exact hs_eq _ _ _ | refine hs_ne (by omega) ?_ | assumption)), (by repeat (first | exact hs_eq _ _ _ | refine hs_ne (by omega) ?_ | assumption)), (by repeat (first | exact hs_eq _ _ _ | refine hs_ne (by omega) ?_ | assumption)), (by repeat (first | exact hs_eq _ _ _ | refine hs_ne (by omega) ?_ | assumption)), (by repeat (first | exact hs_eq _ _ _ | refine hs_ne (by omega) ?_ | assumption)), (by repeat (first | exact hs_eq _ _ _ | refine hs_ne (by omega) ?_ | assumption))⟩ _ _ (by omega) (by omega)) ml_X8_146 im_X8_weightNow se_X8_weightNow ini_X8 co_X8_weightNow ⟨rfl, by decide, by decide, by decide +kernel⟩ rfl (ci := 8) rfl (by repeat (first | exact hs_eq _ _ _ | refine hs_ne (by omega) ?_ | assumption)) ⟨by decide, by decide⟩ rfl (Nat.le_of_ble_eq_true rfl) ⟨Nat.zero_le _, Nat.zero_le _⟩ dX8_weight_43 ?_
                  rintro _ _ ⟨rfl, rfl⟩
                  refine k_iret C hr dX8_weight_46 ?_
                  first
                    | exact Or.inl ⟨by omega, rfl, ⟨(by repeat (first | exact hs_eq _ _ _ | refine hs_ne (by omega) ?_ | assumption)), (by repeat (first | exact hs_eq _ _ _ | refine hs_ne (by omega) ?_ | assumption)), (by repeat (first | exact hs_eq _ _ _ | refine hs_ne (by omega) ?_ | assumption)), (by repeat (first | exact hs_eq _ _ _ | refine hs_ne (by omega) ?_ | assumption)), (by repeat (first | exact hs_eq _ _ _ | refine hs_ne (by omega) ?_ | assumption)), (by repeat (first | exact hs_eq _ _ _ | refine hs_ne (by omega) ?_ | assumption))⟩, fun aaa haa => by repeat (first | rfl | refine hs_ne (by omega) ?_)⟩
                    | exact Or.inr (Or.inl ⟨by omega, rfl, ⟨(by repeat (first | exact hs_eq _ _ _ | refine hs_ne (by omega) ?_ | assumption)), (by repeat (first | exact hs_eq _ _ _ | refine hs_ne (by omega) ?_ | assumption)), (by repeat (first | exact hs_eq _ _ _ | refine hs_ne (by omega) ?_ | assumption)), (by repeat (first | exact hs_eq _ _ _ | refine hs_ne (by omega) ?_ | assumption)), (by repeat (first | exact hs_eq _ _ _ | refine hs_ne (by omega) ?_ | assumption)), (by repeat (first | exact hs_eq _ _ _ | refine hs_ne (by omega) ?_ | assumption))⟩, fun aaa haa => by repeat (first | rfl | refine hs_ne (by omega) ?_)⟩)
                    | exact Or.inr (Or.inr (⟨by omega, rfl, ⟨(by repeat (first | exact hs_eq _ _ _ | refine hs_ne (by omega) ?_ | assumption)), (by repeat (first | exact hs_eq _ _ _ | refine hs_ne (by omega) ?_ | assumption)), (by repeat (first | exact hs_eq _ _ _ | refine hs_ne (by omega) ?_ | assumption)), (by repeat (first | exact hs_eq _ _ _ | refine hs_ne (by omega) ?_ | assumption)), (by repeat (first | exact hs_eq _ _ _ | refine hs_ne (by omega) ?_ | assumption)), (by repeat (first | exact hs_eq _ _ _ | refine hs_ne (by omega) ?_ | assumption))⟩, fun aaa haa => by repeat (first | rfl | refine hs_ne (by omega) ?_)⟩)))
              · try (exfalso; omega)
                all_goals (
                  refine k_iconst C dX8_weight_36 ?_
                  refine k_goto (tgt := 46) C dX8_weight_37 (by decide) ?_
                  refine k_iret C hr dX8_weight_46 ?_
                  first
                    | exact Or.inl ⟨by omega, rfl, ⟨(by repeat (first | exact hs_eq _ _ _ | refine hs_ne (by omega) ?_ | assumption)), (by repeat (first | exact hs_eq _ _ _ | refine hs_ne (by omega) ?_ | assumption)), (by repeat (first | exact hs_eq _ _ _ | refine hs_ne (by omega) ?_ | assumption)), (by repeat (first | exact hs_eq _ _ _ | refine hs_ne (by omega) ?_ | assumption)), (by repeat (first | exact hs_eq _ _ _ | refine hs_ne (by omega) ?_ | assumption)), (by repeat (first | exact hs_eq _ _ _ | refine hs_ne (by omega) ?_ | assumption))⟩, fun aaa haa => by repeat (first | rfl | refine hs_ne (by omega) ?_)⟩
                    | exact Or.inr (Or.inl ⟨by omega, rfl, ⟨(by repeat (first | exact hs_eq _ _ _ | refine hs_ne (by omega) ?_ | assumption)), (by repeat (first | exact hs_eq _ _ _ | refine hs_ne (by omega) ?_ | assumption)), (by repeat (first | exact hs_eq _ _ _ | refine hs_ne (by omega) ?_ | assumption)), (by repeat (first | exact hs_eq _ _ _ | refine hs_ne (by omega) ?_ | assumption)), (by repeat (first | exact hs_eq _ _ _ | refine hs_ne (by omega) ?_ | assumption)), (by repeat (first | exact hs_eq _ _ _ | refine hs_ne (by omega) ?_ | assumption))⟩, fun aaa haa => by repeat (first | rfl | refine hs_ne (by omega) ?_)⟩)
                    | exact Or.inr (Or.inr (⟨by omega, rfl, ⟨(by repeat (first | exact hs_eq _ _ _ | refine hs_ne (by omega) ?_ | assumption)), (by repeat (first | exact hs_eq _ _ _ | refine hs_ne (by omega) ?_ | assumption)), (by repeat (first | exact hs_eq _ _ _ | refine hs_ne (by omega) ?_ | assumption)), (by repeat (first | exact hs_eq _ _ _ | refine hs_ne (by omega) ?_ | assumption)), (by repeat (first | exact hs_eq _ _ _ | refine hs_ne (by omega) ?_ | assumption)), (by repeat (first | exact hs_eq _ _ _ | refine hs_ne (by omega) ?_ | assumption))⟩, fun aaa haa => by repeat (first | rfl | refine hs_ne (by omega) ?_)⟩)))))
    · try (exfalso; omega)
      all_goals (
        refine k_iconst C dX8_weight_8 ?_
        refine k_goto (tgt := 26) C dX8_weight_9 (by decide) ?_
        refine k_put C (k := 5) inX8 tyX8_ok nmX8 (ci := 8) rfl (by decide) fl_X8_25 rfl (Nat.le_of_ble_eq_true rfl) dX8_weight_26 (by repeat (first | exact hs_eq _ _ _ | refine hs_ne (by omega) ?_ | assumption)) ?_
        refine k_aload_n C dX8_weight_29 rfl ?_
        refine k_get C (k := 5) inX8 (ci := 8) rfl (by decide) fl_X8_25 dX8_weight_30 (by repeat (first | exact hs_eq _ _ _ | refine hs_ne (by omega) ?_ | assumption)) rfl ?_
        refine k_if_le (tgt := 40) C dX8_weight_33 (by decide) ⟨by omega, by omega⟩ (fun c33 => ?_) (fun c33 => ?_)
        · try (exfalso; omega)
          all_goals (
            refine k_aload_n C dX8_weight_40 rfl ?_
            refine k_iload_n C dX8_weight_41 rfl ?_
            refine k_iload_n C dX8_weight_42 rfl ?_
            refine k_callV C (n := 2) (as := [_, _]) (ct_X8_weightNow l D tc base oo zrr hhi htx has hro st ln _ re du hsh _ ⟨(by repeat (first | exact hs_eq _ _ _ | refine hs_ne (by omega) ?_ | assumption)), (by repeat (first | exact hs_eq _ _ _ | refine hs_ne (by omega) ?_ | assumption)), (by repeat (first | exact hs_eq _ _ _ | refine hs_ne (by omega) ?_ | assumption)), (by repeat (first | exact hs_eq _ _ _ | refine hs_ne (by omega) ?_ | assumption)), (by repeat (first | exact hs_eq _ _ _ | refine hs_ne (by omega) ?_ | assumption)), (by repeat (first | exact hs_eq _ _ _ | refine hs_ne (by omega) ?_ | assumption))⟩ _ _ (by omega) (by omega)) ml_X8_146 im_X8_weightNow se_X8_weightNow ini_X8 co_X8_weightNow ⟨rfl, by decide, by decide, by decide +kernel⟩ rfl (ci := 8) rfl (by repeat (first | exact hs_eq _ _ _ | refine hs_ne (by omega) ?_ | assumption)) ⟨by decide, by decide⟩ rfl (Nat.le_of_ble_eq_true rfl) ⟨Nat.zero_le _, Nat.zero_le _⟩ dX8_weight_43 ?_
            rintro _ _ ⟨rfl, rfl⟩
            refine k_iret C hr dX8_weight_46 ?_
            first
              | exact Or.inl ⟨by omega, rfl, ⟨(by repeat (first | exact hs_eq _ _ _ | refine hs_ne (by omega) ?_ | assumption)), (by repeat (first | exact hs_eq _ _ _ | refine hs_ne (by omega) ?_ | assumption)), (by repeat (first | exact hs_eq _ _ _ | refine hs_ne (by omega) ?_ | assumption)), (by repeat (first | exact hs_eq _ _ _ | refine hs_ne (by omega) ?_ | assumption)), (by repeat (first | exact hs_eq _ _ _ | refine hs_ne (by omega) ?_ | assumption)), (by repeat (first | exact hs_eq _ _ _ | refine hs_ne (by omega) ?_ | assumption))⟩, fun aaa haa => by repeat (first | rfl | refine hs_ne (by omega) ?_)⟩
              | exact Or.inr (Or.inl ⟨by omega, rfl, ⟨(by repeat (first | exact hs_eq _ _ _ | refine hs_ne (by omega) ?_ | assumption)), (by repeat (first | exact hs_eq _ _ _ | refine hs_ne (by omega) ?_ | assumption)), (by repeat (first | exact hs_eq _ _ _ | refine hs_ne (by omega) ?_ | assumption)), (by repeat (first | exact hs_eq _ _ _ | refine hs_ne (by omega) ?_ | assumption)), (by repeat (first | exact hs_eq _ _ _ | refine hs_ne (by omega) ?_ | assumption)), (by repeat (first | exact hs_eq _ _ _ | refine hs_ne (by omega) ?_ | assumption))⟩, fun aaa haa => by repeat (first | rfl | refine hs_ne (by omega) ?_)⟩)
              | exact Or.inr (Or.inr (⟨by omega, rfl, ⟨(by repeat (first | exact hs_eq _ _ _ | refine hs_ne (by omega) ?_ | assumption)), (by repeat (first | exact hs_eq _ _ _ | refine hs_ne (by omega) ?_ | assumption)), (by repeat (first | exact hs_eq _ _ _ | refine hs_ne (by omega) ?_ | assumption)), (by repeat (first | exact hs_eq _ _ _ | refine hs_ne (by omega) ?_ | assumption)), (by repeat (first | exact hs_eq _ _ _ | refine hs_ne (by omega) ?_ | assumption)), (by repeat (first | exact hs_eq _ _ _ | refine hs_ne (by omega) ?_ | assumption))⟩, fun aaa haa => by repeat (first | rfl | refine hs_ne (by omega) ?_)⟩)))
        · try (exfalso; omega)
          all_goals (
            refine k_iconst C dX8_weight_36 ?_
            refine k_goto (tgt := 46) C dX8_weight_37 (by decide) ?_
            refine k_iret C hr dX8_weight_46 ?_
            first
              | exact Or.inl ⟨by omega, rfl, ⟨(by repeat (first | exact hs_eq _ _ _ | refine hs_ne (by omega) ?_ | assumption)), (by repeat (first | exact hs_eq _ _ _ | refine hs_ne (by omega) ?_ | assumption)), (by repeat (first | exact hs_eq _ _ _ | refine hs_ne (by omega) ?_ | assumption)), (by repeat (first | exact hs_eq _ _ _ | refine hs_ne (by omega) ?_ | assumption)), (by repeat (first | exact hs_eq _ _ _ | refine hs_ne (by omega) ?_ | assumption)), (by repeat (first | exact hs_eq _ _ _ | refine hs_ne (by omega) ?_ | assumption))⟩, fun aaa haa => by repeat (first | rfl | refine hs_ne (by omega) ?_)⟩
              | exact Or.inr (Or.inl ⟨by omega, rfl, ⟨(by repeat (first | exact hs_eq _ _ _ | refine hs_ne (by omega) ?_ | assumption)), (by repeat (first | exact hs_eq _ _ _ | refine hs_ne (by omega) ?_ | assumption)), (by repeat (first | exact hs_eq _ _ _ | refine hs_ne (by omega) ?_ | assumption)), (by repeat (first | exact hs_eq _ _ _ | refine hs_ne (by omega) ?_ | assumption)), (by repeat (first | exact hs_eq _ _ _ | refine hs_ne (by omega) ?_ | assumption)), (by repeat (first | exact hs_eq _ _ _ | refine hs_ne (by omega) ?_ | assumption))⟩, fun aaa haa => by repeat (first | rfl | refine hs_ne (by omega) ?_)⟩)
              | exact Or.inr (Or.inr (⟨by omega, rfl, ⟨(by repeat (first | exact hs_eq _ _ _ | refine hs_ne (by omega) ?_ | assumption)), (by repeat (first | exact hs_eq _ _ _ | refine hs_ne (by omega) ?_ | assumption)), (by repeat (first | exact hs_eq _ _ _ | refine hs_ne (by omega) ?_ | assumption)), (by repeat (first | exact hs_eq _ _ _ | refine hs_ne (by omega) ?_ | assumption)), (by repeat (first | exact hs_eq _ _ _ | refine hs_ne (by omega) ?_ | assumption)), (by repeat (first | exact hs_eq _ _ _ | refine hs_ne (by omega) ?_ | assumption))⟩, fun aaa haa => by repeat (first | rfl | refine hs_ne (by omega) ?_)⟩))))
  · skip
    refine k_if_ne (tgt := 12) C dX8_weight_5 (by decide) ⟨by omega, by omega⟩ (fun c5 => ?_) (fun c5 => ?_)
    · try (exfalso; omega)
      all_goals (
        refine k_iload_n C dX8_weight_12 rfl ?_
        refine k_iconst C dX8_weight_13 ?_
        refine k_iconst C dX8_weight_14 ?_
        refine k_callS C (n := 3) (as := [_, _, _]) (ct_X8_within l D tc base _ _ _ _ hqq ⟨by omega, by omega⟩ ⟨by omega, by omega⟩) ml_X8_92 sm_X8_within ini_X8 co_X8_within ⟨by decide, by decide, by decide +kernel⟩ rfl ⟨by decide, by decide⟩ rfl (Nat.le_of_ble_eq_true rfl) ⟨Nat.zero_le _, Nat.zero_le _⟩ dX8_weight_15 ?_
        rintro _ _ (⟨rfl, rfl, hq15⟩ | ⟨rfl, rfl, hq15⟩)
        · skip
          refine k_if_eq (tgt := 25) C dX8_weight_18 (by decide) ⟨by omega, by omega⟩ (fun c18 => ?_) (fun c18 => ?_)
          · try (exfalso; omega)
            all_goals (
              refine k_iconst C dX8_weight_25 ?_
              refine k_put C (k := 5) inX8 tyX8_ok nmX8 (ci := 8) rfl (by decide) fl_X8_25 rfl (Nat.le_of_ble_eq_true rfl) dX8_weight_26 (by repeat (first | exact hs_eq _ _ _ | refine hs_ne (by omega) ?_ | assumption)) ?_
              refine k_aload_n C dX8_weight_29 rfl ?_
              refine k_get C (k := 5) inX8 (ci := 8) rfl (by decide) fl_X8_25 dX8_weight_30 (by repeat (first | exact hs_eq _ _ _ | refine hs_ne (by omega) ?_ | assumption)) rfl ?_
              refine k_if_le (tgt := 40) C dX8_weight_33 (by decide) ⟨by omega, by omega⟩ (fun c33 => ?_) (fun c33 => ?_)
              · try (exfalso; omega)
                all_goals (
                  refine k_aload_n C dX8_weight_40 rfl ?_
                  refine k_iload_n C dX8_weight_41 rfl ?_
                  refine k_iload_n C dX8_weight_42 rfl ?_
                  refine k_callV C (n := 2) (as := [_, _]) (ct_X8_weightNow l D tc base oo zrr hhi htx has hro st ln _ re du hsh _ ⟨(by repeat (first | exact hs_eq _ _ _ | refine hs_ne (by omega) ?_ | assumption)), (by repeat (first | exact hs_eq _ _ _ | refine hs_ne (by omega) ?_ | assumption)), (by repeat (first | exact hs_eq _ _ _ | refine hs_ne (by omega) ?_ | assumption)), (by repeat (first | exact hs_eq _ _ _ | refine hs_ne (by omega) ?_ | assumption)), (by repeat (first | exact hs_eq _ _ _ | refine hs_ne (by omega) ?_ | assumption)), (by repeat (first | exact hs_eq _ _ _ | refine hs_ne (by omega) ?_ | assumption))⟩ _ _ (by omega) (by omega)) ml_X8_146 im_X8_weightNow se_X8_weightNow ini_X8 co_X8_weightNow ⟨rfl, by decide, by decide, by decide +kernel⟩ rfl (ci := 8) rfl (by repeat (first | exact hs_eq _ _ _ | refine hs_ne (by omega) ?_ | assumption)) ⟨by decide, by decide⟩ rfl (Nat.le_of_ble_eq_true rfl) ⟨Nat.zero_le _, Nat.zero_le _⟩ dX8_weight_43 ?_
                  rintro _ _ ⟨rfl, rfl⟩
                  refine k_iret C hr dX8_weight_46 ?_
                  first
                    | exact Or.inl ⟨by omega, rfl, ⟨(by repeat (first | exact hs_eq _ _ _ | refine hs_ne (by omega) ?_ | assumption)), (by repeat (first | exact hs_eq _ _ _ | refine hs_ne (by omega) ?_ | assumption)), (by repeat (first | exact hs_eq _ _ _ | refine hs_ne (by omega) ?_ | assumption)), (by repeat (first | exact hs_eq _ _ _ | refine hs_ne (by omega) ?_ | assumption)), (by repeat (first | exact hs_eq _ _ _ | refine hs_ne (by omega) ?_ | assumption)), (by repeat (first | exact hs_eq _ _ _ | refine hs_ne (by omega) ?_ | assumption))⟩, fun aaa haa => by repeat (first | rfl | refine hs_ne (by omega) ?_)⟩
                    | exact Or.inr (Or.inl ⟨by omega, rfl, ⟨(by repeat (first | exact hs_eq _ _ _ | refine hs_ne (by omega) ?_ | assumption)), (by repeat (first | exact hs_eq _ _ _ | refine hs_ne (by omega) ?_ | assumption)), (by repeat (first | exact hs_eq _ _ _ | refine hs_ne (by omega) ?_ | assumption)), (by repeat (first | exact hs_eq _ _ _ | refine hs_ne (by omega) ?_ | assumption)), (by repeat (first | exact hs_eq _ _ _ | refine hs_ne (by omega) ?_ | assumption)), (by repeat (first | exact hs_eq _ _ _ | refine hs_ne (by omega) ?_ | assumption))⟩, fun aaa haa => by repeat (first | rfl | refine hs_ne (by omega) ?_)⟩)
                    | exact Or.inr (Or.inr (⟨by omega, rfl, ⟨(by repeat (first | exact hs_eq _ _ _ | refine hs_ne (by omega) ?_ | assumption)), (by repeat (first | exact hs_eq _ _ _ | refine hs_ne (by omega) ?_ | assumption)), (by repeat (first | exact hs_eq _ _ _ | refine hs_ne (by omega) ?_ | assumption)), (by repeat (first | exact hs_eq _ _ _ | refine hs_ne (by omega) ?_ | assumption)), (by repeat (first | exact hs_eq _ _ _ | refine hs_ne (by omega) ?_ | assumption)), (by repeat (first | exact hs_eq _ _ _ | refine hs_ne (by omega) ?_ | assumption))⟩, fun aaa haa => by repeat (first | rfl | refine hs_ne (by omega) ?_)⟩)))
              · try (exfalso; omega)
                all_goals (
                  refine k_iconst C dX8_weight_36 ?_
                  refine k_goto (tgt := 46) C dX8_weight_37 (by decide) ?_
                  refine k_iret C hr dX8_weight_46 ?_
                  first
                    | exact Or.inl ⟨by omega, rfl, ⟨(by repeat (first | exact hs_eq _ _ _ | refine hs_ne (by omega) ?_ | assumption)), (by repeat (first | exact hs_eq _ _ _ | refine hs_ne (by omega) ?_ | assumption)), (by repeat (first | exact hs_eq _ _ _ | refine hs_ne (by omega) ?_ | assumption)), (by repeat (first | exact hs_eq _ _ _ | refine hs_ne (by omega) ?_ | assumption)), (by repeat (first | exact hs_eq _ _ _ | refine hs_ne (by omega) ?_ | assumption)), (by repeat (first | exact hs_eq _ _ _ | refine hs_ne (by omega) ?_ | assumption))⟩, fun aaa haa => by repeat (first | rfl | refine hs_ne (by omega) ?_)⟩
                    | exact Or.inr (Or.inl ⟨by omega, rfl, ⟨(by repeat (first | exact hs_eq _ _ _ | refine hs_ne (by omega) ?_ | assumption)), (by repeat (first | exact hs_eq _ _ _ | refine hs_ne (by omega) ?_ | assumption)), (by repeat (first | exact hs_eq _ _ _ | refine hs_ne (by omega) ?_ | assumption)), (by repeat (first | exact hs_eq _ _ _ | refine hs_ne (by omega) ?_ | assumption)), (by repeat (first | exact hs_eq _ _ _ | refine hs_ne (by omega) ?_ | assumption)), (by repeat (first | exact hs_eq _ _ _ | refine hs_ne (by omega) ?_ | assumption))⟩, fun aaa haa => by repeat (first | rfl | refine hs_ne (by omega) ?_)⟩)
                    | exact Or.inr (Or.inr (⟨by omega, rfl, ⟨(by repeat (first | exact hs_eq _ _ _ | refine hs_ne (by omega) ?_ | assumption)), (by repeat (first | exact hs_eq _ _ _ | refine hs_ne (by omega) ?_ | assumption)), (by repeat (first | exact hs_eq _ _ _ | refine hs_ne (by omega) ?_ | assumption)), (by repeat (first | exact hs_eq _ _ _ | refine hs_ne (by omega) ?_ | assumption)), (by repeat (first | exact hs_eq _ _ _ | refine hs_ne (by omega) ?_ | assumption)), (by repeat (first | exact hs_eq _ _ _ | refine hs_ne (by omega) ?_ | assumption))⟩, fun aaa haa => by repeat (first | rfl | refine hs_ne (by omega) ?_)⟩))))
          · try (exfalso; omega)
            all_goals (
              refine k_iconst C dX8_weight_21 ?_
              refine k_goto (tgt := 26) C dX8_weight_22 (by decide) ?_
              refine k_put C (k := 5) inX8 tyX8_ok nmX8 (ci := 8) rfl (by decide) fl_X8_25 rfl (Nat.le_of_ble_eq_true rfl) dX8_weight_26 (by repeat (first | exact hs_eq _ _ _ | refine hs_ne (by omega) ?_ | assumption)) ?_
              refine k_aload_n C dX8_weight_29 rfl ?_
              refine k_get C (k := 5) inX8 (ci := 8) rfl (by decide) fl_X8_25 dX8_weight_30 (by repeat (first | exact hs_eq _ _ _ | refine hs_ne (by omega) ?_ | assumption)) rfl ?_
              refine k_if_le (tgt := 40) C dX8_weight_33 (by decide) ⟨by omega, by omega⟩ (fun c33 => ?_) (fun c33 => ?_)
              · try (exfalso; omega)
                all_goals (
                  refine k_aload_n C dX8_weight_40 rfl ?_
                  refine k_iload_n C dX8_weight_41 rfl ?_
                  refine k_iload_n C dX8_weight_42 rfl ?_
                  refine k_callV C (n := 2) (as := [_, _]) (ct_X8_weightNow l D tc base oo zrr hhi htx has hro st ln _ re du hsh _ ⟨(by repeat (first | exact hs_eq _ _ _ | refine hs_ne (by omega) ?_ | assumption)), (by repeat (first | exact hs_eq _ _ _ | refine hs_ne (by omega) ?_ | assumption)), (by repeat (first | exact hs_eq _ _ _ | refine hs_ne (by omega) ?_ | assumption)), (by repeat (first | exact hs_eq _ _ _ | refine hs_ne (by omega) ?_ | assumption)), (by repeat (first | exact hs_eq _ _ _ | refine hs_ne (by omega) ?_ | assumption)), (by repeat (first | exact hs_eq _ _ _ | refine hs_ne (by omega) ?_ | assumption))⟩ _ _ (by omega) (by omega)) ml_X8_146 im_X8_weightNow se_X8_weightNow ini_X8 co_X8_weightNow ⟨rfl, by decide, by decide, by decide +kernel⟩ rfl (ci := 8) rfl (by repeat (first | exact hs_eq _ _ _ | refine hs_ne (by omega) ?_ | assumption)) ⟨by decide, by decide⟩ rfl (Nat.le_of_ble_eq_true rfl) ⟨Nat.zero_le _, Nat.zero_le _⟩ dX8_weight_43 ?_
                  rintro _ _ ⟨rfl, rfl⟩
                  refine k_iret C hr dX8_weight_46 ?_
                  first
                    | exact Or.inl ⟨by omega, rfl, ⟨(by repeat (first | exact hs_eq _ _ _ | refine hs_ne (by omega) ?_ | assumption)), (by repeat (first | exact hs_eq _ _ _ | refine hs_ne (by omega) ?_ | assumption)), (by repeat (first | exact hs_eq _ _ _ | refine hs_ne (by omega) ?_ | assumption)), (by repeat (first | exact hs_eq _ _ _ | refine hs_ne (by omega) ?_ | assumption)), (by repeat (first | exact hs_eq _ _ _ | refine hs_ne (by omega) ?_ | assumption)), (by repeat (first | exact hs_eq _ _ _ | refine hs_ne (by omega) ?_ | assumption))⟩, fun aaa haa => by repeat (first | rfl | refine hs_ne (by omega) ?_)⟩
                    | exact Or.inr (Or.inl ⟨by omega, rfl, ⟨(by repeat (first | exact hs_eq _ _ _ | refine hs_ne (by omega) ?_ | assumption)), (by repeat (first | exact hs_eq _ _ _ | refine hs_ne (by omega) ?_ | assumption)), (by repeat (first | exact hs_eq _ _ _ | refine hs_ne (by omega) ?_ | assumption)), (by repeat (first | exact hs_eq _ _ _ | refine hs_ne (by omega) ?_ | assumption)), (by repeat (first | exact hs_eq _ _ _ | refine hs_ne (by omega) ?_ | assumption)), (by repeat (first | exact hs_eq _ _ _ | refine hs_ne (by omega) ?_ | assumption))⟩, fun aaa haa => by repeat (first | rfl | refine hs_ne (by omega) ?_)⟩)
                    | exact Or.inr (Or.inr (⟨by omega, rfl, ⟨(by repeat (first | exact hs_eq _ _ _ | refine hs_ne (by omega) ?_ | assumption)), (by repeat (first | exact hs_eq _ _ _ | refine hs_ne (by omega) ?_ | assumption)), (by repeat (first | exact hs_eq _ _ _ | refine hs_ne (by omega) ?_ | assumption)), (by repeat (first | exact hs_eq _ _ _ | refine hs_ne (by omega) ?_ | assumption)), (by repeat (first | exact hs_eq _ _ _ | refine hs_ne (by omega) ?_ | assumption)), (by repeat (first | exact hs_eq _ _ _ | refine hs_ne (by omega) ?_ | assumption))⟩, fun aaa haa => by repeat (first | rfl | refine hs_ne (by omega) ?_)⟩)))
              · try (exfalso; omega)
                all_goals (
                  refine k_iconst C dX8_weight_36 ?_
                  refine k_goto (tgt := 46) C dX8_weight_37 (by decide) ?_
                  refine k_iret C hr dX8_weight_46 ?_
                  first
                    | exact Or.inl ⟨by omega, rfl, ⟨(by repeat (first | exact hs_eq _ _ _ | refine hs_ne (by omega) ?_ | assumption)), (by repeat (first | exact hs_eq _ _ _ | refine hs_ne (by omega) ?_ | assumption)), (by repeat (first | exact hs_eq _ _ _ | refine hs_ne (by omega) ?_ | assumption)), (by repeat (first | exact hs_eq _ _ _ | refine hs_ne (by omega) ?_ | assumption)), (by repeat (first | exact hs_eq _ _ _ | refine hs_ne (by omega) ?_ | assumption)), (by repeat (first | exact hs_eq _ _ _ | refine hs_ne (by omega) ?_ | assumption))⟩, fun aaa haa => by repeat (first | rfl | refine hs_ne (by omega) ?_)⟩
                    | exact Or.inr (Or.inl ⟨by omega, rfl, ⟨(by repeat (first | exact hs_eq _ _ _ | refine hs_ne (by omega) ?_ | assumption)), (by repeat (first | exact hs_eq _ _ _ | refine hs_ne (by omega) ?_ | assumption)), (by repeat (first | exact hs_eq _ _ _ | refine hs_ne (by omega) ?_ | assumption)), (by repeat (first | exact hs_eq _ _ _ | refine hs_ne (by omega) ?_ | assumption)), (by repeat (first | exact hs_eq _ _ _ | refine hs_ne (by omega) ?_ | assumption)), (by repeat (first | exact hs_eq _ _ _ | refine hs_ne (by omega) ?_ | assumption))⟩, fun aaa haa => by repeat (first | rfl | refine hs_ne (by omega) ?_)⟩)
                    | exact Or.inr (Or.inr (⟨by omega, rfl, ⟨(by repeat (first | exact hs_eq _ _ _ | refine hs_ne (by omega) ?_ | assumption)), (by repeat (first | exact hs_eq _ _ _ | refine hs_ne (by omega) ?_ | assumption)), (by repeat (first | exact hs_eq _ _ _ | refine hs_ne (by omega) ?_ | assumption)), (by repeat (first | exact hs_eq _ _ _ | refine hs_ne (by omega) ?_ | assumption)), (by repeat (first | exact hs_eq _ _ _ | refine hs_ne (by omega) ?_ | assumption)), (by repeat (first | exact hs_eq _ _ _ | refine hs_ne (by omega) ?_ | assumption))⟩, fun aaa haa => by repeat (first | rfl | refine hs_ne (by omega) ?_)⟩))))
        · skip
          refine k_if_eq (tgt := 25) C dX8_weight_18 (by decide) ⟨by omega, by omega⟩ (fun c18 => ?_) (fun c18 => ?_)
          · try (exfalso; omega)
            all_goals (
              refine k_iconst C dX8_weight_25 ?_
              refine k_put C (k := 5) inX8 tyX8_ok nmX8 (ci := 8) rfl (by decide) fl_X8_25 rfl (Nat.le_of_ble_eq_true rfl) dX8_weight_26 (by repeat (first | exact hs_eq _ _ _ | refine hs_ne (by omega) ?_ | assumption)) ?_
              refine k_aload_n C dX8_weight_29 rfl ?_
              refine k_get C (k := 5) inX8 (ci := 8) rfl (by decide) fl_X8_25 dX8_weight_30 (by repeat (first | exact hs_eq _ _ _ | refine hs_ne (by omega) ?_ | assumption)) rfl ?_
              refine k_if_le (tgt := 40) C dX8_weight_33 (by decide) ⟨by omega, by omega⟩ (fun c33 => ?_) (fun c33 => ?_)
              · try (exfalso; omega)
                all_goals (
                  refine k_aload_n C dX8_weight_40 rfl ?_
                  refine k_iload_n C dX8_weight_41 rfl ?_
                  refine k_iload_n C dX8_weight_42 rfl ?_
                  refine k_callV C (n := 2) (as := [_, _]) (ct_X8_weightNow l D tc base oo zrr hhi htx has hro st ln _ re du hsh _ ⟨(by repeat (first | exact hs_eq _ _ _ | refine hs_ne (by omega) ?_ | assumption)), (by repeat (first | exact hs_eq _ _ _ | refine hs_ne (by omega) ?_ | assumption)), (by repeat (first | exact hs_eq _ _ _ | refine hs_ne (by omega) ?_ | assumption)), (by repeat (first | exact hs_eq _ _ _ | refine hs_ne (by omega) ?_ | assumption)), (by repeat (first | exact hs_eq _ _ _ | refine hs_ne (by omega) ?_ | assumption)), (by repeat (first | exact hs_eq _ _ _ | refine hs_ne (by omega) ?_ | assumption))⟩ _ _ (by omega) (by omega)) ml_X8_146 im_X8_weightNow se_X8_weightNow ini_X8 co_X8_weightNow ⟨rfl, by decide, by decide, by decide +kernel⟩ rfl (ci := 8) rfl (by repeat (first | exact hs_eq _ _ _ | refine hs_ne (by omega) ?_ | assumption)) ⟨by decide, by decide⟩ rfl (Nat.le_of_ble_eq_true rfl) ⟨Nat.zero_le _, Nat.zero_le _⟩ dX8_weight_43 ?_
                  rintro _ _ ⟨rfl, rfl⟩
                  refine k_iret C hr dX8_weight_46 ?_
                  first
                    | exact Or.inl ⟨by omega, rfl, ⟨(by repeat (first | exact hs_eq _ _ _ | refine hs_ne (by omega) ?_ | assumption)), (by repeat (first | exact hs_eq _ _ _ | refine hs_ne (by omega) ?_ | assumption)), (by repeat (first | exact hs_eq _ _ _ | refine hs_ne (by omega) ?_ | assumption)), (by repeat (first | exact hs_eq _ _ _ | refine hs_ne (by omega) ?_ | assumption)), (by repeat (first | exact hs_eq _ _ _ | refine hs_ne (by omega) ?_ | assumption)), (by repeat (first | exact hs_eq _ _ _ | refine hs_ne (by omega) ?_ | assumption))⟩, fun aaa haa => by repeat (first | rfl | refine hs_ne (by omega) ?_)⟩
                    | exact Or.inr (Or.inl ⟨by omega, rfl, ⟨(by repeat (first | exact hs_eq _ _ _ | refine hs_ne (by omega) ?_ | assumption)), (by repeat (first | exact hs_eq _ _ _ | refine hs_ne (by omega) ?_ | assumption)), (by repeat (first | exact hs_eq _ _ _ | refine hs_ne (by omega) ?_ | assumption)), (by repeat (first | exact hs_eq _ _ _ | refine hs_ne (by omega) ?_ | assumption)), (by repeat (first | exact hs_eq _ _ _ | refine hs_ne (by omega) ?_ | assumption)), (by repeat (first | exact hs_eq _ _ _ | refine hs_ne (by omega) ?_ | assumption))⟩, fun aaa haa => by repeat (first | rfl | refine hs_ne (by omega) ?_)⟩)
                    | exact Or.inr (Or.inr (⟨by omega, rfl, ⟨(by repeat (first | exact hs_eq _ _ _ | refine hs_ne (by omega) ?_ | assumption)), (by repeat (first | exact hs_eq _ _ _ | refine hs_ne (by omega) ?_ | assumption)), (by repeat (first | exact hs_eq _ _ _ | refine hs_ne (by omega) ?_ | assumption)), (by repeat (first | exact hs_eq _ _ _ | refine hs_ne (by omega) ?_ | assumption)), (by repeat (first | exact hs_eq _ _ _ | refine hs_ne (by omega) ?_ | assumption)), (by repeat (first | exact hs_eq _ _ _ | refine hs_ne (by omega) ?_ | assumption))⟩, fun aaa haa => by repeat (first | rfl | refine hs_ne (by omega) ?_)⟩)))
              · try (exfalso; omega)
                all_goals (
                  refine k_iconst C dX8_weight_36 ?_
                  refine k_goto (tgt := 46) C dX8_weight_37 (by decide) ?_
                  refine k_iret C hr dX8_weight_46 ?_
                  first
                    | exact Or.inl ⟨by omega, rfl, ⟨(by repeat (first | exact hs_eq _ _ _ | refine hs_ne (by omega) ?_ | assumption)), (by repeat (first | exact hs_eq _ _ _ | refine hs_ne (by omega) ?_ | assumption)), (by repeat (first | exact hs_eq _ _ _ | refine hs_ne (by omega) ?_ | assumption)), (by repeat (first | exact hs_eq _ _ _ | refine hs_ne (by omega) ?_ | assumption)), (by repeat (first | exact hs_eq _ _ _ | refine hs_ne (by omega) ?_ | assumption)), (by repeat (first | exact hs_eq _ _ _ | refine hs_ne (by omega) ?_ | assumption))⟩, fun aaa haa => by repeat (first | rfl | refine hs_ne (by omega) ?_)⟩
                    | exact Or.inr (Or.inl ⟨by omega, rfl, ⟨(by repeat (first | exact hs_eq _ _ _ | refine hs_ne (by omega) ?_ | assumption)), (by repeat (first | exact hs_eq _ _ _ | refine hs_ne (by omega) ?_ | assumption)), (by repeat (first | exact hs_eq _ _ _ | refine hs_ne (by omega) ?_ | assumption)), (by repeat (first | exact hs_eq _ _ _ | refine hs_ne (by omega) ?_ | assumption)), (by repeat (first | exact hs_eq _ _ _ | refine hs_ne (by omega) ?_ | assumption)), (by repeat (first | exact hs_eq _ _ _ | refine hs_ne (by omega) ?_ | assumption))⟩, fun aaa haa => by repeat (first | rfl | refine hs_ne (by omega) ?_)⟩)
                    | exact Or.inr (Or.inr (⟨by omega, rfl, ⟨(by repeat (first | exact hs_eq _ _ _ | refine hs_ne (by omega) ?_ | assumption)), (by repeat (first | exact hs_eq _ _ _ | refine hs_ne (by omega) ?_ | assumption)), (by repeat (first | exact hs_eq _ _ _ | refine hs_ne (by omega) ?_ | assumption)), (by repeat (first | exact hs_eq _ _ _ | refine hs_ne (by omega) ?_ | assumption)), (by repeat (first | exact hs_eq _ _ _ | refine hs_ne (by omega) ?_ | assumption)), (by repeat (first | exact hs_eq _ _ _ | refine hs_ne (by omega) ?_ | assumption))⟩, fun aaa haa => by repeat (first | rfl | refine hs_ne (by omega) ?_)⟩))))
          · try (exfalso; omega)
            all_goals (
              refine k_iconst C dX8_weight_21 ?_
              refine k_goto (tgt := 26) C dX8_weight_22 (by decide) ?_
              refine k_put C (k := 5) inX8 tyX8_ok nmX8 (ci := 8) rfl (by decide) fl_X8_25 rfl (Nat.le_of_ble_eq_true rfl) dX8_weight_26 (by repeat (first | exact hs_eq _ _ _ | refine hs_ne (by omega) ?_ | assumption)) ?_
              refine k_aload_n C dX8_weight_29 rfl ?_
              refine k_get C (k := 5) inX8 (ci := 8) rfl (by decide) fl_X8_25 dX8_weight_30 (by repeat (first | exact hs_eq _ _ _ | refine hs_ne (by omega) ?_ | assumption)) rfl ?_
              refine k_if_le (tgt := 40) C dX8_weight_33 (by decide) ⟨by omega, by omega⟩ (fun c33 => ?_) (fun c33 => ?_)
              · try (exfalso; omega)
                all_goals (
                  refine k_aload_n C dX8_weight_40 rfl ?_
                  refine k_iload_n C dX8_weight_41 rfl ?_
                  refine k_iload_n C dX8_weight_42 rfl ?_
                  refine k_callV C (n := 2) (as := [_, _]) (ct_X8_weightNow l D tc base oo zrr hhi htx has hro st ln _ re du hsh _ ⟨(by repeat (first | exact hs_eq _ _ _ | refine hs_ne (by omega) ?_ | assumption)), (by repeat (first | exact hs_eq _ _ _ | refine hs_ne (by omega) ?_ | assumption)), (by repeat (first | exact hs_eq _ _ _ | refine hs_ne (by omega) ?_ | assumption)), (by repeat (first | exact hs_eq _ _ _ | refine hs_ne (by omega) ?_ | assumption)), (by repeat (first | exact hs_eq _ _ _ | refine hs_ne (by omega) ?_ | assumption)), (by repeat (first | exact hs_eq _ _ _ | refine hs_ne (by omega) ?_ | assumption))⟩ _ _ (by omega) (by omega)) ml_X8_146 im_X8_weightNow se_X8_weightNow ini_X8 co_X8_weightNow ⟨rfl, by decide, by decide, by decide +kernel⟩ rfl (ci := 8) rfl (by repeat (first | exact hs_eq _ _ _ | refine hs_ne (by omega) ?_ | assumption)) ⟨by decide, by decide⟩ rfl (Nat.le_of_ble_eq_true rfl) ⟨Nat.zero_le _, Nat.zero_le _⟩ dX8_weight_43 ?_
                  rintro _ _ ⟨rfl, rfl⟩
                  refine k_iret C hr dX8_weight_46 ?_
                  first
                    | exact Or.inl ⟨by omega, rfl, ⟨(by repeat (first | exact hs_eq _ _ _ | refine hs_ne (by omega) ?_ | assumption)), (by repeat (first | exact hs_eq _ _ _ | refine hs_ne (by omega) ?_ | assumption)), (by repeat (first | exact hs_eq _ _ _ | refine hs_ne (by omega) ?_ | assumption)), (by repeat (first | exact hs_eq _ _ _ | refine hs_ne (by omega) ?_ | assumption)), (by repeat (first | exact hs_eq _ _ _ | refine hs_ne (by omega) ?_ | assumption)), (by repeat (first | exact hs_eq _ _ _ | refine hs_ne (by omega) ?_ | assumption))⟩, fun aaa haa => by repeat (first | rfl | refine hs_ne (by omega) ?_)⟩
                    | exact Or.inr (Or.inl ⟨by omega, rfl, ⟨(by repeat (first | exact hs_eq _ _ _ | refine hs_ne (by omega) ?_ | assumption)), (by repeat (first | exact hs_eq _ _ _ | refine hs_ne (by omega) ?_ | assumption)), (by repeat (first | exact hs_eq _ _ _ | refine hs_ne (by omega) ?_ | assumption)), (by repeat (first | exact hs_eq _ _ _ | refine hs_ne (by omega) ?_ | assumption)), (by repeat (first | exact hs_eq _ _ _ | refine hs_ne (by omega) ?_ | assumption)), (by repeat (first | exact hs_eq _ _ _ | refine hs_ne (by omega) ?_ | assumption))⟩, fun aaa haa => by repeat (first | rfl | refine hs_ne (by omega) ?_)⟩)
                    | exact Or.inr (Or.inr (⟨by omega, rfl, ⟨(by repeat (first | exact hs_eq _ _ _ | refine hs_ne (by omega) ?_ | assumption)), (by repeat (first | exact hs_eq _ _ _ | refine hs_ne (by omega) ?_ | assumption)), (by repeat (first | exact hs_eq _ _ _ | refine hs_ne (by omega) ?_ | assumption)), (by repeat (first | exact hs_eq _ _ _ | refine hs_ne (by omega) ?_ | assumption)), (by repeat (first | exact hs_eq _ _ _ | refine hs_ne (by omega) ?_ | assumption)), (by repeat (first | exact hs_eq _ _ _ | refine hs_ne (by omega) ?_ | assumption))⟩, fun aaa haa => by repeat (first | rfl | refine hs_ne (by omega) ?_)⟩)))
              · try (exfalso; omega)
                all_goals (
                  refine k_iconst C dX8_weight_36 ?_
                  refine k_goto (tgt := 46) C dX8_weight_37 (by decide) ?_
                  refine k_iret C hr dX8_weight_46 ?_
                  first
                    | exact Or.inl ⟨by omega, rfl, ⟨(by repeat (first | exact hs_eq _ _ _ | refine hs_ne (by omega) ?_ | assumption)), (by repeat (first | exact hs_eq _ _ _ | refine hs_ne (by omega) ?_ | assumption)), (by repeat (first | exact hs_eq _ _ _ | refine hs_ne (by omega) ?_ | assumption)), (by repeat (first | exact hs_eq _ _ _ | refine hs_ne (by omega) ?_ | assumption)), (by repeat (first | exact hs_eq _ _ _ | refine hs_ne (by omega) ?_ | assumption)), (by repeat (first | exact hs_eq _ _ _ | refine hs_ne (by omega) ?_ | assumption))⟩, fun aaa haa => by repeat (first | rfl | refine hs_ne (by omega) ?_)⟩
                    | exact Or.inr (Or.inl ⟨by omega, rfl, ⟨(by repeat (first | exact hs_eq _ _ _ | refine hs_ne (by omega) ?_ | assumption)), (by repeat (first | exact hs_eq _ _ _ | refine hs_ne (by omega) ?_ | assumption)), (by repeat (first | exact hs_eq _ _ _ | refine hs_ne (by omega) ?_ | assumption)), (by repeat (first | exact hs_eq _ _ _ | refine hs_ne (by omega) ?_ | assumption)), (by repeat (first | exact hs_eq _ _ _ | refine hs_ne (by omega) ?_ | assumption)), (by repeat (first | exact hs_eq _ _ _ | refine hs_ne (by omega) ?_ | assumption))⟩, fun aaa haa => by repeat (first | rfl | refine hs_ne (by omega) ?_)⟩)
                    | exact Or.inr (Or.inr (⟨by omega, rfl, ⟨(by repeat (first | exact hs_eq _ _ _ | refine hs_ne (by omega) ?_ | assumption)), (by repeat (first | exact hs_eq _ _ _ | refine hs_ne (by omega) ?_ | assumption)), (by repeat (first | exact hs_eq _ _ _ | refine hs_ne (by omega) ?_ | assumption)), (by repeat (first | exact hs_eq _ _ _ | refine hs_ne (by omega) ?_ | assumption)), (by repeat (first | exact hs_eq _ _ _ | refine hs_ne (by omega) ?_ | assumption)), (by repeat (first | exact hs_eq _ _ _ | refine hs_ne (by omega) ?_ | assumption))⟩, fun aaa haa => by repeat (first | rfl | refine hs_ne (by omega) ?_)⟩)))))
    · try (exfalso; omega)
      all_goals (
        refine k_iconst C dX8_weight_8 ?_
        refine k_goto (tgt := 26) C dX8_weight_9 (by decide) ?_
        refine k_put C (k := 5) inX8 tyX8_ok nmX8 (ci := 8) rfl (by decide) fl_X8_25 rfl (Nat.le_of_ble_eq_true rfl) dX8_weight_26 (by repeat (first | exact hs_eq _ _ _ | refine hs_ne (by omega) ?_ | assumption)) ?_
        refine k_aload_n C dX8_weight_29 rfl ?_
        refine k_get C (k := 5) inX8 (ci := 8) rfl (by decide) fl_X8_25 dX8_weight_30 (by repeat (first | exact hs_eq _ _ _ | refine hs_ne (by omega) ?_ | assumption)) rfl ?_
        refine k_if_le (tgt := 40) C dX8_weight_33 (by decide) ⟨by omega, by omega⟩ (fun c33 => ?_) (fun c33 => ?_)
        · try (exfalso; omega)
          all_goals (
            refine k_aload_n C dX8_weight_40 rfl ?_
            refine k_iload_n C dX8_weight_41 rfl ?_
            refine k_iload_n C dX8_weight_42 rfl ?_
            refine k_callV C (n := 2) (as := [_, _]) (ct_X8_weightNow l D tc base oo zrr hhi htx has hro st ln _ re du hsh _ ⟨(by repeat (first | exact hs_eq _ _ _ | refine hs_ne (by omega) ?_ | assumption)), (by repeat (first | exact hs_eq _ _ _ | refine hs_ne (by omega) ?_ | assumption)), (by repeat (first | exact hs_eq _ _ _ | refine hs_ne (by omega) ?_ | assumption)), (by repeat (first | exact hs_eq _ _ _ | refine hs_ne (by omega) ?_ | assumption)), (by repeat (first | exact hs_eq _ _ _ | refine hs_ne (by omega) ?_ | assumption)), (by repeat (first | exact hs_eq _ _ _ | refine hs_ne (by omega) ?_ | assumption))⟩ _ _ (by omega) (by omega)) ml_X8_146 im_X8_weightNow se_X8_weightNow ini_X8 co_X8_weightNow ⟨rfl, by decide, by decide, by decide +kernel⟩ rfl (ci := 8) rfl (by repeat (first | exact hs_eq _ _ _ | refine hs_ne (by omega) ?_ | assumption)) ⟨by decide, by decide⟩ rfl (Nat.le_of_ble_eq_true rfl) ⟨Nat.zero_le _, Nat.zero_le _⟩ dX8_weight_43 ?_
            rintro _ _ ⟨rfl, rfl⟩
            refine k_iret C hr dX8_weight_46 ?_
            first
              | exact Or.inl ⟨by omega, rfl, ⟨(by repeat (first | exact hs_eq _ _ _ | refine hs_ne (by omega) ?_ | assumption)), (by repeat (first | exact hs_eq _ _ _ | refine hs_ne (by omega) ?_ | assumption)), (by repeat (first | exact hs_eq _ _ _ | refine hs_ne (by omega) ?_ | assumption)), (by repeat (first | exact hs_eq _ _ _ | refine hs_ne (by omega) ?_ | assumption)), (by repeat (first | exact hs_eq _ _ _ | refine hs_ne (by omega) ?_ | assumption)), (by repeat (first | exact hs_eq _ _ _ | refine hs_ne (by omega) ?_ | assumption))⟩, fun aaa haa => by repeat (first | rfl | refine hs_ne (by omega) ?_)⟩
              | exact Or.inr (Or.inl ⟨by omega, rfl, ⟨(by repeat (first | exact hs_eq _ _ _ | refine hs_ne (by omega) ?_ | assumption)), (by repeat (first | exact hs_eq _ _ _ | refine hs_ne (by omega) ?_ | assumption)), (by repeat (first | exact hs_eq _ _ _ | refine hs_ne (by omega) ?_ | assumption)), (by repeat (first | exact hs_eq _ _ _ | refine hs_ne (by omega) ?_ | assumption)), (by repeat (first | exact hs_eq _ _ _ | refine hs_ne (by omega) ?_ | assumption)), (by repeat (first | exact hs_eq _ _ _ | refine hs_ne (by omega) ?_ | assumption))⟩, fun aaa haa => by repeat (first | rfl | refine hs_ne (by omega) ?_)⟩)
              | exact Or.inr (Or.inr (⟨by omega, rfl, ⟨(by repeat (first | exact hs_eq _ _ _ | refine hs_ne (by omega) ?_ | assumption)), (by repeat (first | exact hs_eq _ _ _ | refine hs_ne (by omega) ?_ | assumption)), (by repeat (first | exact hs_eq _ _ _ | refine hs_ne (by omega) ?_ | assumption)), (by repeat (first | exact hs_eq _ _ _ | refine hs_ne (by omega) ?_ | assumption)), (by repeat (first | exact hs_eq _ _ _ | refine hs_ne (by omega) ?_ | assumption)), (by repeat (first | exact hs_eq _ _ _ | refine hs_ne (by omega) ?_ | assumption))⟩, fun aaa haa => by repeat (first | rfl | refine hs_ne (by omega) ?_)⟩)))
        · try (exfalso; omega)
          all_goals (
            refine k_iconst C dX8_weight_36 ?_
            refine k_goto (tgt := 46) C dX8_weight_37 (by decide) ?_
            refine k_iret C hr dX8_weight_46 ?_
            first
              | exact Or.inl ⟨by omega, rfl, ⟨(by repeat (first | exact hs_eq _ _ _ | refine hs_ne (by omega) ?_ | assumption)), (by repeat (first | exact hs_eq _ _ _ | refine hs_ne (by omega) ?_ | assumption)), (by repeat (first | exact hs_eq _ _ _ | refine hs_ne (by omega) ?_ | assumption)), (by repeat (first | exact hs_eq _ _ _ | refine hs_ne (by omega) ?_ | assumption)), (by repeat (first | exact hs_eq _ _ _ | refine hs_ne (by omega) ?_ | assumption)), (by repeat (first | exact hs_eq _ _ _ | refine hs_ne (by omega) ?_ | assumption))⟩, fun aaa haa => by repeat (first | rfl | refine hs_ne (by omega) ?_)⟩
              | exact Or.inr (Or.inl ⟨by omega, rfl, ⟨(by repeat (first | exact hs_eq _ _ _ | refine hs_ne (by omega) ?_ | assumption)), (by repeat (first | exact hs_eq _ _ _ | refine hs_ne (by omega) ?_ | assumption)), (by repeat (first | exact hs_eq _ _ _ | refine hs_ne (by omega) ?_ | assumption)), (by repeat (first | exact hs_eq _ _ _ | refine hs_ne (by omega) ?_ | assumption)), (by repeat (first | exact hs_eq _ _ _ | refine hs_ne (by omega) ?_ | assumption)), (by repeat (first | exact hs_eq _ _ _ | refine hs_ne (by omega) ?_ | assumption))⟩, fun aaa haa => by repeat (first | rfl | refine hs_ne (by omega) ?_)⟩)
              | exact Or.inr (Or.inr (⟨by omega, rfl, ⟨(by repeat (first | exact hs_eq _ _ _ | refine hs_ne (by omega) ?_ | assumption)), (by repeat (first | exact hs_eq _ _ _ | refine hs_ne (by omega) ?_ | assumption)), (by repeat (first | exact hs_eq _ _ _ | refine hs_ne (by omega) ?_ | assumption)), (by repeat (first | exact hs_eq _ _ _ | refine hs_ne (by omega) ?_ | assumption)), (by repeat (first | exact hs_eq _ _ _ | refine hs_ne (by omega) ?_ | assumption)), (by repeat (first | exact hs_eq _ _ _ | refine hs_ne (by omega) ?_ | assumption))⟩, fun aaa haa => by repeat (first | rfl | refine hs_ne (by omega) ?_)⟩))))

set_option maxRecDepth 20000 in
set_option maxHeartbeats 1000000 in
theorem ct_X8_winderNow (l : Launch) (D : va_G) (tc : Nat → ClassId) (base : Nat) (oo : Nat) (zrr hhi htx has hro : Int → Int) (st ln th re du hsh : Int) (hpp : AH) (hM : MA hpp oo zrr hhi htx has hro st ln th re du hsh) (ww qq : Int) (hi : zInv zrr) (hm : zrr 13 ≤ 100000) (hw : 0 ≤ ww ∧ ww < zrr 21) (hq : 0 ≤ qq ∧ qq ≤ 5) : CT l D tc base yX8_winderNow cX8_winderNow 4 (some .int) 2 [aR oo, aI ww, aI qq] hpp (fun r h' => r = some (aI (zWin zrr ww qq)) ∧ hpp = h') := by
  refine CT.of [some (aR oo), some (aI ww), some (aI qq), none] (by decide +kernel) rfl (Nat.le_of_ble_eq_true rfl) ?_
  intro p e s m args below meth c C hr hnm
  obtain ⟨g0, g1, g2, g3, g4, g5⟩ := id hM
  obtain ⟨⟨v0, v1, v2, v9, v10, v11, v12, v13, v21, v52, v61, v62, v63, v64, v65, v66⟩, hwi, hde⟩ := id hi
  refine k_iload_n C dX8_winderNow_0 rfl ?_
  refine k_callS C (n := 1) (as := [_]) (ct_X8_at l D tc base _ _) ml_X8_36 sm_X8_at ini_X8 co_X8_at ⟨by decide, by decide, by decide +kernel⟩ rfl ⟨by decide, by decide⟩ rfl (Nat.le_of_ble_eq_true rfl) ⟨Nat.zero_le _, Nat.zero_le _⟩ dX8_winderNow_1 ?_
  rintro _ _ ⟨rfl, rfl⟩
  refine k_istore_n C dX8_winderNow_4 (by decide) rfl ?_
  refine k_iload_n C dX8_winderNow_5 rfl ?_
  refine k_tsw (dt := 92) C [32, 61, 70] dX8_winderNow_6 ⟨by omega, by omega⟩ (by decide) (by decide) (by decide) (And.intro (fun c6 => ?_) (And.intro (fun c6 => ?_) (And.intro (fun c6 => ?_) trivial))) (fun c6 => ?_)
  · try (exfalso; omega)
    all_goals (
      refine k_aload_n C dX8_winderNow_32 rfl ?_
      refine k_iload_n C dX8_winderNow_33 rfl ?_
      refine k_callV C (n := 1) (as := [_]) (ct_X8_isDue l D tc base oo (oo + 1) _ _ _ (by repeat (first | exact hs_eq _ _ _ | refine hs_ne (by omega) ?_ | assumption)) (by repeat (first | exact hs_eq _ _ _ | refine hs_ne (by omega) ?_ | assumption)) (by omega) _ (by omega) (by omega) hi hm) ml_X8_39 im_X8_isDue se_X8_isDue ini_X8 co_X8_isDue ⟨rfl, by decide, by decide, by decide +kernel⟩ rfl (ci := 8) rfl (by repeat (first | exact hs_eq _ _ _ | refine hs_ne (by omega) ?_ | assumption)) ⟨by decide, by decide⟩ rfl (Nat.le_of_ble_eq_true rfl) ⟨Nat.zero_le _, Nat.zero_le _⟩ dX8_winderNow_34 ?_
      rintro _ _ (⟨rfl, rfl, hdu⟩ | ⟨rfl, rfl, hdu⟩)
      · skip
        refine k_if_eq (tgt := 44) C dX8_winderNow_37 (by decide) ⟨by omega, by omega⟩ (fun c37 => ?_) (fun c37 => ?_)
        · try (exfalso; omega)
          all_goals (
            refine k_aload_n C dX8_winderNow_44 rfl ?_
            refine k_get C (k := 0) inX8 (ci := 8) rfl (by decide) fl_X8_7 dX8_winderNow_45 (by repeat (first | exact hs_eq _ _ _ | refine hs_ne (by omega) ?_ | assumption)) rfl ?_
            refine k_iload_n C dX8_winderNow_48 rfl ?_
            refine k_iconst C dX8_winderNow_49 ?_
            refine k_iadd C dX8_winderNow_50 ?_
            refine k_iaload C dX8_winderNow_51 (by repeat (first | exact hs_eq _ _ _ | refine hs_ne (by omega) ?_ | assumption)) (by omega) (by omega) (by omega) ?_
            refine k_aload_n C dX8_winderNow_52 rfl ?_
            refine k_get C (k := 0) inX8 (ci := 8) rfl (by decide) fl_X8_7 dX8_winderNow_53 (by repeat (first | exact hs_eq _ _ _ | refine hs_ne (by omega) ?_ | assumption)) rfl ?_
            refine k_bipush C dX8_winderNow_56 (by decide +kernel) ?_
            refine k_iaload C dX8_winderNow_58 (by repeat (first | exact hs_eq _ _ _ | refine hs_ne (by omega) ?_ | assumption)) (by omega) (by omega) (by omega) ?_
            refine k_isub C dX8_winderNow_59 ?_
            refine k_iret C hr dX8_winderNow_60 ?_
            refine ⟨?_, rfl⟩
            refine congrArg (fun qq => some (aI qq)) ?_
            unfold zWin
            first
              | rw [if_pos (by omega), if_pos (by assumption)]
              | rw [if_pos (by omega), if_neg (by assumption)]
              | rw [if_neg (by omega), if_pos (by omega)]
              | rw [if_neg (by omega), if_neg (by omega), if_pos (by omega), if_pos (by first | exact And.intro hdu hke)]
              | rw [if_neg (by omega), if_neg (by omega), if_pos (by omega), if_neg (by first | exact fun hh => absurd hh.1 hdu)]
              | rw [if_neg (by omega), if_neg (by omega), if_pos (by omega), if_neg (by first | exact fun hh => absurd hh.2 hke)]
              | rw [if_neg (by omega), if_neg (by omega), if_neg (by omega)])
        · try (exfalso; omega)
          all_goals (
            refine k_iconst C dX8_winderNow_40 ?_
            refine k_goto (tgt := 60) C dX8_winderNow_41 (by decide) ?_
            refine k_iret C hr dX8_winderNow_60 ?_
            refine ⟨?_, rfl⟩
            refine congrArg (fun qq => some (aI qq)) ?_
            unfold zWin
            first
              | rw [if_pos (by omega), if_pos (by assumption)]
              | rw [if_pos (by omega), if_neg (by assumption)]
              | rw [if_neg (by omega), if_pos (by omega)]
              | rw [if_neg (by omega), if_neg (by omega), if_pos (by omega), if_pos (by first | exact And.intro hdu hke)]
              | rw [if_neg (by omega), if_neg (by omega), if_pos (by omega), if_neg (by first | exact fun hh => absurd hh.1 hdu)]
              | rw [if_neg (by omega), if_neg (by omega), if_pos (by omega), if_neg (by first | exact fun hh => absurd hh.2 hke)]
              | rw [if_neg (by omega), if_neg (by omega), if_neg (by omega)])
      · skip
        refine k_if_eq (tgt := 44) C dX8_winderNow_37 (by decide) ⟨by omega, by omega⟩ (fun c37 => ?_) (fun c37 => ?_)
        · try (exfalso; omega)
          all_goals (
            refine k_aload_n C dX8_winderNow_44 rfl ?_
            refine k_get C (k := 0) inX8 (ci := 8) rfl (by decide) fl_X8_7 dX8_winderNow_45 (by repeat (first | exact hs_eq _ _ _ | refine hs_ne (by omega) ?_ | assumption)) rfl ?_
            refine k_iload_n C dX8_winderNow_48 rfl ?_
            refine k_iconst C dX8_winderNow_49 ?_
            refine k_iadd C dX8_winderNow_50 ?_
            refine k_iaload C dX8_winderNow_51 (by repeat (first | exact hs_eq _ _ _ | refine hs_ne (by omega) ?_ | assumption)) (by omega) (by omega) (by omega) ?_
            refine k_aload_n C dX8_winderNow_52 rfl ?_
            refine k_get C (k := 0) inX8 (ci := 8) rfl (by decide) fl_X8_7 dX8_winderNow_53 (by repeat (first | exact hs_eq _ _ _ | refine hs_ne (by omega) ?_ | assumption)) rfl ?_
            refine k_bipush C dX8_winderNow_56 (by decide +kernel) ?_
            refine k_iaload C dX8_winderNow_58 (by repeat (first | exact hs_eq _ _ _ | refine hs_ne (by omega) ?_ | assumption)) (by omega) (by omega) (by omega) ?_
            refine k_isub C dX8_winderNow_59 ?_
            refine k_iret C hr dX8_winderNow_60 ?_
            refine ⟨?_, rfl⟩
            refine congrArg (fun qq => some (aI qq)) ?_
            unfold zWin
            first
              | rw [if_pos (by omega), if_pos (by assumption)]
              | rw [if_pos (by omega), if_neg (by assumption)]
              | rw [if_neg (by omega), if_pos (by omega)]
              | rw [if_neg (by omega), if_neg (by omega), if_pos (by omega), if_pos (by first | exact And.intro hdu hke)]
              | rw [if_neg (by omega), if_neg (by omega), if_pos (by omega), if_neg (by first | exact fun hh => absurd hh.1 hdu)]
              | rw [if_neg (by omega), if_neg (by omega), if_pos (by omega), if_neg (by first | exact fun hh => absurd hh.2 hke)]
              | rw [if_neg (by omega), if_neg (by omega), if_neg (by omega)])
        · try (exfalso; omega)
          all_goals (
            refine k_iconst C dX8_winderNow_40 ?_
            refine k_goto (tgt := 60) C dX8_winderNow_41 (by decide) ?_
            refine k_iret C hr dX8_winderNow_60 ?_
            refine ⟨?_, rfl⟩
            refine congrArg (fun qq => some (aI qq)) ?_
            unfold zWin
            first
              | rw [if_pos (by omega), if_pos (by assumption)]
              | rw [if_pos (by omega), if_neg (by assumption)]
              | rw [if_neg (by omega), if_pos (by omega)]
              | rw [if_neg (by omega), if_neg (by omega), if_pos (by omega), if_pos (by first | exact And.intro hdu hke)]
              | rw [if_neg (by omega), if_neg (by omega), if_pos (by omega), if_neg (by first | exact fun hh => absurd hh.1 hdu)]
              | rw [if_neg (by omega), if_neg (by omega), if_pos (by omega), if_neg (by first | exact fun hh => absurd hh.2 hke)]
              | rw [if_neg (by omega), if_neg (by omega), if_neg (by omega)]))
  · try (exfalso; omega)
    all_goals (
      refine k_aload_n C dX8_winderNow_61 rfl ?_
      refine k_get C (k := 0) inX8 (ci := 8) rfl (by decide) fl_X8_7 dX8_winderNow_62 (by repeat (first | exact hs_eq _ _ _ | refine hs_ne (by omega) ?_ | assumption)) rfl ?_
      refine k_iload_n C dX8_winderNow_65 rfl ?_
      refine k_iconst C dX8_winderNow_66 ?_
      refine k_iadd C dX8_winderNow_67 ?_
      refine k_iaload C dX8_winderNow_68 (by repeat (first | exact hs_eq _ _ _ | refine hs_ne (by omega) ?_ | assumption)) (by omega) (by omega) (by omega) ?_
      refine k_iret C hr dX8_winderNow_69 ?_
      refine ⟨?_, rfl⟩
      refine congrArg (fun qq => some (aI qq)) ?_
      unfold zWin
      first
        | rw [if_pos (by omega), if_pos (by assumption)]
        | rw [if_pos (by omega), if_neg (by assumption)]
        | rw [if_neg (by omega), if_pos (by omega)]
        | rw [if_neg (by omega), if_neg (by omega), if_pos (by omega), if_pos (by first | exact And.intro hdu hke)]
        | rw [if_neg (by omega), if_neg (by omega), if_pos (by omega), if_neg (by first | exact fun hh => absurd hh.1 hdu)]
        | rw [if_neg (by omega), if_neg (by omega), if_pos (by omega), if_neg (by first | exact fun hh => absurd hh.2 hke)]
        | rw [if_neg (by omega), if_neg (by omega), if_neg (by omega)])
  · try (exfalso; omega)
    all_goals (
      refine k_aload_n C dX8_winderNow_70 rfl ?_
      refine k_iload_n C dX8_winderNow_71 rfl ?_
      refine k_callV C (n := 1) (as := [_]) (ct_X8_isDue l D tc base oo (oo + 1) _ _ _ (by repeat (first | exact hs_eq _ _ _ | refine hs_ne (by omega) ?_ | assumption)) (by repeat (first | exact hs_eq _ _ _ | refine hs_ne (by omega) ?_ | assumption)) (by omega) _ (by omega) (by omega) hi hm) ml_X8_39 im_X8_isDue se_X8_isDue ini_X8 co_X8_isDue ⟨rfl, by decide, by decide, by decide +kernel⟩ rfl (ci := 8) rfl (by repeat (first | exact hs_eq _ _ _ | refine hs_ne (by omega) ?_ | assumption)) ⟨by decide, by decide⟩ rfl (Nat.le_of_ble_eq_true rfl) ⟨Nat.zero_le _, Nat.zero_le _⟩ dX8_winderNow_72 ?_
      rintro _ _ (⟨rfl, rfl, hdu⟩ | ⟨rfl, rfl, hdu⟩)
      · skip
        refine k_if_eq (tgt := 90) C dX8_winderNow_75 (by decide) ⟨by omega, by omega⟩ (fun c75 => ?_) (fun c75 => ?_)
        · try (exfalso; omega)
          all_goals (
            refine k_iconst C dX8_winderNow_90 ?_
            refine k_iret C hr dX8_winderNow_91 ?_
            refine ⟨?_, rfl⟩
            refine congrArg (fun qq => some (aI qq)) ?_
            unfold zWin
            first
              | rw [if_pos (by omega), if_pos (by assumption)]
              | rw [if_pos (by omega), if_neg (by assumption)]
              | rw [if_neg (by omega), if_pos (by omega)]
              | rw [if_neg (by omega), if_neg (by omega), if_pos (by omega), if_pos (by first | exact And.intro hdu hke)]
              | rw [if_neg (by omega), if_neg (by omega), if_pos (by omega), if_neg (by first | exact fun hh => absurd hh.1 hdu)]
              | rw [if_neg (by omega), if_neg (by omega), if_pos (by omega), if_neg (by first | exact fun hh => absurd hh.2 hke)]
              | rw [if_neg (by omega), if_neg (by omega), if_neg (by omega)])
        · try (exfalso; omega)
          all_goals (
            refine k_aload_n C dX8_winderNow_78 rfl ?_
            refine k_iload_n C dX8_winderNow_79 rfl ?_
            refine k_callV C (n := 1) (as := [_]) (ct_X8_isKept l D tc base oo (oo + 1) _ _ _ (by repeat (first | exact hs_eq _ _ _ | refine hs_ne (by omega) ?_ | assumption)) (by repeat (first | exact hs_eq _ _ _ | refine hs_ne (by omega) ?_ | assumption)) (by omega) _ (by omega) (by omega) hi) ml_X8_43 im_X8_isKept se_X8_isKept ini_X8 co_X8_isKept ⟨rfl, by decide, by decide, by decide +kernel⟩ rfl (ci := 8) rfl (by repeat (first | exact hs_eq _ _ _ | refine hs_ne (by omega) ?_ | assumption)) ⟨by decide, by decide⟩ rfl (Nat.le_of_ble_eq_true rfl) ⟨Nat.zero_le _, Nat.zero_le _⟩ dX8_winderNow_80 ?_
            rintro _ _ (⟨rfl, rfl, hke⟩ | ⟨rfl, rfl, hke⟩)
            · skip
              refine k_if_eq (tgt := 90) C dX8_winderNow_83 (by decide) ⟨by omega, by omega⟩ (fun c83 => ?_) (fun c83 => ?_)
              · try (exfalso; omega)
                all_goals (
                  refine k_iconst C dX8_winderNow_90 ?_
                  refine k_iret C hr dX8_winderNow_91 ?_
                  refine ⟨?_, rfl⟩
                  refine congrArg (fun qq => some (aI qq)) ?_
                  unfold zWin
                  first
                    | rw [if_pos (by omega), if_pos (by assumption)]
                    | rw [if_pos (by omega), if_neg (by assumption)]
                    | rw [if_neg (by omega), if_pos (by omega)]
                    | rw [if_neg (by omega), if_neg (by omega), if_pos (by omega), if_pos (by first | exact And.intro hdu hke)]
                    | rw [if_neg (by omega), if_neg (by omega), if_pos (by omega), if_neg (by first | exact fun hh => absurd hh.1 hdu)]
                    | rw [if_neg (by omega), if_neg (by omega), if_pos (by omega), if_neg (by first | exact fun hh => absurd hh.2 hke)]
                    | rw [if_neg (by omega), if_neg (by omega), if_neg (by omega)])
              · try (exfalso; omega)
                all_goals (
                  refine k_iconst C dX8_winderNow_86 ?_
                  refine k_goto (tgt := 91) C dX8_winderNow_87 (by decide) ?_
                  refine k_iret C hr dX8_winderNow_91 ?_
                  refine ⟨?_, rfl⟩
                  refine congrArg (fun qq => some (aI qq)) ?_
                  unfold zWin
                  first
                    | rw [if_pos (by omega), if_pos (by assumption)]
                    | rw [if_pos (by omega), if_neg (by assumption)]
                    | rw [if_neg (by omega), if_pos (by omega)]
                    | rw [if_neg (by omega), if_neg (by omega), if_pos (by omega), if_pos (by first | exact And.intro hdu hke)]
                    | rw [if_neg (by omega), if_neg (by omega), if_pos (by omega), if_neg (by first | exact fun hh => absurd hh.1 hdu)]
                    | rw [if_neg (by omega), if_neg (by omega), if_pos (by omega), if_neg (by first | exact fun hh => absurd hh.2 hke)]
                    | rw [if_neg (by omega), if_neg (by omega), if_neg (by omega)])
            · skip
              refine k_if_eq (tgt := 90) C dX8_winderNow_83 (by decide) ⟨by omega, by omega⟩ (fun c83 => ?_) (fun c83 => ?_)
              · try (exfalso; omega)
                all_goals (
                  refine k_iconst C dX8_winderNow_90 ?_
                  refine k_iret C hr dX8_winderNow_91 ?_
                  refine ⟨?_, rfl⟩
                  refine congrArg (fun qq => some (aI qq)) ?_
                  unfold zWin
                  first
                    | rw [if_pos (by omega), if_pos (by assumption)]
                    | rw [if_pos (by omega), if_neg (by assumption)]
                    | rw [if_neg (by omega), if_pos (by omega)]
                    | rw [if_neg (by omega), if_neg (by omega), if_pos (by omega), if_pos (by first | exact And.intro hdu hke)]
                    | rw [if_neg (by omega), if_neg (by omega), if_pos (by omega), if_neg (by first | exact fun hh => absurd hh.1 hdu)]
                    | rw [if_neg (by omega), if_neg (by omega), if_pos (by omega), if_neg (by first | exact fun hh => absurd hh.2 hke)]
                    | rw [if_neg (by omega), if_neg (by omega), if_neg (by omega)])
              · try (exfalso; omega)
                all_goals (
                  refine k_iconst C dX8_winderNow_86 ?_
                  refine k_goto (tgt := 91) C dX8_winderNow_87 (by decide) ?_
                  refine k_iret C hr dX8_winderNow_91 ?_
                  refine ⟨?_, rfl⟩
                  refine congrArg (fun qq => some (aI qq)) ?_
                  unfold zWin
                  first
                    | rw [if_pos (by omega), if_pos (by assumption)]
                    | rw [if_pos (by omega), if_neg (by assumption)]
                    | rw [if_neg (by omega), if_pos (by omega)]
                    | rw [if_neg (by omega), if_neg (by omega), if_pos (by omega), if_pos (by first | exact And.intro hdu hke)]
                    | rw [if_neg (by omega), if_neg (by omega), if_pos (by omega), if_neg (by first | exact fun hh => absurd hh.1 hdu)]
                    | rw [if_neg (by omega), if_neg (by omega), if_pos (by omega), if_neg (by first | exact fun hh => absurd hh.2 hke)]
                    | rw [if_neg (by omega), if_neg (by omega), if_neg (by omega)]))
      · skip
        refine k_if_eq (tgt := 90) C dX8_winderNow_75 (by decide) ⟨by omega, by omega⟩ (fun c75 => ?_) (fun c75 => ?_)
        · try (exfalso; omega)
          all_goals (
            refine k_iconst C dX8_winderNow_90 ?_
            refine k_iret C hr dX8_winderNow_91 ?_
            refine ⟨?_, rfl⟩
            refine congrArg (fun qq => some (aI qq)) ?_
            unfold zWin
            first
              | rw [if_pos (by omega), if_pos (by assumption)]
              | rw [if_pos (by omega), if_neg (by assumption)]
              | rw [if_neg (by omega), if_pos (by omega)]
              | rw [if_neg (by omega), if_neg (by omega), if_pos (by omega), if_pos (by first | exact And.intro hdu hke)]
              | rw [if_neg (by omega), if_neg (by omega), if_pos (by omega), if_neg (by first | exact fun hh => absurd hh.1 hdu)]
              | rw [if_neg (by omega), if_neg (by omega), if_pos (by omega), if_neg (by first | exact fun hh => absurd hh.2 hke)]
              | rw [if_neg (by omega), if_neg (by omega), if_neg (by omega)])
        · try (exfalso; omega)
          all_goals (
            refine k_aload_n C dX8_winderNow_78 rfl ?_
            refine k_iload_n C dX8_winderNow_79 rfl ?_
            refine k_callV C (n := 1) (as := [_]) (ct_X8_isKept l D tc base oo (oo + 1) _ _ _ (by repeat (first | exact hs_eq _ _ _ | refine hs_ne (by omega) ?_ | assumption)) (by repeat (first | exact hs_eq _ _ _ | refine hs_ne (by omega) ?_ | assumption)) (by omega) _ (by omega) (by omega) hi) ml_X8_43 im_X8_isKept se_X8_isKept ini_X8 co_X8_isKept ⟨rfl, by decide, by decide, by decide +kernel⟩ rfl (ci := 8) rfl (by repeat (first | exact hs_eq _ _ _ | refine hs_ne (by omega) ?_ | assumption)) ⟨by decide, by decide⟩ rfl (Nat.le_of_ble_eq_true rfl) ⟨Nat.zero_le _, Nat.zero_le _⟩ dX8_winderNow_80 ?_
            rintro _ _ (⟨rfl, rfl, hke⟩ | ⟨rfl, rfl, hke⟩)
            · skip
              refine k_if_eq (tgt := 90) C dX8_winderNow_83 (by decide) ⟨by omega, by omega⟩ (fun c83 => ?_) (fun c83 => ?_)
              · try (exfalso; omega)
                all_goals (
                  refine k_iconst C dX8_winderNow_90 ?_
                  refine k_iret C hr dX8_winderNow_91 ?_
                  refine ⟨?_, rfl⟩
                  refine congrArg (fun qq => some (aI qq)) ?_
                  unfold zWin
                  first
                    | rw [if_pos (by omega), if_pos (by assumption)]
                    | rw [if_pos (by omega), if_neg (by assumption)]
                    | rw [if_neg (by omega), if_pos (by omega)]
                    | rw [if_neg (by omega), if_neg (by omega), if_pos (by omega), if_pos (by first | exact And.intro hdu hke)]
                    | rw [if_neg (by omega), if_neg (by omega), if_pos (by omega), if_neg (by first | exact fun hh => absurd hh.1 hdu)]
                    | rw [if_neg (by omega), if_neg (by omega), if_pos (by omega), if_neg (by first | exact fun hh => absurd hh.2 hke)]
                    | rw [if_neg (by omega), if_neg (by omega), if_neg (by omega)])
              · try (exfalso; omega)
                all_goals (
                  refine k_iconst C dX8_winderNow_86 ?_
                  refine k_goto (tgt := 91) C dX8_winderNow_87 (by decide) ?_
                  refine k_iret C hr dX8_winderNow_91 ?_
                  refine ⟨?_, rfl⟩
                  refine congrArg (fun qq => some (aI qq)) ?_
                  unfold zWin
                  first
                    | rw [if_pos (by omega), if_pos (by assumption)]
                    | rw [if_pos (by omega), if_neg (by assumption)]
                    | rw [if_neg (by omega), if_pos (by omega)]
                    | rw [if_neg (by omega), if_neg (by omega), if_pos (by omega), if_pos (by first | exact And.intro hdu hke)]
                    | rw [if_neg (by omega), if_neg (by omega), if_pos (by omega), if_neg (by first | exact fun hh => absurd hh.1 hdu)]
                    | rw [if_neg (by omega), if_neg (by omega), if_pos (by omega), if_neg (by first | exact fun hh => absurd hh.2 hke)]
                    | rw [if_neg (by omega), if_neg (by omega), if_neg (by omega)])
            · skip
              refine k_if_eq (tgt := 90) C dX8_winderNow_83 (by decide) ⟨by omega, by omega⟩ (fun c83 => ?_) (fun c83 => ?_)
              · try (exfalso; omega)
                all_goals (
                  refine k_iconst C dX8_winderNow_90 ?_
                  refine k_iret C hr dX8_winderNow_91 ?_
                  refine ⟨?_, rfl⟩
                  refine congrArg (fun qq => some (aI qq)) ?_
                  unfold zWin
                  first
                    | rw [if_pos (by omega), if_pos (by assumption)]
                    | rw [if_pos (by omega), if_neg (by assumption)]
                    | rw [if_neg (by omega), if_pos (by omega)]
                    | rw [if_neg (by omega), if_neg (by omega), if_pos (by omega), if_pos (by first | exact And.intro hdu hke)]
                    | rw [if_neg (by omega), if_neg (by omega), if_pos (by omega), if_neg (by first | exact fun hh => absurd hh.1 hdu)]
                    | rw [if_neg (by omega), if_neg (by omega), if_pos (by omega), if_neg (by first | exact fun hh => absurd hh.2 hke)]
                    | rw [if_neg (by omega), if_neg (by omega), if_neg (by omega)])
              · try (exfalso; omega)
                all_goals (
                  refine k_iconst C dX8_winderNow_86 ?_
                  refine k_goto (tgt := 91) C dX8_winderNow_87 (by decide) ?_
                  refine k_iret C hr dX8_winderNow_91 ?_
                  refine ⟨?_, rfl⟩
                  refine congrArg (fun qq => some (aI qq)) ?_
                  unfold zWin
                  first
                    | rw [if_pos (by omega), if_pos (by assumption)]
                    | rw [if_pos (by omega), if_neg (by assumption)]
                    | rw [if_neg (by omega), if_pos (by omega)]
                    | rw [if_neg (by omega), if_neg (by omega), if_pos (by omega), if_pos (by first | exact And.intro hdu hke)]
                    | rw [if_neg (by omega), if_neg (by omega), if_pos (by omega), if_neg (by first | exact fun hh => absurd hh.1 hdu)]
                    | rw [if_neg (by omega), if_neg (by omega), if_pos (by omega), if_neg (by first | exact fun hh => absurd hh.2 hke)]
                    | rw [if_neg (by omega), if_neg (by omega), if_neg (by omega)])))
  · try (exfalso; omega)
    all_goals (
      refine k_aload_n C dX8_winderNow_92 rfl ?_
      refine k_get C (k := 0) inX8 (ci := 8) rfl (by decide) fl_X8_7 dX8_winderNow_93 (by repeat (first | exact hs_eq _ _ _ | refine hs_ne (by omega) ?_ | assumption)) rfl ?_
      refine k_iload_n C dX8_winderNow_96 rfl ?_
      refine k_iload_n C dX8_winderNow_97 rfl ?_
      refine k_iadd C dX8_winderNow_98 ?_
      refine k_iaload C dX8_winderNow_99 (by repeat (first | exact hs_eq _ _ _ | refine hs_ne (by omega) ?_ | assumption)) (by omega) (by omega) (by omega) ?_
      refine k_iret C hr dX8_winderNow_100 ?_
      refine ⟨?_, rfl⟩
      refine congrArg (fun qq => some (aI qq)) ?_
      unfold zWin
      first
        | rw [if_pos (by omega), if_pos (by assumption)]
        | rw [if_pos (by omega), if_neg (by assumption)]
        | rw [if_neg (by omega), if_pos (by omega)]
        | rw [if_neg (by omega), if_neg (by omega), if_pos (by omega), if_pos (by first | exact And.intro hdu hke)]
        | rw [if_neg (by omega), if_neg (by omega), if_pos (by omega), if_neg (by first | exact fun hh => absurd hh.1 hdu)]
        | rw [if_neg (by omega), if_neg (by omega), if_pos (by omega), if_neg (by first | exact fun hh => absurd hh.2 hke)]
        | rw [if_neg (by omega), if_neg (by omega), if_neg (by omega)])

set_option maxRecDepth 20000 in
set_option maxHeartbeats 1000000 in
theorem ct_X8_winder (l : Launch) (D : va_G) (tc : Nat → ClassId) (base : Nat) (oo : Nat) (zrr hhi htx has hro : Int → Int) (st ln th re du hsh : Int) (hpp : AH) (hM : MA hpp oo zrr hhi htx has hro st ln th re du hsh) (ww qq : Int) (hi : zInv zrr) (hm : zrr 13 ≤ 100000) (hw : r32 ww) (hqq : r32 qq) : CT l D tc base yX8_winder cX8_winder 3 (some .int) 3 [aR oo, aI ww, aI qq] hpp (fun r h' => (((0 ≤ ww ∧ ww < zrr 21) ∧ (0 ≤ qq ∧ qq ≤ 5)) ∧ r = some (aI (zWin zrr ww qq)) ∧ MA h' oo (zrr) (hhi) (htx) (has) (hro) (st) (ln) (0) (re) (du) (hsh) ∧ Fr hpp h' oo 6) ∨ (¬ (0 ≤ ww ∧ ww < zrr 21) ∧ r = some (aI (0)) ∧ MA h' oo (zrr) (hhi) (htx) (has) (hro) (st) (ln) (1) (re) (du) (hsh) ∧ Fr hpp h' oo 6) ∨ (((0 ≤ ww ∧ ww < zrr 21) ∧ ¬ (0 ≤ qq ∧ qq ≤ 5)) ∧ r = some (aI (0)) ∧ MA h' oo (zrr) (hhi) (htx) (has) (hro) (st) (ln) (2) (re) (du) (hsh) ∧ Fr hpp h' oo 6)) := by
  refine CT.of [some (aR oo), some (aI ww), some (aI qq)] (by decide +kernel) rfl (Nat.le_of_ble_eq_true rfl) ?_
  intro p e s m args below meth c C hr hnm
  obtain ⟨g0, g1, g2, g3, g4, g5⟩ := id hM
  refine k_aload_n C dX8_winder_0 rfl ?_
  refine k_aload_n C dX8_winder_1 rfl ?_
  refine k_iload_n C dX8_winder_2 rfl ?_
  refine k_callV C (n := 1) (as := [_]) (ct_X8_isWinder l D tc base oo zrr hhi htx has hro st ln _ re du hsh _ ⟨(by repeat (first | exact hs_eq _ _ _ | refine hs_ne (by omega) ?_ | assumption)), (by repeat (first | exact hs_eq _ _ _ | refine hs_ne (by omega) ?_ | assumption)), (by repeat (first | exact hs_eq _ _ _ | refine hs_ne (by omega) ?_ | assumption)), (by repeat (first | exact hs_eq _ _ _ | refine hs_ne (by omega) ?_ | assumption)), (by repeat (first | exact hs_eq _ _ _ | refine hs_ne (by omega) ?_ | assumption)), (by repeat (first | exact hs_eq _ _ _ | refine hs_ne (by omega) ?_ | assumption))⟩ _ hw hi) ml_X8_119 im_X8_isWinder se_X8_isWinder ini_X8 co_X8_isWinder ⟨rfl, by decide, by decide, by decide +kernel⟩ rfl (ci := 8) rfl (by repeat (first | exact hs_eq _ _ _ | refine hs_ne (by omega) ?_ | assumption)) ⟨by decide, by decide⟩ rfl (Nat.le_of_ble_eq_true rfl) ⟨Nat.zero_le _, Nat.zero_le _⟩ dX8_winder_3 ?_
  rintro _ _ (⟨rfl, rfl, hq1, hq2⟩ | ⟨rfl, rfl, hq1⟩)
  · skip
    refine k_if_ne (tgt := 13) C dX8_winder_6 (by decide) ⟨by omega, by omega⟩ (fun c6 => ?_) (fun c6 => ?_)
    · try (exfalso; omega)
      all_goals (
        refine k_iload_n C dX8_winder_13 rfl ?_
        refine k_iconst C dX8_winder_14 ?_
        refine k_iconst C dX8_winder_15 ?_
        refine k_callS C (n := 3) (as := [_, _, _]) (ct_X8_within l D tc base _ _ _ _ hqq ⟨by omega, by omega⟩ ⟨by omega, by omega⟩) ml_X8_92 sm_X8_within ini_X8 co_X8_within ⟨by decide, by decide, by decide +kernel⟩ rfl ⟨by decide, by decide⟩ rfl (Nat.le_of_ble_eq_true rfl) ⟨Nat.zero_le _, Nat.zero_le _⟩ dX8_winder_16 ?_
        rintro _ _ (⟨rfl, rfl, hq16⟩ | ⟨rfl, rfl, hq16⟩)
        · skip
          refine k_if_eq (tgt := 26) C dX8_winder_19 (by decide) ⟨by omega, by omega⟩ (fun c19 => ?_) (fun c19 => ?_)
          · try (exfalso; omega)
            all_goals (
              refine k_iconst C dX8_winder_26 ?_
              refine k_put C (k := 5) inX8 tyX8_ok nmX8 (ci := 8) rfl (by decide) fl_X8_25 rfl (Nat.le_of_ble_eq_true rfl) dX8_winder_27 (by repeat (first | exact hs_eq _ _ _ | refine hs_ne (by omega) ?_ | assumption)) ?_
              refine k_aload_n C dX8_winder_30 rfl ?_
              refine k_get C (k := 5) inX8 (ci := 8) rfl (by decide) fl_X8_25 dX8_winder_31 (by repeat (first | exact hs_eq _ _ _ | refine hs_ne (by omega) ?_ | assumption)) rfl ?_
              refine k_if_le (tgt := 41) C dX8_winder_34 (by decide) ⟨by omega, by omega⟩ (fun c34 => ?_) (fun c34 => ?_)
              · try (exfalso; omega)
                all_goals (
                  refine k_aload_n C dX8_winder_41 rfl ?_
                  refine k_iload_n C dX8_winder_42 rfl ?_
                  refine k_iload_n C dX8_winder_43 rfl ?_
                  refine k_callV C (n := 2) (as := [_, _]) (ct_X8_winderNow l D tc base oo zrr hhi htx has hro st ln _ re du hsh _ ⟨(by repeat (first | exact hs_eq _ _ _ | refine hs_ne (by omega) ?_ | assumption)), (by repeat (first | exact hs_eq _ _ _ | refine hs_ne (by omega) ?_ | assumption)), (by repeat (first | exact hs_eq _ _ _ | refine hs_ne (by omega) ?_ | assumption)), (by repeat (first | exact hs_eq _ _ _ | refine hs_ne (by omega) ?_ | assumption)), (by repeat (first | exact hs_eq _ _ _ | refine hs_ne (by omega) ?_ | assumption)), (by repeat (first | exact hs_eq _ _ _ | refine hs_ne (by omega) ?_ | assumption))⟩ _ _ hi hm (by omega) (by omega)) ml_X8_149 im_X8_winderNow se_X8_winderNow ini_X8 co_X8_winderNow ⟨rfl, by decide, by decide, by decide +kernel⟩ rfl (ci := 8) rfl (by repeat (first | exact hs_eq _ _ _ | refine hs_ne (by omega) ?_ | assumption)) ⟨by decide, by decide⟩ rfl (Nat.le_of_ble_eq_true rfl) ⟨Nat.zero_le _, Nat.zero_le _⟩ dX8_winder_44 ?_
                  rintro _ _ ⟨rfl, rfl⟩
                  refine k_iret C hr dX8_winder_47 ?_
                  first
                    | exact Or.inl ⟨by omega, rfl, ⟨(by repeat (first | exact hs_eq _ _ _ | refine hs_ne (by omega) ?_ | assumption)), (by repeat (first | exact hs_eq _ _ _ | refine hs_ne (by omega) ?_ | assumption)), (by repeat (first | exact hs_eq _ _ _ | refine hs_ne (by omega) ?_ | assumption)), (by repeat (first | exact hs_eq _ _ _ | refine hs_ne (by omega) ?_ | assumption)), (by repeat (first | exact hs_eq _ _ _ | refine hs_ne (by omega) ?_ | assumption)), (by repeat (first | exact hs_eq _ _ _ | refine hs_ne (by omega) ?_ | assumption))⟩, fun aaa haa => by repeat (first | rfl | refine hs_ne (by omega) ?_)⟩
                    | exact Or.inr (Or.inl ⟨by omega, rfl, ⟨(by repeat (first | exact hs_eq _ _ _ | refine hs_ne (by omega) ?_ | assumption)), (by repeat (first | exact hs_eq _ _ _ | refine hs_ne (by omega) ?_ | assumption)), (by repeat (first | exact hs_eq _ _ _ | refine hs_ne (by omega) ?_ | assumption)), (by repeat (first | exact hs_eq _ _ _ | refine hs_ne (by omega) ?_ | assumption)), (by repeat (first | exact hs_eq _ _ _ | refine hs_ne (by omega) ?_ | assumption)), (by repeat (first | exact hs_eq _ _ _ | refine hs_ne (by omega) ?_ | assumption))⟩, fun aaa haa => by repeat (first | rfl | refine hs_ne (by omega) ?_)⟩)
                    | exact Or.inr (Or.inr (⟨by omega, rfl, ⟨(by repeat (first | exact hs_eq _ _ _ | refine hs_ne (by omega) ?_ | assumption)), (by repeat (first | exact hs_eq _ _ _ | refine hs_ne (by omega) ?_ | assumption)), (by repeat (first | exact hs_eq _ _ _ | refine hs_ne (by omega) ?_ | assumption)), (by repeat (first | exact hs_eq _ _ _ | refine hs_ne (by omega) ?_ | assumption)), (by repeat (first | exact hs_eq _ _ _ | refine hs_ne (by omega) ?_ | assumption)), (by repeat (first | exact hs_eq _ _ _ | refine hs_ne (by omega) ?_ | assumption))⟩, fun aaa haa => by repeat (first | rfl | refine hs_ne (by omega) ?_)⟩)))
              · try (exfalso; omega)
                all_goals (
                  refine k_iconst C dX8_winder_37 ?_
                  refine k_goto (tgt := 47) C dX8_winder_38 (by decide) ?_
                  refine k_iret C hr dX8_winder_47 ?_
                  first
                    | exact Or.inl ⟨by omega, rfl, ⟨(by repeat (first | exact hs_eq _ _ _ | refine hs_ne (by omega) ?_ | assumption)), (by repeat (first | exact hs_eq _ _ _ | refine hs_ne (by omega) ?_ | assumption)), (by repeat (first | exact hs_eq _ _ _ | refine hs_ne (by omega) ?_ | assumption)), (by repeat (first | exact hs_eq _ _ _ | refine hs_ne (by omega) ?_ | assumption)), (by repeat (first | exact hs_eq _ _ _ | refine hs_ne (by omega) ?_ | assumption)), (by repeat (first | exact hs_eq _ _ _ | refine hs_ne (by omega) ?_ | assumption))⟩, fun aaa haa => by repeat (first | rfl | refine hs_ne (by omega) ?_)⟩
                    | exact Or.inr (Or.inl ⟨by omega, rfl, ⟨(by repeat (first | exact hs_eq _ _ _ | refine hs_ne (by omega) ?_ | assumption)), (by repeat (first | exact hs_eq _ _ _ | refine hs_ne (by omega) ?_ | assumption)), (by repeat (first | exact hs_eq _ _ _ | refine hs_ne (by omega) ?_ | assumption)), (by repeat (first | exact hs_eq _ _ _ | refine hs_ne (by omega) ?_ | assumption)), (by repeat (first | exact hs_eq _ _ _ | refine hs_ne (by omega) ?_ | assumption)), (by repeat (first | exact hs_eq _ _ _ | refine hs_ne (by omega) ?_ | assumption))⟩, fun aaa haa => by repeat (first | rfl | refine hs_ne (by omega) ?_)⟩)
                    | exact Or.inr (Or.inr (⟨by omega, rfl, ⟨(by repeat (first | exact hs_eq _ _ _ | refine hs_ne (by omega) ?_ | assumption)), (by repeat (first | exact hs_eq _ _ _ | refine hs_ne (by omega) ?_ | assumption)), (by repeat (first | exact hs_eq _ _ _ | refine hs_ne (by omega) ?_ | assumption)), (by repeat (first | exact hs_eq _ _ _ | refine hs_ne (by omega) ?_ | assumption)), (by repeat (first | exact hs_eq _ _ _ | refine hs_ne (by omega) ?_ | assumption)), (by repeat (first | exact hs_eq _ _ _ | refine hs_ne (by omega) ?_ | assumption))⟩, fun aaa haa => by repeat (first | rfl | refine hs_ne (by omega) ?_)⟩))))
          · try (exfalso; omega)
            all_goals (
              refine k_iconst C dX8_winder_22 ?_
              refine k_goto (tgt := 27) C dX8_winder_23 (by decide) ?_
              refine k_put C (k := 5) inX8 tyX8_ok nmX8 (ci := 8) rfl (by decide) fl_X8_25 rfl (Nat.le_of_ble_eq_true rfl) dX8_winder_27 (by repeat (first | exact hs_eq _ _ _ | refine hs_ne (by omega) ?_ | assumption)) ?_
              refine k_aload_n C dX8_winder_30 rfl ?_
              refine k_get C (k := 5) inX8 (ci := 8) rfl (by decide) fl_X8_25 dX8_winder_31 (by repeat (first | exact hs_eq _ _ _ | refine hs_ne (by omega) ?_ | assumption)) rfl ?_
              refine k_if_le (tgt := 41) C dX8_winder_34 (by decide) ⟨by omega, by omega⟩ (fun c34 => ?_) (fun c34 => ?_)
              · try (exfalso; omega)
                all_goals (
                  refine k_aload_n C dX8_winder_41 rfl ?_
                  refine k_iload_n C dX8_winder_42 rfl ?_
                  refine k_iload_n C dX8_winder_43 rfl ?_
                  refine k_callV C (n := 2) (as := [_, _]) (ct_X8_winderNow l D tc base oo zrr hhi htx has hro st ln _ re du hsh _ ⟨(by repeat (first | exact hs_eq _ _ _ | refine hs_ne (by omega) ?_ | assumption)), (by repeat (first | exact hs_eq _ _ _ | refine hs_ne (by omega) ?_ | assumption)), (by repeat (first | exact hs_eq _ _ _ | refine hs_ne (by omega) ?_ | assumption)), (by repeat (first | exact hs_eq _ _ _ | refine hs_ne (by omega) ?_ | assumption)), (by repeat (first | exact hs_eq _ _ _ | refine hs_ne (by omega) ?_ | assumption)), (by repeat (first | exact hs_eq _ _ _ | refine hs_ne (by omega) ?_ | assumption))⟩ _ _ hi hm (by omega) (by omega)) ml_X8_149 im_X8_winderNow se_X8_winderNow ini_X8 co_X8_winderNow ⟨rfl, by decide, by decide, by decide +kernel⟩ rfl (ci := 8) rfl (by repeat (first | exact hs_eq _ _ _ | refine hs_ne (by omega) ?_ | assumption)) ⟨by decide, by decide⟩ rfl (Nat.le_of_ble_eq_true rfl) ⟨Nat.zero_le _, Nat.zero_le _⟩ dX8_winder_44 ?_
                  rintro _ _ ⟨rfl, rfl⟩
                  refine k_iret C hr dX8_winder_47 ?_
                  first
                    | exact Or.inl ⟨by omega, rfl, ⟨(by repeat (first | exact hs_eq _ _ _ | refine hs_ne (by omega) ?_ | assumption)), (by repeat (first | exact hs_eq _ _ _ | refine hs_ne (by omega) ?_ | assumption)), (by repeat (first | exact hs_eq _ _ _ | refine hs_ne (by omega) ?_ | assumption)), (by repeat (first | exact hs_eq _ _ _ | refine hs_ne (by omega) ?_ | assumption)), (by repeat (first | exact hs_eq _ _ _ | refine hs_ne (by omega) ?_ | assumption)), (by repeat (first | exact hs_eq _ _ _ | refine hs_ne (by omega) ?_ | assumption))⟩, fun aaa haa => by repeat (first | rfl | refine hs_ne (by omega) ?_)⟩
                    | exact Or.inr (Or.inl ⟨by omega, rfl, ⟨(by repeat (first | exact hs_eq _ _ _ | refine hs_ne (by omega) ?_ | assumption)), (by repeat (first | exact hs_eq _ _ _ | refine hs_ne (by omega) ?_ | assumption)), (by repeat (first | exact hs_eq _ _ _ | refine hs_ne (by omega) ?_ | assumption)), (by repeat (first | exact hs_eq _ _ _ | refine hs_ne (by omega) ?_ | assumption)), (by repeat (first | exact hs_eq _ _ _ | refine hs_ne (by omega) ?_ | assumption)), (by repeat (first | exact hs_eq _ _ _ | refine hs_ne (by omega) ?_ | assumption))⟩, fun aaa haa => by repeat (first | rfl | refine hs_ne (by omega) ?_)⟩)
                    | exact Or.inr (Or.inr (⟨by omega, rfl, ⟨(by repeat (first | exact hs_eq _ _ _ | refine hs_ne (by omega) ?_ | assumption)), (by repeat (first | exact hs_eq _ _ _ | refine hs_ne (by omega) ?_ | assumption)), (by repeat (first | exact hs_eq _ _ _ | refine hs_ne (by omega) ?_ | assumption)), (by repeat (first | exact hs_eq _ _ _ | refine hs_ne (by omega) ?_ | assumption)), (by repeat (first | exact hs_eq _ _ _ | refine hs_ne (by omega) ?_ | assumption)), (by repeat (first | exact hs_eq _ _ _ | refine hs_ne (by omega) ?_ | assumption))⟩, fun aaa haa => by repeat (first | rfl | refine hs_ne (by omega) ?_)⟩)))
              · try (exfalso; omega)
                all_goals (
                  refine k_iconst C dX8_winder_37 ?_
                  refine k_goto (tgt := 47) C dX8_winder_38 (by decide) ?_
                  refine k_iret C hr dX8_winder_47 ?_
                  first
                    | exact Or.inl ⟨by omega, rfl, ⟨(by repeat (first | exact hs_eq _ _ _ | refine hs_ne (by omega) ?_ | assumption)), (by repeat (first | exact hs_eq _ _ _ | refine hs_ne (by omega) ?_ | assumption)), (by repeat (first | exact hs_eq _ _ _ | refine hs_ne (by omega) ?_ | assumption)), (by repeat (first | exact hs_eq _ _ _ | refine hs_ne (by omega) ?_ | assumption)), (by repeat (first | exact hs_eq _ _ _ | refine hs_ne (by omega) ?_ | assumption)), (by repeat (first | exact hs_eq _ _ _ | refine hs_ne (by omega) ?_ | assumption))⟩, fun aaa haa => by repeat (first | rfl | refine hs_ne (by omega) ?_)⟩
                    | exact Or.inr (Or.inl ⟨by omega, rfl, ⟨(by repeat (first | exact hs_eq _ _ _ | refine hs_ne (by omega) ?_ | assumption)), (by repeat (first | exact hs_eq _ _ _ | refine hs_ne (by omega) ?_ | assumption)), (by repeat (first | exact hs_eq _ _ _ | refine hs_ne (by omega) ?_ | assumption)), (by repeat (first | exact hs_eq _ _ _ | refine hs_ne (by omega) ?_ | assumption)), (by repeat (first | exact hs_eq _ _ _ | refine hs_ne (by omega) ?_ | assumption)), (by repeat (first | exact hs_eq _ _ _ | refine hs_ne (by omega) ?_ | assumption))⟩, fun aaa haa => by repeat (first | rfl | refine hs_ne (by omega) ?_)⟩)
                    | exact Or.inr (Or.inr (⟨by omega, rfl, ⟨(by repeat (first | exact hs_eq _ _ _ | refine hs_ne (by omega) ?_ | assumption)), (by repeat (first | exact hs_eq _ _ _ | refine hs_ne (by omega) ?_ | assumption)), (by repeat (first | exact hs_eq _ _ _ | refine hs_ne (by omega) ?_ | assumption)), (by repeat (first | exact hs_eq _ _ _ | refine hs_ne (by omega) ?_ | assumption)), (by repeat (first | exact hs_eq _ _ _ | refine hs_ne (by omega) ?_ | assumption)), (by repeat (first | exact hs_eq _ _ _ | refine hs_ne (by omega) ?_ | assumption))⟩, fun aaa haa => by repeat (first | rfl | refine hs_ne (by omega) ?_)⟩))))
        · skip
          refine k_if_eq (tgt := 26) C dX8_winder_19 (by decide) ⟨by omega, by omega⟩ (fun c19 => ?_) (fun c19 => ?_)
          · try (exfalso; omega)
            all_goals (
              refine k_iconst C dX8_winder_26 ?_
              refine k_put C (k := 5) inX8 tyX8_ok nmX8 (ci := 8) rfl (by decide) fl_X8_25 rfl (Nat.le_of_ble_eq_true rfl) dX8_winder_27 (by repeat (first | exact hs_eq _ _ _ | refine hs_ne (by omega) ?_ | assumption)) ?_
              refine k_aload_n C dX8_winder_30 rfl ?_
              refine k_get C (k := 5) inX8 (ci := 8) rfl (by decide) fl_X8_25 dX8_winder_31 (by repeat (first | exact hs_eq _ _ _ | refine hs_ne (by omega) ?_ | assumption)) rfl ?_
              refine k_if_le (tgt := 41) C dX8_winder_34 (by decide) ⟨by omega, by omega⟩ (fun c34 => ?_) (fun c34 => ?_)
              · try (exfalso; omega)
                all_goals (
                  refine k_aload_n C dX8_winder_41 rfl ?_
                  refine k_iload_n C dX8_winder_42 rfl ?_
                  refine k_iload_n C dX8_winder_43 rfl ?_
                  refine k_callV C (n := 2) (as := [_, _]) (ct_X8_winderNow l D tc base oo zrr hhi htx has hro st ln _ re du hsh _ ⟨(by repeat (first | exact hs_eq _ _ _ | refine hs_ne (by omega) ?_ | assumption)), (by repeat (first | exact hs_eq _ _ _ | refine hs_ne (by omega) ?_ | assumption)), (by repeat (first | exact hs_eq _ _ _ | refine hs_ne (by omega) ?_ | assumption)), (by repeat (first | exact hs_eq _ _ _ | refine hs_ne (by omega) ?_ | assumption)), (by repeat (first | exact hs_eq _ _ _ | refine hs_ne (by omega) ?_ | assumption)), (by repeat (first | exact hs_eq _ _ _ | refine hs_ne (by omega) ?_ | assumption))⟩ _ _ hi hm (by omega) (by omega)) ml_X8_149 im_X8_winderNow se_X8_winderNow ini_X8 co_X8_winderNow ⟨rfl, by decide, by decide, by decide +kernel⟩ rfl (ci := 8) rfl (by repeat (first | exact hs_eq _ _ _ | refine hs_ne (by omega) ?_ | assumption)) ⟨by decide, by decide⟩ rfl (Nat.le_of_ble_eq_true rfl) ⟨Nat.zero_le _, Nat.zero_le _⟩ dX8_winder_44 ?_
                  rintro _ _ ⟨rfl, rfl⟩
                  refine k_iret C hr dX8_winder_47 ?_
                  first
                    | exact Or.inl ⟨by omega, rfl, ⟨(by repeat (first | exact hs_eq _ _ _ | refine hs_ne (by omega) ?_ | assumption)), (by repeat (first | exact hs_eq _ _ _ | refine hs_ne (by omega) ?_ | assumption)), (by repeat (first | exact hs_eq _ _ _ | refine hs_ne (by omega) ?_ | assumption)), (by repeat (first | exact hs_eq _ _ _ | refine hs_ne (by omega) ?_ | assumption)), (by repeat (first | exact hs_eq _ _ _ | refine hs_ne (by omega) ?_ | assumption)), (by repeat (first | exact hs_eq _ _ _ | refine hs_ne (by omega) ?_ | assumption))⟩, fun aaa haa => by repeat (first | rfl | refine hs_ne (by omega) ?_)⟩
                    | exact Or.inr (Or.inl ⟨by omega, rfl, ⟨(by repeat (first | exact hs_eq _ _ _ | refine hs_ne (by omega) ?_ | assumption)), (by repeat (first | exact hs_eq _ _ _ | refine hs_ne (by omega) ?_ | assumption)), (by repeat (first | exact hs_eq _ _ _ | refine hs_ne (by omega) ?_ | assumption)), (by repeat (first | exact hs_eq _ _ _ | refine hs_ne (by omega) ?_ | assumption)), (by repeat (first | exact hs_eq _ _ _ | refine hs_ne (by omega) ?_ | assumption)), (by repeat (first | exact hs_eq _ _ _ | refine hs_ne (by omega) ?_ | assumption))⟩, fun aaa haa => by repeat (first | rfl | refine hs_ne (by omega) ?_)⟩)
                    | exact Or.inr (Or.inr (⟨by omega, rfl, ⟨(by repeat (first | exact hs_eq _ _ _ | refine hs_ne (by omega) ?_ | assumption)), (by repeat (first | exact hs_eq _ _ _ | refine hs_ne (by omega) ?_ | assumption)), (by repeat (first | exact hs_eq _ _ _ | refine hs_ne (by omega) ?_ | assumption)), (by repeat (first | exact hs_eq _ _ _ | refine hs_ne (by omega) ?_ | assumption)), (by repeat (first | exact hs_eq _ _ _ | refine hs_ne (by omega) ?_ | assumption)), (by repeat (first | exact hs_eq _ _ _ | refine hs_ne (by omega) ?_ | assumption))⟩, fun aaa haa => by repeat (first | rfl | refine hs_ne (by omega) ?_)⟩)))
              · try (exfalso; omega)
                all_goals (
                  refine k_iconst C dX8_winder_37 ?_
                  refine k_goto (tgt := 47) C dX8_winder_38 (by decide) ?_
                  refine k_iret C hr dX8_winder_47 ?_
                  first
                    | exact Or.inl ⟨by omega, rfl, ⟨(by repeat (first | exact hs_eq _ _ _ | refine hs_ne (by omega) ?_ | assumption)), (by repeat (first | exact hs_eq _ _ _ | refine hs_ne (by omega) ?_ | assumption)), (by repeat (first | exact hs_eq _ _ _ | refine hs_ne (by omega) ?_ | assumption)), (by repeat (first | exact hs_eq _ _ _ | refine hs_ne (by omega) ?_ | assumption)), (by repeat (first | exact hs_eq _ _ _ | refine hs_ne (by omega) ?_ | assumption)), (by repeat (first | exact hs_eq _ _ _ | refine hs_ne (by omega) ?_ | assumption))⟩, fun aaa haa => by repeat (first | rfl | refine hs_ne (by omega) ?_)⟩
                    | exact Or.inr (Or.inl ⟨by omega, rfl, ⟨(by repeat (first | exact hs_eq _ _ _ | refine hs_ne (by omega) ?_ | assumption)), (by repeat (first | exact hs_eq _ _ _ | refine hs_ne (by omega) ?_ | assumption)), (by repeat (first | exact hs_eq _ _ _ | refine hs_ne (by omega) ?_ | assumption)), (by repeat (first | exact hs_eq _ _ _ | refine hs_ne (by omega) ?_ | assumption)), (by repeat (first | exact hs_eq _ _ _ | refine hs_ne (by omega) ?_ | assumption)), (by repeat (first | exact hs_eq _ _ _ | refine hs_ne (by omega) ?_ | assumption))⟩, fun aaa haa => by repeat (first | rfl | refine hs_ne (by omega) ?_)⟩)
                    | exact Or.inr (Or.inr (⟨by omega, rfl, ⟨(by repeat (first | exact hs_eq _ _ _ | refine hs_ne (by omega) ?_ | assumption)), (by repeat (first | exact hs_eq _ _ _ | refine hs_ne (by omega) ?_ | assumption)), (by repeat (first | exact hs_eq _ _ _ | refine hs_ne (by omega) ?_ | assumption)), (by repeat (first | exact hs_eq _ _ _ | refine hs_ne (by omega) ?_ | assumption)), (by repeat (first | exact hs_eq _ _ _ | refine hs_ne (by omega) ?_ | assumption)), (by repeat (first | exact hs_eq _ _ _ | refine hs_ne (by omega) ?_ | assumption))⟩, fun aaa haa => by repeat (first | rfl | refine hs_ne (by omega) ?_)⟩))))
          · try (exfalso; omega)
            all_goals (
              refine k_iconst C dX8_winder_22 ?_
              refine k_goto (tgt := 27) C dX8_winder_23 (by decide) ?_
              refine k_put C (k := 5) inX8 tyX8_ok nmX8 (ci := 8) rfl (by decide) fl_X8_25 rfl (Nat.le_of_ble_eq_true rfl) dX8_winder_27 (by repeat (first | exact hs_eq _ _ _ | refine hs_ne (by omega) ?_ | assumption)) ?_
              refine k_aload_n C dX8_winder_30 rfl ?_
              refine k_get C (k := 5) inX8 (ci := 8) rfl (by decide) fl_X8_25 dX8_winder_31 (by repeat (first | exact hs_eq _ _ _ | refine hs_ne (by omega) ?_ | assumption)) rfl ?_
              refine k_if_le (tgt := 41) C dX8_winder_34 (by decide) ⟨by omega, by omega⟩ (fun c34 => ?_) (fun c34 => ?_)
              · try (exfalso; omega)
                all_goals (
                  refine k_aload_n C dX8_winder_41 rfl ?_
                  refine k_iload_n C dX8_winder_42 rfl ?_
                  refine k_iload_n C dX8_winder_43 rfl ?_
                  refine k_callV C (n := 2) (as := [_, _]) (ct_X8_winderNow l D tc base oo zrr hhi htx has hro st ln _ re du hsh _ ⟨(by repeat (first | exact hs_eq _ _ _ | refine hs_ne (by omega) ?_ | assumption)), (by repeat (first | exact hs_eq _ _ _ | refine hs_ne (by omega) ?_ | assumption)), (by repeat (first | exact hs_eq _ _ _ | refine hs_ne (by omega) ?_ | assumption)), (by repeat (first | exact hs_eq _ _ _ | refine hs_ne (by omega) ?_ | assumption)), (by repeat (first | exact hs_eq _ _ _ | refine hs_ne (by omega) ?_ | assumption)), (by repeat (first | exact hs_eq _ _ _ | refine hs_ne (by omega) ?_ | assumption))⟩ _ _ hi hm (by omega) (by omega)) ml_X8_149 im_X8_winderNow se_X8_winderNow ini_X8 co_X8_winderNow ⟨rfl, by decide, by decide, by decide +kernel⟩ rfl (ci := 8) rfl (by repeat (first | exact hs_eq _ _ _ | refine hs_ne (by omega) ?_ | assumption)) ⟨by decide, by decide⟩ rfl (Nat.le_of_ble_eq_true rfl) ⟨Nat.zero_le _, Nat.zero_le _⟩ dX8_winder_44 ?_
                  rintro _ _ ⟨rfl, rfl⟩
                  refine k_iret C hr dX8_winder_47 ?_
                  first
                    | exact Or.inl ⟨by omega, rfl, ⟨(by repeat (first | exact hs_eq _ _ _ | refine hs_ne (by omega) ?_ | assumption)), (by repeat (first | exact hs_eq _ _ _ | refine hs_ne (by omega) ?_ | assumption)), (by repeat (first | exact hs_eq _ _ _ | refine hs_ne (by omega) ?_ | assumption)), (by repeat (first | exact hs_eq _ _ _ | refine hs_ne (by omega) ?_ | assumption)), (by repeat (first | exact hs_eq _ _ _ | refine hs_ne (by omega) ?_ | assumption)), (by repeat (first | exact hs_eq _ _ _ | refine hs_ne (by omega) ?_ | assumption))⟩, fun aaa haa => by repeat (first | rfl | refine hs_ne (by omega) ?_)⟩
                    | exact Or.inr (Or.inl ⟨by omega, rfl, ⟨(by repeat (first | exact hs_eq _ _ _ | refine hs_ne (by omega) ?_ | assumption)), (by repeat (first | exact hs_eq _ _ _ | refine hs_ne (by omega) ?_ | assumption)), (by repeat (first | exact hs_eq _ _ _ | refine hs_ne (by omega) ?_ | assumption)), (by repeat (first | exact hs_eq _ _ _ | refine hs_ne (by omega) ?_ | assumption)), (by repeat (first | exact hs_eq _ _ _ | refine hs_ne (by omega) ?_ | assumption)), (by repeat (first | exact hs_eq _ _ _ | refine hs_ne (by omega) ?_ | assumption))⟩, fun aaa haa => by repeat (first | rfl | refine hs_ne (by omega) ?_)⟩)
                    | exact Or.inr (Or.inr (⟨by omega, rfl, ⟨(by repeat (first | exact hs_eq _ _ _ | refine hs_ne (by omega) ?_ | assumption)), (by repeat (first | exact hs_eq _ _ _ | refine hs_ne (by omega) ?_ | assumption)), (by repeat (first | exact hs_eq _ _ _ | refine hs_ne (by omega) ?_ | assumption)), (by repeat (first | exact hs_eq _ _ _ | refine hs_ne (by omega) ?_ | assumption)), (by repeat (first | exact hs_eq _ _ _ | refine hs_ne (by omega) ?_ | assumption)), (by repeat (first | exact hs_eq _ _ _ | refine hs_ne (by omega) ?_ | assumption))⟩, fun aaa haa => by repeat (first | rfl | refine hs_ne (by omega) ?_)⟩)))
              · try (exfalso; omega)
                all_goals (
                  refine k_iconst C dX8_winder_37 ?_
                  refine k_goto (tgt := 47) C dX8_winder_38 (by decide) ?_
                  refine k_iret C hr dX8_winder_47 ?_
                  first
                    | exact Or.inl ⟨by omega, rfl, ⟨(by repeat (first | exact hs_eq _ _ _ | refine hs_ne (by omega) ?_ | assumption)), (by repeat (first | exact hs_eq _ _ _ | refine hs_ne (by omega) ?_ | assumption)), (by repeat (first | exact hs_eq _ _ _ | refine hs_ne (by omega) ?_ | assumption)), (by repeat (first | exact hs_eq _ _ _ | refine hs_ne (by omega) ?_ | assumption)), (by repeat (first | exact hs_eq _ _ _ | refine hs_ne (by omega) ?_ | assumption)), (by repeat (first | exact hs_eq _ _ _ | refine hs_ne (by omega) ?_ | assumption))⟩, fun aaa haa => by repeat (first | rfl | refine hs_ne (by omega) ?_)⟩
                    | exact Or.inr (Or.inl ⟨by omega, rfl, ⟨(by repeat (first | exact hs_eq _ _ _ | refine hs_ne (by omega) ?_ | assumption)), (by repeat (first | exact hs_eq _ _ _ | refine hs_ne (by omega) ?_ | assumption)), (by repeat (first | exact hs_eq _ _ _ | refine hs_ne (by omega) ?_ | assumption)), (by repeat (first | exact hs_eq _ _ _ | refine hs_ne (by omega) ?_ | assumption)), (by repeat (first | exact hs_eq _ _ _ | refine hs_ne (by omega) ?_ | assumption)), (by repeat (first | exact hs_eq _ _ _ | refine hs_ne (by omega) ?_ | assumption))⟩, fun aaa haa => by repeat (first | rfl | refine hs_ne (by omega) ?_)⟩)
                    | exact Or.inr (Or.inr (⟨by omega, rfl, ⟨(by repeat (first | exact hs_eq _ _ _ | refine hs_ne (by omega) ?_ | assumption)), (by repeat (first | exact hs_eq _ _ _ | refine hs_ne (by omega) ?_ | assumption)), (by repeat (first | exact hs_eq _ _ _ | refine hs_ne (by omega) ?_ | assumption)), (by repeat (first | exact hs_eq _ _ _ | refine hs_ne (by omega) ?_ | assumption)), (by repeat (first | exact hs_eq _ _ _ | refine hs_ne (by omega) ?_ | assumption)), (by repeat (first | exact hs_eq _ _ _ | refine hs_ne (by omega) ?_ | assumption))⟩, fun aaa haa => by repeat (first | rfl | refine hs_ne (by omega) ?_)⟩)))))
    · try (exfalso; omega)
      all_goals (
        refine k_iconst C dX8_winder_9 ?_
        refine k_goto (tgt := 27) C dX8_winder_10 (by decide) ?_
        refine k_put C (k := 5) inX8 tyX8_ok nmX8 (ci := 8) rfl (by decide) fl_X8_25 rfl (Nat.le_of_ble_eq_true rfl) dX8_winder_27 (by repeat (first | exact hs_eq _ _ _ | refine hs_ne (by omega) ?_ | assumption)) ?_
        refine k_aload_n C dX8_winder_30 rfl ?_
        refine k_get C (k := 5) inX8 (ci := 8) rfl (by decide) fl_X8_25 dX8_winder_31 (by repeat (first | exact hs_eq _ _ _ | refine hs_ne (by omega) ?_ | assumption)) rfl ?_
        refine k_if_le (tgt := 41) C dX8_winder_34 (by decide) ⟨by omega, by omega⟩ (fun c34 => ?_) (fun c34 => ?_)
        · try (exfalso; omega)
          all_goals (
            refine k_aload_n C dX8_winder_41 rfl ?_
            refine k_iload_n C dX8_winder_42 rfl ?_
            refine k_iload_n C dX8_winder_43 rfl ?_
            refine k_callV C (n := 2) (as := [_, _]) (ct_X8_winderNow l D tc base oo zrr hhi htx has hro st ln _ re du hsh _ ⟨(by repeat (first | exact hs_eq _ _ _ | refine hs_ne (by omega) ?_ | assumption)), (by repeat (first | exact hs_eq _ _ _ | refine hs_ne (by omega) ?_ | assumption)), (by repeat (first | exact hs_eq _ _ _ | refine hs_ne (by omega) ?_ | assumption)), (by repeat (first | exact hs_eq _ _ _ | refine hs_ne (by omega) ?_ | assumption)), (by repeat (first | exact hs_eq _ _ _ | refine hs_ne (by omega) ?_ | assumption)), (by repeat (first | exact hs_eq _ _ _ | refine hs_ne (by omega) ?_ | assumption))⟩ _ _ hi hm (by omega) (by omega)) ml_X8_149 im_X8_winderNow se_X8_winderNow ini_X8 co_X8_winderNow ⟨rfl, by decide, by decide, by decide +kernel⟩ rfl (ci := 8) rfl (by repeat (first | exact hs_eq _ _ _ | refine hs_ne (by omega) ?_ | assumption)) ⟨by decide, by decide⟩ rfl (Nat.le_of_ble_eq_true rfl) ⟨Nat.zero_le _, Nat.zero_le _⟩ dX8_winder_44 ?_
            rintro _ _ ⟨rfl, rfl⟩
            refine k_iret C hr dX8_winder_47 ?_
            first
              | exact Or.inl ⟨by omega, rfl, ⟨(by repeat (first | exact hs_eq _ _ _ | refine hs_ne (by omega) ?_ | assumption)), (by repeat (first | exact hs_eq _ _ _ | refine hs_ne (by omega) ?_ | assumption)), (by repeat (first | exact hs_eq _ _ _ | refine hs_ne (by omega) ?_ | assumption)), (by repeat (first | exact hs_eq _ _ _ | refine hs_ne (by omega) ?_ | assumption)), (by repeat (first | exact hs_eq _ _ _ | refine hs_ne (by omega) ?_ | assumption)), (by repeat (first | exact hs_eq _ _ _ | refine hs_ne (by omega) ?_ | assumption))⟩, fun aaa haa => by repeat (first | rfl | refine hs_ne (by omega) ?_)⟩
              | exact Or.inr (Or.inl ⟨by omega, rfl, ⟨(by repeat (first | exact hs_eq _ _ _ | refine hs_ne (by omega) ?_ | assumption)), (by repeat (first | exact hs_eq _ _ _ | refine hs_ne (by omega) ?_ | assumption)), (by repeat (first | exact hs_eq _ _ _ | refine hs_ne (by omega) ?_ | assumption)), (by repeat (first | exact hs_eq _ _ _ | refine hs_ne (by omega) ?_ | assumption)), (by repeat (first | exact hs_eq _ _ _ | refine hs_ne (by omega) ?_ | assumption)), (by repeat (first | exact hs_eq _ _ _ | refine hs_ne (by omega) ?_ | assumption))⟩, fun aaa haa => by repeat (first | rfl | refine hs_ne (by omega) ?_)⟩)
              | exact Or.inr (Or.inr (⟨by omega, rfl, ⟨(by repeat (first | exact hs_eq _ _ _ | refine hs_ne (by omega) ?_ | assumption)), (by repeat (first | exact hs_eq _ _ _ | refine hs_ne (by omega) ?_ | assumption)), (by repeat (first | exact hs_eq _ _ _ | refine hs_ne (by omega) ?_ | assumption)), (by repeat (first | exact hs_eq _ _ _ | refine hs_ne (by omega) ?_ | assumption)), (by repeat (first | exact hs_eq _ _ _ | refine hs_ne (by omega) ?_ | assumption)), (by repeat (first | exact hs_eq _ _ _ | refine hs_ne (by omega) ?_ | assumption))⟩, fun aaa haa => by repeat (first | rfl | refine hs_ne (by omega) ?_)⟩)))
        · try (exfalso; omega)
          all_goals (
            refine k_iconst C dX8_winder_37 ?_
            refine k_goto (tgt := 47) C dX8_winder_38 (by decide) ?_
            refine k_iret C hr dX8_winder_47 ?_
            first
              | exact Or.inl ⟨by omega, rfl, ⟨(by repeat (first | exact hs_eq _ _ _ | refine hs_ne (by omega) ?_ | assumption)), (by repeat (first | exact hs_eq _ _ _ | refine hs_ne (by omega) ?_ | assumption)), (by repeat (first | exact hs_eq _ _ _ | refine hs_ne (by omega) ?_ | assumption)), (by repeat (first | exact hs_eq _ _ _ | refine hs_ne (by omega) ?_ | assumption)), (by repeat (first | exact hs_eq _ _ _ | refine hs_ne (by omega) ?_ | assumption)), (by repeat (first | exact hs_eq _ _ _ | refine hs_ne (by omega) ?_ | assumption))⟩, fun aaa haa => by repeat (first | rfl | refine hs_ne (by omega) ?_)⟩
              | exact Or.inr (Or.inl ⟨by omega, rfl, ⟨(by repeat (first | exact hs_eq _ _ _ | refine hs_ne (by omega) ?_ | assumption)), (by repeat (first | exact hs_eq _ _ _ | refine hs_ne (by omega) ?_ | assumption)), (by repeat (first | exact hs_eq _ _ _ | refine hs_ne (by omega) ?_ | assumption)), (by repeat (first | exact hs_eq _ _ _ | refine hs_ne (by omega) ?_ | assumption)), (by repeat (first | exact hs_eq _ _ _ | refine hs_ne (by omega) ?_ | assumption)), (by repeat (first | exact hs_eq _ _ _ | refine hs_ne (by omega) ?_ | assumption))⟩, fun aaa haa => by repeat (first | rfl | refine hs_ne (by omega) ?_)⟩)
              | exact Or.inr (Or.inr (⟨by omega, rfl, ⟨(by repeat (first | exact hs_eq _ _ _ | refine hs_ne (by omega) ?_ | assumption)), (by repeat (first | exact hs_eq _ _ _ | refine hs_ne (by omega) ?_ | assumption)), (by repeat (first | exact hs_eq _ _ _ | refine hs_ne (by omega) ?_ | assumption)), (by repeat (first | exact hs_eq _ _ _ | refine hs_ne (by omega) ?_ | assumption)), (by repeat (first | exact hs_eq _ _ _ | refine hs_ne (by omega) ?_ | assumption)), (by repeat (first | exact hs_eq _ _ _ | refine hs_ne (by omega) ?_ | assumption))⟩, fun aaa haa => by repeat (first | rfl | refine hs_ne (by omega) ?_)⟩))))
  · skip
    refine k_if_ne (tgt := 13) C dX8_winder_6 (by decide) ⟨by omega, by omega⟩ (fun c6 => ?_) (fun c6 => ?_)
    · try (exfalso; omega)
      all_goals (
        refine k_iload_n C dX8_winder_13 rfl ?_
        refine k_iconst C dX8_winder_14 ?_
        refine k_iconst C dX8_winder_15 ?_
        refine k_callS C (n := 3) (as := [_, _, _]) (ct_X8_within l D tc base _ _ _ _ hqq ⟨by omega, by omega⟩ ⟨by omega, by omega⟩) ml_X8_92 sm_X8_within ini_X8 co_X8_within ⟨by decide, by decide, by decide +kernel⟩ rfl ⟨by decide, by decide⟩ rfl (Nat.le_of_ble_eq_true rfl) ⟨Nat.zero_le _, Nat.zero_le _⟩ dX8_winder_16 ?_
        rintro _ _ (⟨rfl, rfl, hq16⟩ | ⟨rfl, rfl, hq16⟩)
        · skip
          refine k_if_eq (tgt := 26) C dX8_winder_19 (by decide) ⟨by omega, by omega⟩ (fun c19 => ?_) (fun c19 => ?_)
          · try (exfalso; omega)
            all_goals (
              refine k_iconst C dX8_winder_26 ?_
              refine k_put C (k := 5) inX8 tyX8_ok nmX8 (ci := 8) rfl (by decide) fl_X8_25 rfl (Nat.le_of_ble_eq_true rfl) dX8_winder_27 (by repeat (first | exact hs_eq _ _ _ | refine hs_ne (by omega) ?_ | assumption)) ?_
              refine k_aload_n C dX8_winder_30 rfl ?_
              refine k_get C (k := 5) inX8 (ci := 8) rfl (by decide) fl_X8_25 dX8_winder_31 (by repeat (first | exact hs_eq _ _ _ | refine hs_ne (by omega) ?_ | assumption)) rfl ?_
              refine k_if_le (tgt := 41) C dX8_winder_34 (by decide) ⟨by omega, by omega⟩ (fun c34 => ?_) (fun c34 => ?_)
              · try (exfalso; omega)
                all_goals (
                  refine k_aload_n C dX8_winder_41 rfl ?_
                  refine k_iload_n C dX8_winder_42 rfl ?_
                  refine k_iload_n C dX8_winder_43 rfl ?_
                  refine k_callV C (n := 2) (as := [_, _]) (ct_X8_winderNow l D tc base oo zrr hhi htx has hro st ln _ re du hsh _ ⟨(by repeat (first | exact hs_eq _ _ _ | refine hs_ne (by omega) ?_ | assumption)), (by repeat (first | exact hs_eq _ _ _ | refine hs_ne (by omega) ?_ | assumption)), (by repeat (first | exact hs_eq _ _ _ | refine hs_ne (by omega) ?_ | assumption)), (by repeat (first | exact hs_eq _ _ _ | refine hs_ne (by omega) ?_ | assumption)), (by repeat (first | exact hs_eq _ _ _ | refine hs_ne (by omega) ?_ | assumption)), (by repeat (first | exact hs_eq _ _ _ | refine hs_ne (by omega) ?_ | assumption))⟩ _ _ hi hm (by omega) (by omega)) ml_X8_149 im_X8_winderNow se_X8_winderNow ini_X8 co_X8_winderNow ⟨rfl, by decide, by decide, by decide +kernel⟩ rfl (ci := 8) rfl (by repeat (first | exact hs_eq _ _ _ | refine hs_ne (by omega) ?_ | assumption)) ⟨by decide, by decide⟩ rfl (Nat.le_of_ble_eq_true rfl) ⟨Nat.zero_le _, Nat.zero_le _⟩ dX8_winder_44 ?_
                  rintro _ _ ⟨rfl, rfl⟩
                  refine k_iret C hr dX8_winder_47 ?_
                  first
                    | exact Or.inl ⟨by omega, rfl, ⟨(by repeat (first | exact hs_eq _ _ _ | refine hs_ne (by omega) ?_ | assumption)), (by repeat (first | exact hs_eq _ _ _ | refine hs_ne (by omega) ?_ | assumption)), (by repeat (first | exact hs_eq _ _ _ | refine hs_ne (by omega) ?_ | assumption)), (by repeat (first | exact hs_eq _ _ _ | refine hs_ne (by omega) ?_ | assumption)), (by repeat (first | exact hs_eq _ _ _ | refine hs_ne (by omega) ?_ | assumption)), (by repeat (first | exact hs_eq _ _ _ | refine hs_ne (by omega) ?_ | assumption))⟩, fun aaa haa => by repeat (first | rfl | refine hs_ne (by omega) ?_)⟩
                    | exact Or.inr (Or.inl ⟨by omega, rfl, ⟨(by repeat (first | exact hs_eq _ _ _ | refine hs_ne (by omega) ?_ | assumption)), (by repeat (first | exact hs_eq _ _ _ | refine hs_ne (by omega) ?_ | assumption)), (by repeat (first | exact hs_eq _ _ _ | refine hs_ne (by omega) ?_ | assumption)), (by repeat (first | exact hs_eq _ _ _ | refine hs_ne (by omega) ?_ | assumption)), (by repeat (first | exact hs_eq _ _ _ | refine hs_ne (by omega) ?_ | assumption)), (by repeat (first | exact hs_eq _ _ _ | refine hs_ne (by omega) ?_ | assumption))⟩, fun aaa haa => by repeat (first | rfl | refine hs_ne (by omega) ?_)⟩)
                    | exact Or.inr (Or.inr (⟨by omega, rfl, ⟨(by repeat (first | exact hs_eq _ _ _ | refine hs_ne (by omega) ?_ | assumption)), (by repeat (first | exact hs_eq _ _ _ | refine hs_ne (by omega) ?_ | assumption)), (by repeat (first | exact hs_eq _ _ _ | refine hs_ne (by omega) ?_ | assumption)), (by repeat (first | exact hs_eq _ _ _ | refine hs_ne (by omega) ?_ | assumption)), (by repeat (first | exact hs_eq _ _ _ | refine hs_ne (by omega) ?_ | assumption)), (by repeat (first | exact hs_eq _ _ _ | refine hs_ne (by omega) ?_ | assumption))⟩, fun aaa haa => by repeat (first | rfl | refine hs_ne (by omega) ?_)⟩)))
              · try (exfalso; omega)
                all_goals (
                  refine k_iconst C dX8_winder_37 ?_
                  refine k_goto (tgt := 47) C dX8_winder_38 (by decide) ?_
                  refine k_iret C hr dX8_winder_47 ?_
                  first
                    | exact Or.inl ⟨by omega, rfl, ⟨(by repeat (first | exact hs_eq _ _ _ | refine hs_ne (by omega) ?_ | assumption)), (by repeat (first | exact hs_eq _ _ _ | refine hs_ne (by omega) ?_ | assumption)), (by repeat (first | exact hs_eq _ _ _ | refine hs_ne (by omega) ?_ | assumption)), (by repeat (first | exact hs_eq _ _ _ | refine hs_ne (by omega) ?_ | assumption)), (by repeat (first | exact hs_eq _ _ _ | refine hs_ne (by omega) ?_ | assumption)), (by repeat (first | exact hs_eq _ _ _ | refine hs_ne (by omega) ?_ | assumption))⟩, fun aaa haa => by repeat (first | rfl | refine hs_ne (by omega) ?_)⟩
                    | exact Or.inr (Or.inl ⟨by omega, rfl, ⟨(by repeat (first | exact hs_eq _ _ _ | refine hs_ne (by omega) ?_ | assumption)), (by repeat (first | exact hs_eq _ _ _ | refine hs_ne (by omega) ?_ | assumption)), (by repeat (first | exact hs_eq _ _ _ | refine hs_ne (by omega) ?_ | assumption)), (by repeat (first | exact hs_eq _ _ _ | refine hs_ne (by omega) ?_ | assumption)), (by repeat (first | exact hs_eq _ _ _ | refine hs_ne (by omega) ?_ | assumption)), (by repeat (first | exact hs_eq _ _ _ | refine hs_ne (by omega) ?_ | assumption))⟩, fun aaa haa => by repeat (first | rfl | refine hs_ne (by omega) ?_)⟩)
                    | exact Or.inr (Or.inr (⟨by omega, rfl, ⟨(by repeat (first | exact hs_eq _ _ _ | refine hs_ne (by omega) ?_ | assumption)), (by repeat (first | exact hs_eq _ _ _ | refine hs_ne (by omega) ?_ | assumption)), (by repeat (first | exact hs_eq _ _ _ | refine hs_ne (by omega) ?_ | assumption)), (by repeat (first | exact hs_eq _ _ _ | refine hs_ne (by omega) ?_ | assumption)), (by repeat (first | exact hs_eq _ _ _ | refine hs_ne (by omega) ?_ | assumption)), (by repeat (first | exact hs_eq _ _ _ | refine hs_ne (by omega) ?_ | assumption))⟩, fun aaa haa => by repeat (first | rfl | refine hs_ne (by omega) ?_)⟩))))
          · try (exfalso; omega)
            all_goals (
              refine k_iconst C dX8_winder_22 ?_
              refine k_goto (tgt := 27) C dX8_winder_23 (by decide) ?_
              refine k_put C (k := 5) inX8 tyX8_ok nmX8 (ci := 8) rfl (by decide) fl_X8_25 rfl (Nat.le_of_ble_eq_true rfl) dX8_winder_27 (by repeat (first | exact hs_eq _ _ _ | refine hs_ne (by omega) ?_ | assumption)) ?_
              refine k_aload_n C dX8_winder_30 rfl ?_
              refine k_get C (k := 5) inX8 (ci := 8) rfl (by decide) fl_X8_25 dX8_winder_31 (by repeat (first | exact hs_eq _ _ _ | refine hs_ne (by omega) ?_ | assumption)) rfl ?_
              refine k_if_le (tgt := 41) C dX8_winder_34 (by decide) ⟨by omega, by omega⟩ (fun c34 => ?_) (fun c34 => ?_)
              · try (exfalso; omega)
                all_goals (
                  refine k_aload_n C dX8_winder_41 rfl ?_
                  refine k_iload_n C dX8_winder_42 rfl ?_
                  refine k_iload_n C dX8_winder_43 rfl ?_
                  refine k_callV C (n := 2) (as := [_, _]) (ct_X8_winderNow l D tc base oo zrr hhi htx has hro st ln _ re du hsh _ ⟨(by repeat (first | exact hs_eq _ _ _ | refine hs_ne (by omega) ?_ | assumption)), (by repeat (first | exact hs_eq _ _ _ | refine hs_ne (by omega) ?_ | assumption)), (by repeat (first | exact hs_eq _ _ _ | refine hs_ne (by omega) ?_ | assumption)), (by repeat (first | exact hs_eq _ _ _ | refine hs_ne (by omega) ?_ | assumption)), (by repeat (first | exact hs_eq _ _ _ | refine hs_ne (by omega) ?_ | assumption)), (by repeat (first | exact hs_eq _ _ _ | refine hs_ne (by omega) ?_ | assumption))⟩ _ _ hi hm (by omega) (by omega)) ml_X8_149 im_X8_winderNow se_X8_winderNow ini_X8 co_X8_winderNow ⟨rfl, by decide, by decide, by decide +kernel⟩ rfl (ci := 8) rfl (by repeat (first | exact hs_eq _ _ _ | refine hs_ne (by omega) ?_ | assumption)) ⟨by decide, by decide⟩ rfl (Nat.le_of_ble_eq_true rfl) ⟨Nat.zero_le _, Nat.zero_le _⟩ dX8_winder_44 ?_
                  rintro _ _ ⟨rfl, rfl⟩
                  refine k_iret C hr dX8_winder_47 ?_
                  first
                    | exact Or.inl ⟨by omega, rfl, ⟨(by repeat (first | exact hs_eq _ _ _ | refine hs_ne (by omega) ?_ | assumption)), (by repeat (first | exact hs_eq _ _ _ | refine hs_ne (by omega) ?_ | assumption)), (by repeat (first | exact hs_eq _ _ _ | refine hs_ne (by omega) ?_ | assumption)), (by repeat (first | exact hs_eq _ _ _ | refine hs_ne (by omega) ?_ | assumption)), (by repeat (first | exact hs_eq _ _ _ | refine hs_ne (by omega) ?_ | assumption)), (by repeat (first | exact hs_eq _ _ _ | refine hs_ne (by omega) ?_ | assumption))⟩, fun aaa haa => by repeat (first | rfl | refine hs_ne (by omega) ?_)⟩
                    | exact Or.inr (Or.inl ⟨by omega, rfl, ⟨(by repeat (first | exact hs_eq _ _ _ | refine hs_ne (by omega) ?_ | assumption)), (by repeat (first | exact hs_eq _ _ _ | refine hs_ne (by omega) ?_ | assumption)), (by repeat (first | exact hs_eq _ _ _ | refine hs_ne (by omega) ?_ | assumption)), (by repeat (first | exact hs_eq _ _ _ | refine hs_ne (by omega) ?_ | assumption)), (by repeat (first | exact hs_eq _ _ _ | refine hs_ne (by omega) ?_ | assumption)), (by repeat (first | exact hs_eq _ _ _ | refine hs_ne (by omega) ?_ | assumption))⟩, fun aaa haa => by repeat (first | rfl | refine hs_ne (by omega) ?_)⟩)
                    | exact Or.inr (Or.inr (⟨by omega, rfl, ⟨(by repeat (first | exact hs_eq _ _ _ | refine hs_ne (by omega) ?_ | assumption)), (by repeat (first | exact hs_eq _ _ _ | refine hs_ne (by omega) ?_ | assumption)), (by repeat (first | exact hs_eq _ _ _ | refine hs_ne (by omega) ?_ | assumption)), (by repeat (first | exact hs_eq _ _ _ | refine hs_ne (by omega) ?_ | assumption)), (by repeat (first | exact hs_eq _ _ _ | refine hs_ne (by omega) ?_ | assumption)), (by repeat (first | exact hs_eq _ _ _ | refine hs_ne (by omega) ?_ | assumption))⟩, fun aaa haa => by repeat (first | rfl | refine hs_ne (by omega) ?_)⟩)))
              · try (exfalso; omega)
                all_goals (
                  refine k_iconst C dX8_winder_37 ?_
                  refine k_goto (tgt := 47) C dX8_winder_38 (by decide) ?_
                  refine k_iret C hr dX8_winder_47 ?_
                  first
                    | exact Or.inl ⟨by omega, rfl, ⟨(by repeat (first | exact hs_eq _ _ _ | refine hs_ne (by omega) ?_ | assumption)), (by repeat (first | exact hs_eq _ _ _ | refine hs_ne (by omega) ?_ | assumption)), (by repeat (first | exact hs_eq _ _ _ | refine hs_ne (by omega) ?_ | assumption)), (by repeat (first | exact hs_eq _ _ _ | refine hs_ne (by omega) ?_ | assumption)), (by repeat (first | exact hs_eq _ _ _ | refine hs_ne (by omega) ?_ | assumption)), (by repeat (first | exact hs_eq _ _ _ | refine hs_ne (by omega) ?_ | assumption))⟩, fun aaa haa => by repeat (first | rfl | refine hs_ne (by omega) ?_)⟩
                    | exact Or.inr (Or.inl ⟨by omega, rfl, ⟨(by repeat (first | exact hs_eq _ _ _ | refine hs_ne (by omega) ?_ | assumption)), (by repeat (first | exact hs_eq _ _ _ | refine hs_ne (by omega) ?_ | assumption)), (by repeat (first | exact hs_eq _ _ _ | refine hs_ne (by omega) ?_ | assumption)), (by repeat (first | exact hs_eq _ _ _ | refine hs_ne (by omega) ?_ | assumption)), (by repeat (first | exact hs_eq _ _ _ | refine hs_ne (by omega) ?_ | assumption)), (by repeat (first | exact hs_eq _ _ _ | refine hs_ne (by omega) ?_ | assumption))⟩, fun aaa haa => by repeat (first | rfl | refine hs_ne (by omega) ?_)⟩)
                    | exact Or.inr (Or.inr (⟨by omega, rfl, ⟨(by repeat (first | exact hs_eq _ _ _ | refine hs_ne (by omega) ?_ | assumption)), (by repeat (first | exact hs_eq _ _ _ | refine hs_ne (by omega) ?_ | assumption)), (by repeat (first | exact hs_eq _ _ _ | refine hs_ne (by omega) ?_ | assumption)), (by repeat (first | exact hs_eq _ _ _ | refine hs_ne (by omega) ?_ | assumption)), (by repeat (first | exact hs_eq _ _ _ | refine hs_ne (by omega) ?_ | assumption)), (by repeat (first | exact hs_eq _ _ _ | refine hs_ne (by omega) ?_ | assumption))⟩, fun aaa haa => by repeat (first | rfl | refine hs_ne (by omega) ?_)⟩))))
        · skip
          refine k_if_eq (tgt := 26) C dX8_winder_19 (by decide) ⟨by omega, by omega⟩ (fun c19 => ?_) (fun c19 => ?_)
          · try (exfalso; omega)
            all_goals (
              refine k_iconst C dX8_winder_26 ?_
              refine k_put C (k := 5) inX8 tyX8_ok nmX8 (ci := 8) rfl (by decide) fl_X8_25 rfl (Nat.le_of_ble_eq_true rfl) dX8_winder_27 (by repeat (first | exact hs_eq _ _ _ | refine hs_ne (by omega) ?_ | assumption)) ?_
              refine k_aload_n C dX8_winder_30 rfl ?_
              refine k_get C (k := 5) inX8 (ci := 8) rfl (by decide) fl_X8_25 dX8_winder_31 (by repeat (first | exact hs_eq _ _ _ | refine hs_ne (by omega) ?_ | assumption)) rfl ?_
              refine k_if_le (tgt := 41) C dX8_winder_34 (by decide) ⟨by omega, by omega⟩ (fun c34 => ?_) (fun c34 => ?_)
              · try (exfalso; omega)
                all_goals (
                  refine k_aload_n C dX8_winder_41 rfl ?_
                  refine k_iload_n C dX8_winder_42 rfl ?_
                  refine k_iload_n C dX8_winder_43 rfl ?_
                  refine k_callV C (n := 2) (as := [_, _]) (ct_X8_winderNow l D tc base oo zrr hhi htx has hro st ln _ re du hsh _ ⟨(by repeat (first | exact hs_eq _ _ _ | refine hs_ne (by omega) ?_ | assumption)), (by repeat (first | exact hs_eq _ _ _ | refine hs_ne (by omega) ?_ | assumption)), (by repeat (first | exact hs_eq _ _ _ | refine hs_ne (by omega) ?_ | assumption)), (by repeat (first | exact hs_eq _ _ _ | refine hs_ne (by omega) ?_ | assumption)), (by repeat (first | exact hs_eq _ _ _ | refine hs_ne (by omega) ?_ | assumption)), (by repeat (first | exact hs_eq _ _ _ | refine hs_ne (by omega) ?_ | assumption))⟩ _ _ hi hm (by omega) (by omega)) ml_X8_149 im_X8_winderNow se_X8_winderNow ini_X8 co_X8_winderNow ⟨rfl, by decide, by decide, by decide +kernel⟩ rfl (ci := 8) rfl (by repeat (first | exact hs_eq _ _ _ | refine hs_ne (by omega) ?_ | assumption)) ⟨by decide, by decide⟩ rfl (Nat.le_of_ble_eq_true rfl) ⟨Nat.zero_le _, Nat.zero_le _⟩ dX8_winder_44 ?_
                  rintro _ _ ⟨rfl, rfl⟩
                  refine k_iret C hr dX8_winder_47 ?_
                  first
                    | exact Or.inl ⟨by omega, rfl, ⟨(by repeat (first | exact hs_eq _ _ _ | refine hs_ne (by omega) ?_ | assumption)), (by repeat (first | exact hs_eq _ _ _ | refine hs_ne (by omega) ?_ | assumption)), (by repeat (first | exact hs_eq _ _ _ | refine hs_ne (by omega) ?_ | assumption)), (by repeat (first | exact hs_eq _ _ _ | refine hs_ne (by omega) ?_ | assumption)), (by repeat (first | exact hs_eq _ _ _ | refine hs_ne (by omega) ?_ | assumption)), (by repeat (first | exact hs_eq _ _ _ | refine hs_ne (by omega) ?_ | assumption))⟩, fun aaa haa => by repeat (first | rfl | refine hs_ne (by omega) ?_)⟩
                    | exact Or.inr (Or.inl ⟨by omega, rfl, ⟨(by repeat (first | exact hs_eq _ _ _ | refine hs_ne (by omega) ?_ | assumption)), (by repeat (first | exact hs_eq _ _ _ | refine hs_ne (by omega) ?_ | assumption)), (by repeat (first | exact hs_eq _ _ _ | refine hs_ne (by omega) ?_ | assumption)), (by repeat (first | exact hs_eq _ _ _ | refine hs_ne (by omega) ?_ | assumption)), (by repeat (first | exact hs_eq _ _ _ | refine hs_ne (by omega) ?_ | assumption)), (by repeat (first | exact hs_eq _ _ _ | refine hs_ne (by omega) ?_ | assumption))⟩, fun aaa haa => by repeat (first | rfl | refine hs_ne (by omega) ?_)⟩)
                    | exact Or.inr (Or.inr (⟨by omega, rfl, ⟨(by repeat (first | exact hs_eq _ _ _ | refine hs_ne (by omega) ?_ | assumption)), (by repeat (first | exact hs_eq _ _ _ | refine hs_ne (by omega) ?_ | assumption)), (by repeat (first | exact hs_eq _ _ _ | refine hs_ne (by omega) ?_ | assumption)), (by repeat (first | exact hs_eq _ _ _ | refine hs_ne (by omega) ?_ | assumption)), (by repeat (first | exact hs_eq _ _ _ | refine hs_ne (by omega) ?_ | assumption)), (by repeat (first | exact hs_eq _ _ _ | refine hs_ne (by omega) ?_ | assumption))⟩, fun aaa haa => by repeat (first | rfl | refine hs_ne (by omega) ?_)⟩)))
              · try (exfalso; omega)
                all_goals (
                  refine k_iconst C dX8_winder_37 ?_
                  refine k_goto (tgt := 47) C dX8_winder_38 (by decide) ?_
                  refine k_iret C hr dX8_winder_47 ?_
                  first
                    | exact Or.inl ⟨by omega, rfl, ⟨(by repeat (first | exact hs_eq _ _ _ | refine hs_ne (by omega) ?_ | assumption)), (by repeat (first | exact hs_eq _ _ _ | refine hs_ne (by omega) ?_ | assumption)), (by repeat (first | exact hs_eq _ _ _ | refine hs_ne (by omega) ?_ | assumption)), (by repeat (first | exact hs_eq _ _ _ | refine hs_ne (by omega) ?_ | assumption)), (by repeat (first | exact hs_eq _ _ _ | refine hs_ne (by omega) ?_ | assumption)), (by repeat (first | exact hs_eq _ _ _ | refine hs_ne (by omega) ?_ | assumption))⟩, fun aaa haa => by repeat (first | rfl | refine hs_ne (by omega) ?_)⟩
                    | exact Or.inr (Or.inl ⟨by omega, rfl, ⟨(by repeat (first | exact hs_eq _ _ _ | refine hs_ne (by omega) ?_ | assumption)), (by repeat (first | exact hs_eq _ _ _ | refine hs_ne (by omega) ?_ | assumption)), (by repeat (first | exact hs_eq _ _ _ | refine hs_ne (by omega) ?_ | assumption)), (by repeat (first | exact hs_eq _ _ _ | refine hs_ne (by omega) ?_ | assumption)), (by repeat (first | exact hs_eq _ _ _ | refine hs_ne (by omega) ?_ | assumption)), (by repeat (first | exact hs_eq _ _ _ | refine hs_ne (by omega) ?_ | assumption))⟩, fun aaa haa => by repeat (first | rfl | refine hs_ne (by omega) ?_)⟩)
                    | exact Or.inr (Or.inr (⟨by omega, rfl, ⟨(by repeat (first | exact hs_eq _ _ _ | refine hs_ne (by omega) ?_ | assumption)), (by repeat (first | exact hs_eq _ _ _ | refine hs_ne (by omega) ?_ | assumption)), (by repeat (first | exact hs_eq _ _ _ | refine hs_ne (by omega) ?_ | assumption)), (by repeat (first | exact hs_eq _ _ _ | refine hs_ne (by omega) ?_ | assumption)), (by repeat (first | exact hs_eq _ _ _ | refine hs_ne (by omega) ?_ | assumption)), (by repeat (first | exact hs_eq _ _ _ | refine hs_ne (by omega) ?_ | assumption))⟩, fun aaa haa => by repeat (first | rfl | refine hs_ne (by omega) ?_)⟩))))
          · try (exfalso; omega)
            all_goals (
              refine k_iconst C dX8_winder_22 ?_
              refine k_goto (tgt := 27) C dX8_winder_23 (by decide) ?_
              refine k_put C (k := 5) inX8 tyX8_ok nmX8 (ci := 8) rfl (by decide) fl_X8_25 rfl (Nat.le_of_ble_eq_true rfl) dX8_winder_27 (by repeat (first | exact hs_eq _ _ _ | refine hs_ne (by omega) ?_ | assumption)) ?_
              refine k_aload_n C dX8_winder_30 rfl ?_
              refine k_get C (k := 5) inX8 (ci := 8) rfl (by decide) fl_X8_25 dX8_winder_31 (by repeat (first | exact hs_eq _ _ _ | refine hs_ne (by omega) ?_ | assumption)) rfl ?_
              refine k_if_le (tgt := 41) C dX8_winder_34 (by decide) ⟨by omega, by omega⟩ (fun c34 => ?_) (fun c34 => ?_)
              · try (exfalso; omega)
                all_goals (
                  refine k_aload_n C dX8_winder_41 rfl ?_
                  refine k_iload_n C dX8_winder_42 rfl ?_
                  refine k_iload_n C dX8_winder_43 rfl ?_
                  refine k_callV C (n := 2) (as := [_, _]) (ct_X8_winderNow l D tc base oo zrr hhi htx has hro st ln _ re du hsh _ ⟨(by repeat (first | exact hs_eq _ _ _ | refine hs_ne (by omega) ?_ | assumption)), (by repeat (first | exact hs_eq _ _ _ | refine hs_ne (by omega) ?_ | assumption)), (by repeat (first | exact hs_eq _ _ _ | refine hs_ne (by omega) ?_ | assumption)), (by repeat (first | exact hs_eq _ _ _ | refine hs_ne (by omega) ?_ | assumption)), (by repeat (first | exact hs_eq _ _ _ | refine hs_ne (by omega) ?_ | assumption)), (by repeat (first | exact hs_eq _ _ _ | refine hs_ne (by omega) ?_ | assumption))⟩ _ _ hi hm (by omega) (by omega)) ml_X8_149 im_X8_winderNow se_X8_winderNow ini_X8 co_X8_winderNow ⟨rfl, by decide, by decide, by decide +kernel⟩ rfl (ci := 8) rfl (by repeat (first | exact hs_eq _ _ _ | refine hs_ne (by omega) ?_ | assumption)) ⟨by decide, by decide⟩ rfl (Nat.le_of_ble_eq_true rfl) ⟨Nat.zero_le _, Nat.zero_le _⟩ dX8_winder_44 ?_
                  rintro _ _ ⟨rfl, rfl⟩
                  refine k_iret C hr dX8_winder_47 ?_
                  first
                    | exact Or.inl ⟨by omega, rfl, ⟨(by repeat (first | exact hs_eq _ _ _ | refine hs_ne (by omega) ?_ | assumption)), (by repeat (first | exact hs_eq _ _ _ | refine hs_ne (by omega) ?_ | assumption)), (by repeat (first | exact hs_eq _ _ _ | refine hs_ne (by omega) ?_ | assumption)), (by repeat (first | exact hs_eq _ _ _ | refine hs_ne (by omega) ?_ | assumption)), (by repeat (first | exact hs_eq _ _ _ | refine hs_ne (by omega) ?_ | assumption)), (by repeat (first | exact hs_eq _ _ _ | refine hs_ne (by omega) ?_ | assumption))⟩, fun aaa haa => by repeat (first | rfl | refine hs_ne (by omega) ?_)⟩
                    | exact Or.inr (Or.inl ⟨by omega, rfl, ⟨(by repeat (first | exact hs_eq _ _ _ | refine hs_ne (by omega) ?_ | assumption)), (by repeat (first | exact hs_eq _ _ _ | refine hs_ne (by omega) ?_ | assumption)), (by repeat (first | exact hs_eq _ _ _ | refine hs_ne (by omega) ?_ | assumption)), (by repeat (first | exact hs_eq _ _ _ | refine hs_ne (by omega) ?_ | assumption)), (by repeat (first | exact hs_eq _ _ _ | refine hs_ne (by omega) ?_ | assumption)), (by repeat (first | exact hs_eq _ _ _ | refine hs_ne (by omega) ?_ | assumption))⟩, fun aaa haa => by repeat (first | rfl | refine hs_ne (by omega) ?_)⟩)
                    | exact Or.inr (Or.inr (⟨by omega, rfl, ⟨(by repeat (first | exact hs_eq _ _ _ | refine hs_ne (by omega) ?_ | assumption)), (by repeat (first | exact hs_eq _ _ _ | refine hs_ne (by omega) ?_ | assumption)), (by repeat (first | exact hs_eq _ _ _ | refine hs_ne (by omega) ?_ | assumption)), (by repeat (first | exact hs_eq _ _ _ | refine hs_ne (by omega) ?_ | assumption)), (by repeat (first | exact hs_eq _ _ _ | refine hs_ne (by omega) ?_ | assumption)), (by repeat (first | exact hs_eq _ _ _ | refine hs_ne (by omega) ?_ | assumption))⟩, fun aaa haa => by repeat (first | rfl | refine hs_ne (by omega) ?_)⟩)))
              · try (exfalso; omega)
                all_goals (
                  refine k_iconst C dX8_winder_37 ?_
                  refine k_goto (tgt := 47) C dX8_winder_38 (by decide) ?_
                  refine k_iret C hr dX8_winder_47 ?_
                  first
                    | exact Or.inl ⟨by omega, rfl, ⟨(by repeat (first | exact hs_eq _ _ _ | refine hs_ne (by omega) ?_ | assumption)), (by repeat (first | exact hs_eq _ _ _ | refine hs_ne (by omega) ?_ | assumption)), (by repeat (first | exact hs_eq _ _ _ | refine hs_ne (by omega) ?_ | assumption)), (by repeat (first | exact hs_eq _ _ _ | refine hs_ne (by omega) ?_ | assumption)), (by repeat (first | exact hs_eq _ _ _ | refine hs_ne (by omega) ?_ | assumption)), (by repeat (first | exact hs_eq _ _ _ | refine hs_ne (by omega) ?_ | assumption))⟩, fun aaa haa => by repeat (first | rfl | refine hs_ne (by omega) ?_)⟩
                    | exact Or.inr (Or.inl ⟨by omega, rfl, ⟨(by repeat (first | exact hs_eq _ _ _ | refine hs_ne (by omega) ?_ | assumption)), (by repeat (first | exact hs_eq _ _ _ | refine hs_ne (by omega) ?_ | assumption)), (by repeat (first | exact hs_eq _ _ _ | refine hs_ne (by omega) ?_ | assumption)), (by repeat (first | exact hs_eq _ _ _ | refine hs_ne (by omega) ?_ | assumption)), (by repeat (first | exact hs_eq _ _ _ | refine hs_ne (by omega) ?_ | assumption)), (by repeat (first | exact hs_eq _ _ _ | refine hs_ne (by omega) ?_ | assumption))⟩, fun aaa haa => by repeat (first | rfl | refine hs_ne (by omega) ?_)⟩)
                    | exact Or.inr (Or.inr (⟨by omega, rfl, ⟨(by repeat (first | exact hs_eq _ _ _ | refine hs_ne (by omega) ?_ | assumption)), (by repeat (first | exact hs_eq _ _ _ | refine hs_ne (by omega) ?_ | assumption)), (by repeat (first | exact hs_eq _ _ _ | refine hs_ne (by omega) ?_ | assumption)), (by repeat (first | exact hs_eq _ _ _ | refine hs_ne (by omega) ?_ | assumption)), (by repeat (first | exact hs_eq _ _ _ | refine hs_ne (by omega) ?_ | assumption)), (by repeat (first | exact hs_eq _ _ _ | refine hs_ne (by omega) ?_ | assumption))⟩, fun aaa haa => by repeat (first | rfl | refine hs_ne (by omega) ?_)⟩)))))
    · try (exfalso; omega)
      all_goals (
        refine k_iconst C dX8_winder_9 ?_
        refine k_goto (tgt := 27) C dX8_winder_10 (by decide) ?_
        refine k_put C (k := 5) inX8 tyX8_ok nmX8 (ci := 8) rfl (by decide) fl_X8_25 rfl (Nat.le_of_ble_eq_true rfl) dX8_winder_27 (by repeat (first | exact hs_eq _ _ _ | refine hs_ne (by omega) ?_ | assumption)) ?_
        refine k_aload_n C dX8_winder_30 rfl ?_
        refine k_get C (k := 5) inX8 (ci := 8) rfl (by decide) fl_X8_25 dX8_winder_31 (by repeat (first | exact hs_eq _ _ _ | refine hs_ne (by omega) ?_ | assumption)) rfl ?_
        refine k_if_le (tgt := 41) C dX8_winder_34 (by decide) ⟨by omega, by omega⟩ (fun c34 => ?_) (fun c34 => ?_)
        · try (exfalso; omega)
          all_goals (
            refine k_aload_n C dX8_winder_41 rfl ?_
            refine k_iload_n C dX8_winder_42 rfl ?_
            refine k_iload_n C dX8_winder_43 rfl ?_
            refine k_callV C (n := 2) (as := [_, _]) (ct_X8_winderNow l D tc base oo zrr hhi htx has hro st ln _ re du hsh _ ⟨(by repeat (first | exact hs_eq _ _ _ | refine hs_ne (by omega) ?_ | assumption)), (by repeat (first | exact hs_eq _ _ _ | refine hs_ne (by omega) ?_ | assumption)), (by repeat (first | exact hs_eq _ _ _ | refine hs_ne (by omega) ?_ | assumption)), (by repeat (first | exact hs_eq _ _ _ | refine hs_ne (by omega) ?_ | assumption)), (by repeat (first | exact hs_eq _ _ _ | refine hs_ne (by omega) ?_ | assumption)), (by repeat (first | exact hs_eq _ _ _ | refine hs_ne (by omega) ?_ | assumption))⟩ _ _ hi hm (by omega) (by omega)) ml_X8_149 im_X8_winderNow se_X8_winderNow ini_X8 co_X8_winderNow ⟨rfl, by decide, by decide, by decide +kernel⟩ rfl (ci := 8) rfl (by repeat (first | exact hs_eq _ _ _ | refine hs_ne (by omega) ?_ | assumption)) ⟨by decide, by decide⟩ rfl (Nat.le_of_ble_eq_true rfl) ⟨Nat.zero_le _, Nat.zero_le _⟩ dX8_winder_44 ?_
            rintro _ _ ⟨rfl, rfl⟩
            refine k_iret C hr dX8_winder_47 ?_
            first
              | exact Or.inl ⟨by omega, rfl, ⟨(by repeat (first | exact hs_eq _ _ _ | refine hs_ne (by omega) ?_ | assumption)), (by repeat (first | exact hs_eq _ _ _ | refine hs_ne (by omega) ?_ | assumption)), (by repeat (first | exact hs_eq _ _ _ | refine hs_ne (by omega) ?_ | assumption)), (by repeat (first | exact hs_eq _ _ _ | refine hs_ne (by omega) ?_ | assumption)), (by repeat (first | exact hs_eq _ _ _ | refine hs_ne (by omega) ?_ | assumption)), (by repeat (first | exact hs_eq _ _ _ | refine hs_ne (by omega) ?_ | assumption))⟩, fun aaa haa => by repeat (first | rfl | refine hs_ne (by omega) ?_)⟩
              | exact Or.inr (Or.inl ⟨by omega, rfl, ⟨(by repeat (first | exact hs_eq _ _ _ | refine hs_ne (by omega) ?_ | assumption)), (by repeat (first | exact hs_eq _ _ _ | refine hs_ne (by omega) ?_ | assumption)), (by repeat (first | exact hs_eq _ _ _ | refine hs_ne (by omega) ?_ | assumption)), (by repeat (first | exact hs_eq _ _ _ | refine hs_ne (by omega) ?_ | assumption)), (by repeat (first | exact hs_eq _ _ _ | refine hs_ne (by omega) ?_ | assumption)), (by repeat (first | exact hs_eq _ _ _ | refine hs_ne (by omega) ?_ | assumption))⟩, fun aaa haa => by repeat (first | rfl | refine hs_ne (by omega) ?_)⟩)
              | exact Or.inr (Or.inr (⟨by omega, rfl, ⟨(by repeat (first | exact hs_eq _ _ _ | refine hs_ne (by omega) ?_ | assumption)), (by repeat (first | exact hs_eq _ _ _ | refine hs_ne (by omega) ?_ | assumption)), (by repeat (first | exact hs_eq _ _ _ | refine hs_ne (by omega) ?_ | assumption)), (by repeat (first | exact hs_eq _ _ _ | refine hs_ne (by omega) ?_ | assumption)), (by repeat (first | exact hs_eq _ _ _ | refine hs_ne (by omega) ?_ | assumption)), (by repeat (first | exact hs_eq _ _ _ | refine hs_ne (by omega) ?_ | assumption))⟩, fun aaa haa => by repeat (first | rfl | refine hs_ne (by omega) ?_)⟩)))
        · try (exfalso; omega)
          all_goals (
            refine k_iconst C dX8_winder_37 ?_
            refine k_goto (tgt := 47) C dX8_winder_38 (by decide) ?_
            refine k_iret C hr dX8_winder_47 ?_
            first
              | exact Or.inl ⟨by omega, rfl, ⟨(by repeat (first | exact hs_eq _ _ _ | refine hs_ne (by omega) ?_ | assumption)), (by repeat (first | exact hs_eq _ _ _ | refine hs_ne (by omega) ?_ | assumption)), (by repeat (first | exact hs_eq _ _ _ | refine hs_ne (by omega) ?_ | assumption)), (by repeat (first | exact hs_eq _ _ _ | refine hs_ne (by omega) ?_ | assumption)), (by repeat (first | exact hs_eq _ _ _ | refine hs_ne (by omega) ?_ | assumption)), (by repeat (first | exact hs_eq _ _ _ | refine hs_ne (by omega) ?_ | assumption))⟩, fun aaa haa => by repeat (first | rfl | refine hs_ne (by omega) ?_)⟩
              | exact Or.inr (Or.inl ⟨by omega, rfl, ⟨(by repeat (first | exact hs_eq _ _ _ | refine hs_ne (by omega) ?_ | assumption)), (by repeat (first | exact hs_eq _ _ _ | refine hs_ne (by omega) ?_ | assumption)), (by repeat (first | exact hs_eq _ _ _ | refine hs_ne (by omega) ?_ | assumption)), (by repeat (first | exact hs_eq _ _ _ | refine hs_ne (by omega) ?_ | assumption)), (by repeat (first | exact hs_eq _ _ _ | refine hs_ne (by omega) ?_ | assumption)), (by repeat (first | exact hs_eq _ _ _ | refine hs_ne (by omega) ?_ | assumption))⟩, fun aaa haa => by repeat (first | rfl | refine hs_ne (by omega) ?_)⟩)
              | exact Or.inr (Or.inr (⟨by omega, rfl, ⟨(by repeat (first | exact hs_eq _ _ _ | refine hs_ne (by omega) ?_ | assumption)), (by repeat (first | exact hs_eq _ _ _ | refine hs_ne (by omega) ?_ | assumption)), (by repeat (first | exact hs_eq _ _ _ | refine hs_ne (by omega) ?_ | assumption)), (by repeat (first | exact hs_eq _ _ _ | refine hs_ne (by omega) ?_ | assumption)), (by repeat (first | exact hs_eq _ _ _ | refine hs_ne (by omega) ?_ | assumption)), (by repeat (first | exact hs_eq _ _ _ | refine hs_ne (by omega) ?_ | assumption))⟩, fun aaa haa => by repeat (first | rfl | refine hs_ne (by omega) ?_)⟩))))

set_option maxRecDepth 20000 in
set_option maxHeartbeats 1000000 in
theorem ct_X8_debt (l : Launch) (D : va_G) (tc : Nat → ClassId) (base : Nat) (oo : Nat) (zrr hhi htx has hro : Int → Int) (st ln th re du hsh : Int) (hpp : AH) (hM : MA hpp oo zrr hhi htx has hro st ln th re du hsh) (ww qq : Int) (hi : zInv zrr) (hw : r32 ww) (hqq : r32 qq) : CT l D tc base yX8_debt cX8_debt 3 (some .int) 1 [aR oo, aI ww, aI qq] hpp (fun r h' => (((0 ≤ ww ∧ ww < zrr 52) ∧ (0 ≤ qq ∧ qq ≤ 1)) ∧ r = some (aI (zrr (53 + 2 * ww + qq))) ∧ MA h' oo (zrr) (hhi) (htx) (has) (hro) (st) (ln) (0) (re) (du) (hsh) ∧ Fr hpp h' oo 6) ∨ (¬ (0 ≤ ww ∧ ww < zrr 52) ∧ r = some (aI (0)) ∧ MA h' oo (zrr) (hhi) (htx) (has) (hro) (st) (ln) (1) (re) (du) (hsh) ∧ Fr hpp h' oo 6) ∨ (((0 ≤ ww ∧ ww < zrr 52) ∧ ¬ (0 ≤ qq ∧ qq ≤ 1)) ∧ r = some (aI (0)) ∧ MA h' oo (zrr) (hhi) (htx) (has) (hro) (st) (ln) (2) (re) (du) (hsh) ∧ Fr hpp h' oo 6)) := by
  refine CT.of [some (aR oo), some (aI ww), some (aI qq)] (by decide +kernel) rfl (Nat.le_of_ble_eq_true rfl) ?_
  intro p e s m args below meth c C hr hnm
  obtain ⟨g0, g1, g2, g3, g4, g5⟩ := id hM
  obtain ⟨⟨v0, v1, v2, v9, v10, v11, v12, v13, v21, v52, v61, v62, v63, v64, v65, v66⟩, hwi, hde⟩ := id hi
  refine k_aload_n C dX8_debt_0 rfl ?_
  refine k_iload_n C dX8_debt_1 rfl ?_
  refine k_iconst C dX8_debt_2 ?_
  refine k_aload_n C dX8_debt_3 rfl ?_
  refine k_get C (k := 0) inX8 (ci := 8) rfl (by decide) fl_X8_7 dX8_debt_4 (by repeat (first | exact hs_eq _ _ _ | refine hs_ne (by omega) ?_ | assumption)) rfl ?_
  refine k_bipush C dX8_debt_7 (by decide +kernel) ?_
  refine k_iaload C dX8_debt_9 (by repeat (first | exact hs_eq _ _ _ | refine hs_ne (by omega) ?_ | assumption)) (by omega) (by omega) (by omega) ?_
  refine k_iconst C dX8_debt_10 ?_
  refine k_isub C dX8_debt_11 ?_
  refine k_callS C (n := 3) (as := [_, _, _]) (ct_X8_within l D tc base _ _ _ _ hw ⟨by omega, by omega⟩ ⟨by omega, by omega⟩) ml_X8_92 sm_X8_within ini_X8 co_X8_within ⟨by decide, by decide, by decide +kernel⟩ rfl ⟨by decide, by decide⟩ rfl (Nat.le_of_ble_eq_true rfl) ⟨Nat.zero_le _, Nat.zero_le _⟩ dX8_debt_12 ?_
  rintro _ _ (⟨rfl, rfl, hq12⟩ | ⟨rfl, rfl, hq12⟩)
  · skip
    refine k_if_ne (tgt := 22) C dX8_debt_15 (by decide) ⟨by omega, by omega⟩ (fun c15 => ?_) (fun c15 => ?_)
    · try (exfalso; omega)
      all_goals (
        refine k_iload_n C dX8_debt_22 rfl ?_
        refine k_iconst C dX8_debt_23 ?_
        refine k_iconst C dX8_debt_24 ?_
        refine k_callS C (n := 3) (as := [_, _, _]) (ct_X8_within l D tc base _ _ _ _ hqq ⟨by omega, by omega⟩ ⟨by omega, by omega⟩) ml_X8_92 sm_X8_within ini_X8 co_X8_within ⟨by decide, by decide, by decide +kernel⟩ rfl ⟨by decide, by decide⟩ rfl (Nat.le_of_ble_eq_true rfl) ⟨Nat.zero_le _, Nat.zero_le _⟩ dX8_debt_25 ?_
        rintro _ _ (⟨rfl, rfl, hq25⟩ | ⟨rfl, rfl, hq25⟩)
        · skip
          refine k_if_eq (tgt := 35) C dX8_debt_28 (by decide) ⟨by omega, by omega⟩ (fun c28 => ?_) (fun c28 => ?_)
          · try (exfalso; omega)
            all_goals (
              refine k_iconst C dX8_debt_35 ?_
              refine k_put C (k := 5) inX8 tyX8_ok nmX8 (ci := 8) rfl (by decide) fl_X8_25 rfl (Nat.le_of_ble_eq_true rfl) dX8_debt_36 (by repeat (first | exact hs_eq _ _ _ | refine hs_ne (by omega) ?_ | assumption)) ?_
              refine k_aload_n C dX8_debt_39 rfl ?_
              refine k_get C (k := 5) inX8 (ci := 8) rfl (by decide) fl_X8_25 dX8_debt_40 (by repeat (first | exact hs_eq _ _ _ | refine hs_ne (by omega) ?_ | assumption)) rfl ?_
              refine k_if_le (tgt := 50) C dX8_debt_43 (by decide) ⟨by omega, by omega⟩ (fun c43 => ?_) (fun c43 => ?_)
              · try (exfalso; omega)
                all_goals (
                  refine k_aload_n C dX8_debt_50 rfl ?_
                  refine k_get C (k := 0) inX8 (ci := 8) rfl (by decide) fl_X8_7 dX8_debt_51 (by repeat (first | exact hs_eq _ _ _ | refine hs_ne (by omega) ?_ | assumption)) rfl ?_
                  refine k_bipush C dX8_debt_54 (by decide +kernel) ?_
                  refine k_iconst C dX8_debt_56 ?_
                  refine k_iload_n C dX8_debt_57 rfl ?_
                  refine k_imul C dX8_debt_58 ?_
                  refine k_iadd C dX8_debt_59 ?_
                  refine k_iload_n C dX8_debt_60 rfl ?_
                  refine k_iadd C dX8_debt_61 ?_
                  refine k_iaload C dX8_debt_62 (by repeat (first | exact hs_eq _ _ _ | refine hs_ne (by omega) ?_ | assumption)) (by omega) (by omega) (by omega) ?_
                  refine k_iret C hr dX8_debt_63 ?_
                  first
                    | exact Or.inl ⟨by omega, rfl, ⟨(by repeat (first | exact hs_eq _ _ _ | refine hs_ne (by omega) ?_ | assumption)), (by repeat (first | exact hs_eq _ _ _ | refine hs_ne (by omega) ?_ | assumption)), (by repeat (first | exact hs_eq _ _ _ | refine hs_ne (by omega) ?_ | assumption)), (by repeat (first | exact hs_eq _ _ _ | refine hs_ne (by omega) ?_ | assumption)), (by repeat (first | exact hs_eq _ _ _ | refine hs_ne (by omega) ?_ | assumption)), (by repeat (first | exact hs_eq _ _ _ | refine hs_ne (by omega) ?_ | assumption))⟩, fun aaa haa => by repeat (first | rfl | refine hs_ne (by omega) ?_)⟩
                    | exact Or.inr (Or.inl ⟨by omega, rfl, ⟨(by repeat (first | exact hs_eq _ _ _ | refine hs_ne (by omega) ?_ | assumption)), (by repeat (first | exact hs_eq _ _ _ | refine hs_ne (by omega) ?_ | assumption)), (by repeat (first | exact hs_eq _ _ _ | refine hs_ne (by omega) ?_ | assumption)), (by repeat (first | exact hs_eq _ _ _ | refine hs_ne (by omega) ?_ | assumption)), (by repeat (first | exact hs_eq _ _ _ | refine hs_ne (by omega) ?_ | assumption)), (by repeat (first | exact hs_eq _ _ _ | refine hs_ne (by omega) ?_ | assumption))⟩, fun aaa haa => by repeat (first | rfl | refine hs_ne (by omega) ?_)⟩)
                    | exact Or.inr (Or.inr (⟨by omega, rfl, ⟨(by repeat (first | exact hs_eq _ _ _ | refine hs_ne (by omega) ?_ | assumption)), (by repeat (first | exact hs_eq _ _ _ | refine hs_ne (by omega) ?_ | assumption)), (by repeat (first | exact hs_eq _ _ _ | refine hs_ne (by omega) ?_ | assumption)), (by repeat (first | exact hs_eq _ _ _ | refine hs_ne (by omega) ?_ | assumption)), (by repeat (first | exact hs_eq _ _ _ | refine hs_ne (by omega) ?_ | assumption)), (by repeat (first | exact hs_eq _ _ _ | refine hs_ne (by omega) ?_ | assumption))⟩, fun aaa haa => by repeat (first | rfl | refine hs_ne (by omega) ?_)⟩)))
              · try (exfalso; omega)
                all_goals (
                  refine k_iconst C dX8_debt_46 ?_
                  refine k_goto (tgt := 63) C dX8_debt_47 (by decide) ?_
                  refine k_iret C hr dX8_debt_63 ?_
                  first
                    | exact Or.inl ⟨by omega, rfl, ⟨(by repeat (first | exact hs_eq _ _ _ | refine hs_ne (by omega) ?_ | assumption)), (by repeat (first | exact hs_eq _ _ _ | refine hs_ne (by omega) ?_ | assumption)), (by repeat (first | exact hs_eq _ _ _ | refine hs_ne (by omega) ?_ | assumption)), (by repeat (first | exact hs_eq _ _ _ | refine hs_ne (by omega) ?_ | assumption)), (by repeat (first | exact hs_eq _ _ _ | refine hs_ne (by omega) ?_ | assumption)), (by repeat (first | exact hs_eq _ _ _ | refine hs_ne (by omega) ?_ | assumption))⟩, fun aaa haa => by repeat (first | rfl | refine hs_ne (by omega) ?_)⟩
                    | exact Or.inr (Or.inl ⟨by omega, rfl, ⟨(by repeat (first | exact hs_eq _ _ _ | refine hs_ne (by omega) ?_ | assumption)), (by repeat (first | exact hs_eq _ _ _ | refine hs_ne (by omega) ?_ | assumption)), (by repeat (first | exact hs_eq _ _ _ | refine hs_ne (by omega) ?_ | assumption)), (by repeat (first | exact hs_eq _ _ _ | refine hs_ne (by omega) ?_ | assumption)), (by repeat (first | exact hs_eq _ _ _ | refine hs_ne (by omega) ?_ | assumption)), (by repeat (first | exact hs_eq _ _ _ | refine hs_ne (by omega) ?_ | assumption))⟩, fun aaa haa => by repeat (first | rfl | refine hs_ne (by omega) ?_)⟩)
                    | exact Or.inr (Or.inr (⟨by omega, rfl, ⟨(by repeat (first | exact hs_eq _ _ _ | refine hs_ne (by omega) ?_ | assumption)), (by repeat (first | exact hs_eq _ _ _ | refine hs_ne (by omega) ?_ | assumption)), (by repeat (first | exact hs_eq _ _ _ | refine hs_ne (by omega) ?_ | assumption)), (by repeat (first | exact hs_eq _ _ _ | refine hs_ne (by omega) ?_ | assumption)), (by repeat (first | exact hs_eq _ _ _ | refine hs_ne (by omega) ?_ | assumption)), (by repeat (first | exact hs_eq _ _ _ | refine hs_ne (by omega) ?_ | assumption))⟩, fun aaa haa => by repeat (first | rfl | refine hs_ne (by omega) ?_)⟩))))
          · try (exfalso; omega)
            all_goals (
              refine k_iconst C dX8_debt_31 ?_
              refine k_goto (tgt := 36) C dX8_debt_32 (by decide) ?_
              refine k_put C (k := 5) inX8 tyX8_ok nmX8 (ci := 8) rfl (by decide) fl_X8_25 rfl (Nat.le_of_ble_eq_true rfl) dX8_debt_36 (by repeat (first | exact hs_eq _ _ _ | refine hs_ne (by omega) ?_ | assumption)) ?_
              refine k_aload_n C dX8_debt_39 rfl ?_
              refine k_get C (k := 5) inX8 (ci := 8) rfl (by decide) fl_X8_25 dX8_debt_40 (by repeat (first | exact hs_eq _ _ _ | refine hs_ne (by omega) ?_ | assumption)) rfl ?_
              refine k_if_le (tgt := 50) C dX8_debt_43 (by decide) ⟨by omega, by omega⟩ (fun c43 => ?_) (fun c43 => ?_)
              · try (exfalso; omega)
                all_goals (
                  refine k_aload_n C dX8_debt_50 rfl ?_
                  refine k_get C (k := 0) inX8 (ci := 8) rfl (by decide) fl_X8_7 dX8_debt_51 (by repeat (first | exact hs_eq _ _ _ | refine hs_ne (by omega) ?_ | assumption)) rfl ?_
                  refine k_bipush C dX8_debt_54 (by decide +kernel) ?_
                  refine k_iconst C dX8_debt_56 ?_
                  refine k_iload_n C dX8_debt_57 rfl ?_
                  refine k_imul C dX8_debt_58 ?_
                  refine k_iadd C dX8_debt_59 ?_
                  refine k_iload_n C dX8_debt_60 rfl ?_
                  refine k_iadd C dX8_debt_61 ?_
                  refine k_iaload C dX8_debt_62 (by repeat (first | exact hs_eq _ _ _ | refine hs_ne (by omega) ?_ | assumption)) (by omega) (by omega) (by omega) ?_
                  refine k_iret C hr dX8_debt_63 ?_
                  first
                    | exact Or.inl ⟨by omega, rfl, ⟨(by repeat (first | exact hs_eq _ _ _ | refine hs_ne (by omega) ?_ | assumption)), (by repeat (first | exact hs_eq _ _ _ | refine hs_ne (by omega) ?_ | assumption)), (by repeat (first | exact hs_eq _ _ _ | refine hs_ne (by omega) ?_ | assumption)), (by repeat (first | exact hs_eq _ _ _ | refine hs_ne (by omega) ?_ | assumption)), (by repeat (first | exact hs_eq _ _ _ | refine hs_ne (by omega) ?_ | assumption)), (by repeat (first | exact hs_eq _ _ _ | refine hs_ne (by omega) ?_ | assumption))⟩, fun aaa haa => by repeat (first | rfl | refine hs_ne (by omega) ?_)⟩
                    | exact Or.inr (Or.inl ⟨by omega, rfl, ⟨(by repeat (first | exact hs_eq _ _ _ | refine hs_ne (by omega) ?_ | assumption)), (by repeat (first | exact hs_eq _ _ _ | refine hs_ne (by omega) ?_ | assumption)), (by repeat (first | exact hs_eq _ _ _ | refine hs_ne (by omega) ?_ | assumption)), (by repeat (first | exact hs_eq _ _ _ | refine hs_ne (by omega) ?_ | assumption)), (by repeat (first | exact hs_eq _ _ _ | refine hs_ne (by omega) ?_ | assumption)), (by repeat (first | exact hs_eq _ _ _ | refine hs_ne (by omega) ?_ | assumption))⟩, fun aaa haa => by repeat (first | rfl | refine hs_ne (by omega) ?_)⟩)
                    | exact Or.inr (Or.inr (⟨by omega, rfl, ⟨(by repeat (first | exact hs_eq _ _ _ | refine hs_ne (by omega) ?_ | assumption)), (by repeat (first | exact hs_eq _ _ _ | refine hs_ne (by omega) ?_ | assumption)), (by repeat (first | exact hs_eq _ _ _ | refine hs_ne (by omega) ?_ | assumption)), (by repeat (first | exact hs_eq _ _ _ | refine hs_ne (by omega) ?_ | assumption)), (by repeat (first | exact hs_eq _ _ _ | refine hs_ne (by omega) ?_ | assumption)), (by repeat (first | exact hs_eq _ _ _ | refine hs_ne (by omega) ?_ | assumption))⟩, fun aaa haa => by repeat (first | rfl | refine hs_ne (by omega) ?_)⟩)))
              · try (exfalso; omega)
                all_goals (
                  refine k_iconst C dX8_debt_46 ?_
                  refine k_goto (tgt := 63) C dX8_debt_47 (by decide) ?_
                  refine k_iret C hr dX8_debt_63 ?_
                  first
                    | exact Or.inl ⟨by omega, rfl, ⟨(by repeat (first | exact hs_eq _ _ _ | refine hs_ne (by omega) ?_ | assumption)), (by repeat (first | exact hs_eq _ _ _ | refine hs_ne (by omega) ?_ | assumption)), (by repeat (first | exact hs_eq _ _ _ | refine hs_ne (by omega) ?_ | assumption)), (by repeat (first | exact hs_eq _ _ _ | refine hs_ne (by omega) ?_ | assumption)), (by repeat (first | exact hs_eq _ _ _ | refine hs_ne (by omega) ?_ | assumption)), (by repeat (first | exact hs_eq _ _ _ | refine hs_ne (by omega) ?_ | assumption))⟩, fun aaa haa => by repeat (first | rfl | refine hs_ne (by omega) ?_)⟩
                    | exact Or.inr (Or.inl ⟨by omega, rfl, ⟨(by repeat (first | exact hs_eq _ _ _ | refine hs_ne (by omega) ?_ | assumption)), (by repeat (first | exact hs_eq _ _ _ | refine hs_ne (by omega) ?_ | assumption)), (by repeat (first | exact hs_eq _ _ _ | refine hs_ne (by omega) ?_ | assumption)), (by repeat (first | exact hs_eq _ _ _ | refine hs_ne (by omega) ?_ | assumption)), (by repeat (first | exact hs_eq _ _ _ | refine hs_ne (by omega) ?_ | assumption)), (by repeat (first | exact hs_eq _ _ _ | refine hs_ne (by omega) ?_ | assumption))⟩, fun aaa haa => by repeat (first | rfl | refine hs_ne (by omega) ?_)⟩)
                    | exact Or.inr (Or.inr (⟨by omega, rfl, ⟨(by repeat (first | exact hs_eq _ _ _ | refine hs_ne (by omega) ?_ | assumption)), (by repeat (first | exact hs_eq _ _ _ | refine hs_ne (by omega) ?_ | assumption)), (by repeat (first | exact hs_eq _ _ _ | refine hs_ne (by omega) ?_ | assumption)), (by repeat (first | exact hs_eq _ _ _ | refine hs_ne (by omega) ?_ | assumption)), (by repeat (first | exact hs_eq _ _ _ | refine hs_ne (by omega) ?_ | assumption)), (by repeat (first | exact hs_eq _ _ _ | refine hs_ne (by omega) ?_ | assumption))⟩, fun aaa haa => by repeat (first | rfl | refine hs_ne (by omega) ?_)⟩))))
        · skip
          refine k_if_eq (tgt := 35) C dX8_debt_28 (by decide) ⟨by omega, by omega⟩ (fun c28 => ?_) (fun c28 => ?_)
          · try (exfalso; omega)
            all_goals (
              refine k_iconst C dX8_debt_35 ?_
              refine k_put C (k := 5) inX8 tyX8_ok nmX8 (ci := 8) rfl (by decide) fl_X8_25 rfl (Nat.le_of_ble_eq_true rfl) dX8_debt_36 (by repeat (first | exact hs_eq _ _ _ | refine hs_ne (by omega) ?_ | assumption)) ?_
              refine k_aload_n C dX8_debt_39 rfl ?_
              refine k_get C (k := 5) inX8 (ci := 8) rfl (by decide) fl_X8_25 dX8_debt_40 (by repeat (first | exact hs_eq _ _ _ | refine hs_ne (by omega) ?_ | assumption)) rfl ?_
              refine k_if_le (tgt := 50) C dX8_debt_43 (by decide) ⟨by omega, by omega⟩ (fun c43 => ?_) (fun c43 => ?_)
              · try (exfalso; omega)
                all_goals (
                  refine k_aload_n C dX8_debt_50 rfl ?_
                  refine k_get C (k := 0) inX8 (ci := 8) rfl (by decide) fl_X8_7 dX8_debt_51 (by repeat (first | exact hs_eq _ _ _ | refine hs_ne (by omega) ?_ | assumption)) rfl ?_
                  refine k_bipush C dX8_debt_54 (by decide +kernel) ?_
                  refine k_iconst C dX8_debt_56 ?_
                  refine k_iload_n C dX8_debt_57 rfl ?_
                  refine k_imul C dX8_debt_58 ?_
                  refine k_iadd C dX8_debt_59 ?_
                  refine k_iload_n C dX8_debt_60 rfl ?_
                  refine k_iadd C dX8_debt_61 ?_
                  refine k_iaload C dX8_debt_62 (by repeat (first | exact hs_eq _ _ _ | refine hs_ne (by omega) ?_ | assumption)) (by omega) (by omega) (by omega) ?_
                  refine k_iret C hr dX8_debt_63 ?_
                  first
                    | exact Or.inl ⟨by omega, rfl, ⟨(by repeat (first | exact hs_eq _ _ _ | refine hs_ne (by omega) ?_ | assumption)), (by repeat (first | exact hs_eq _ _ _ | refine hs_ne (by omega) ?_ | assumption)), (by repeat (first | exact hs_eq _ _ _ | refine hs_ne (by omega) ?_ | assumption)), (by repeat (first | exact hs_eq _ _ _ | refine hs_ne (by omega) ?_ | assumption)), (by repeat (first | exact hs_eq _ _ _ | refine hs_ne (by omega) ?_ | assumption)), (by repeat (first | exact hs_eq _ _ _ | refine hs_ne (by omega) ?_ | assumption))⟩, fun aaa haa => by repeat (first | rfl | refine hs_ne (by omega) ?_)⟩
                    | exact Or.inr (Or.inl ⟨by omega, rfl, ⟨(by repeat (first | exact hs_eq _ _ _ | refine hs_ne (by omega) ?_ | assumption)), (by repeat (first | exact hs_eq _ _ _ | refine hs_ne (by omega) ?_ | assumption)), (by repeat (first | exact hs_eq _ _ _ | refine hs_ne (by omega) ?_ | assumption)), (by repeat (first | exact hs_eq _ _ _ | refine hs_ne (by omega) ?_ | assumption)), (by repeat (first | exact hs_eq _ _ _ | refine hs_ne (by omega) ?_ | assumption)), (by repeat (first | exact hs_eq _ _ _ | refine hs_ne (by omega) ?_ | assumption))⟩, fun aaa haa => by repeat (first | rfl | refine hs_ne (by omega) ?_)⟩)
                    | exact Or.inr (Or.inr (⟨by omega, rfl, ⟨(by repeat (first | exact hs_eq _ _ _ | refine hs_ne (by omega) ?_ | assumption)), (by repeat (first | exact hs_eq _ _ _ | refine hs_ne (by omega) ?_ | assumption)), (by repeat (first | exact hs_eq _ _ _ | refine hs_ne (by omega) ?_ | assumption)), (by repeat (first | exact hs_eq _ _ _ | refine hs_ne (by omega) ?_ | assumption)), (by repeat (first | exact hs_eq _ _ _ | refine hs_ne (by omega) ?_ | assumption)), (by repeat (first | exact hs_eq _ _ _ | refine hs_ne (by omega) ?_ | assumption))⟩, fun aaa haa => by repeat (first | rfl | refine hs_ne (by omega) ?_)⟩)))
              · try (exfalso; omega)
                all_goals (
                  refine k_iconst C dX8_debt_46 ?_
                  refine k_goto (tgt := 63) C dX8_debt_47 (by decide) ?_
                  refine k_iret C hr dX8_debt_63 ?_
                  first
                    | exact Or.inl ⟨by omega, rfl, ⟨(by repeat (first | exact hs_eq _ _ _ | refine hs_ne (by omega) ?_ | assumption)), (by repeat (first | exact hs_eq _ _ _ | refine hs_ne (by omega) ?_ | assumption)), (by repeat (first | exact hs_eq _ _ _ | refine hs_ne (by omega) ?_ | assumption)), (by repeat (first | exact hs_eq _ _ _ | refine hs_ne (by omega) ?_ | assumption)), (by repeat (first | exact hs_eq _ _ _ | refine hs_ne (by omega) ?_ | assumption)), (by repeat (first | exact hs_eq _ _ _ | refine hs_ne (by omega) ?_ | assumption))⟩, fun aaa haa => by repeat (first | rfl | refine hs_ne (by omega) ?_)⟩
                    | exact Or.inr (Or.inl ⟨by omega, rfl, ⟨(by repeat (first | exact hs_eq _ _ _ | refine hs_ne (by omega) ?_ | assumption)), (by repeat (first | exact hs_eq _ _ _ | refine hs_ne (by omega) ?_ | assumption)), (by repeat (first | exact hs_eq _ _ _ | refine hs_ne (by omega) ?_ | assumption)), (by repeat (first | exact hs_eq _ _ _ | refine hs_ne (by omega) ?_ | assumption)), (by repeat (first | exact hs_eq _ _ _ | refine hs_ne (by omega) ?_ | assumption)), (by repeat (first | exact hs_eq _ _ _ | refine hs_ne (by omega) ?_ | assumption))⟩, fun aaa haa => by repeat (first | rfl | refine hs_ne (by omega) ?_)⟩)
                    | exact Or.inr (Or.inr (⟨by omega, rfl, ⟨(by repeat (first | exact hs_eq _ _ _ | refine hs_ne (by omega) ?_ | assumption)), (by repeat (first | exact hs_eq _ _ _ | refine hs_ne (by omega) ?_ | assumption)), (by repeat (first | exact hs_eq _ _ _ | refine hs_ne (by omega) ?_ | assumption)), (by repeat (first | exact hs_eq _ _ _ | refine hs_ne (by omega) ?_ | assumption)), (by repeat (first | exact hs_eq _ _ _ | refine hs_ne (by omega) ?_ | assumption)), (by repeat (first | exact hs_eq _ _ _ | refine hs_ne (by omega) ?_ | assumption))⟩, fun aaa haa => by repeat (first | rfl | refine hs_ne (by omega) ?_)⟩))))
          · try (exfalso; omega)
            all_goals (
              refine k_iconst C dX8_debt_31 ?_
              refine k_goto (tgt := 36) C dX8_debt_32 (by decide) ?_
              refine k_put C (k := 5) inX8 tyX8_ok nmX8 (ci := 8) rfl (by decide) fl_X8_25 rfl (Nat.le_of_ble_eq_true rfl) dX8_debt_36 (by repeat (first | exact hs_eq _ _ _ | refine hs_ne (by omega) ?_ | assumption)) ?_
              refine k_aload_n C dX8_debt_39 rfl ?_
              refine k_get C (k := 5) inX8 (ci := 8) rfl (by decide) fl_X8_25 dX8_debt_40 (by repeat (first | exact hs_eq _ _ _ | refine hs_ne (by omega) ?_ | assumption)) rfl ?_
              refine k_if_le (tgt := 50) C dX8_debt_43 (by decide) ⟨by omega, by omega⟩ (fun c43 => ?_) (fun c43 => ?_)
              · try (exfalso; omega)
                all_goals (
                  refine k_aload_n C dX8_debt_50 rfl ?_
                  refine k_get C (k := 0) inX8 (ci := 8) rfl (by decide) fl_X8_7 dX8_debt_51 (by repeat (first | exact hs_eq _ _ _ | refine hs_ne (by omega) ?_ | assumption)) rfl ?_
                  refine k_bipush C dX8_debt_54 (by decide +kernel) ?_
                  refine k_iconst C dX8_debt_56 ?_
                  refine k_iload_n C dX8_debt_57 rfl ?_
                  refine k_imul C dX8_debt_58 ?_
                  refine k_iadd C dX8_debt_59 ?_
                  refine k_iload_n C dX8_debt_60 rfl ?_
                  refine k_iadd C dX8_debt_61 ?_
                  refine k_iaload C dX8_debt_62 (by repeat (first | exact hs_eq _ _ _ | refine hs_ne (by omega) ?_ | assumption)) (by omega) (by omega) (by omega) ?_
                  refine k_iret C hr dX8_debt_63 ?_
                  first
                    | exact Or.inl ⟨by omega, rfl, ⟨(by repeat (first | exact hs_eq _ _ _ | refine hs_ne (by omega) ?_ | assumption)), (by repeat (first | exact hs_eq _ _ _ | refine hs_ne (by omega) ?_ | assumption)), (by repeat (first | exact hs_eq _ _ _ | refine hs_ne (by omega) ?_ | assumption)), (by repeat (first | exact hs_eq _ _ _ | refine hs_ne (by omega) ?_ | assumption)), (by repeat (first | exact hs_eq _ _ _ | refine hs_ne (by omega) ?_ | assumption)), (by repeat (first | exact hs_eq _ _ _ | refine hs_ne (by omega) ?_ | assumption))⟩, fun aaa haa => by repeat (first | rfl | refine hs_ne (by omega) ?_)⟩
                    | exact Or.inr (Or.inl ⟨by omega, rfl, ⟨(by repeat (first | exact hs_eq _ _ _ | refine hs_ne (by omega) ?_ | assumption)), (by repeat (first | exact hs_eq _ _ _ | refine hs_ne (by omega) ?_ | assumption)), (by repeat (first | exact hs_eq _ _ _ | refine hs_ne (by omega) ?_ | assumption)), (by repeat (first | exact hs_eq _ _ _ | refine hs_ne (by omega) ?_ | assumption)), (by repeat (first | exact hs_eq _ _ _ | refine hs_ne (by omega) ?_ | assumption)), (by repeat (first | exact hs_eq _ _ _ | refine hs_ne (by omega) ?_ | assumption))⟩, fun aaa haa => by repeat (first | rfl | refine hs_ne (by omega) ?_)⟩)
                    | exact Or.inr (Or.inr (⟨by omega, rfl, ⟨(by repeat (first | exact hs_eq _ _ _ | refine hs_ne (by omega) ?_ | assumption)), (by repeat (first | exact hs_eq _ _ _ | refine hs_ne (by omega) ?_ | assumption)), (by repeat (first | exact hs_eq _ _ _ | refine hs_ne (by omega) ?_ | assumption)), (by repeat (first | exact hs_eq _ _ _ | refine hs_ne (by omega) ?_ | assumption)), (by repeat (first | exact hs_eq _ _ _ | refine hs_ne (by omega) ?_ | assumption)), (by repeat (first | exact hs_eq _ _ _ | refine hs_ne (by omega) ?_ | assumption))⟩, fun aaa haa => by repeat (first | rfl | refine hs_ne (by omega) ?_)⟩)))
              · try (exfalso; omega)
                all_goals (
                  refine k_iconst C dX8_debt_46 ?_
                  refine k_goto (tgt := 63) C dX8_debt_47 (by decide) ?_
                  refine k_iret C hr dX8_debt_63 ?_
                  first
                    | exact Or.inl ⟨by omega, rfl, ⟨(by repeat (first | exact hs_eq _ _ _ | refine hs_ne (by omega) ?_ | assumption)), (by repeat (first | exact hs_eq _ _ _ | refine hs_ne (by omega) ?_ | assumption)), (by repeat (first | exact hs_eq _ _ _ | refine hs_ne (by omega) ?_ | assumption)), (by repeat (first | exact hs_eq _ _ _ | refine hs_ne (by omega) ?_ | assumption)), (by repeat (first | exact hs_eq _ _ _ | refine hs_ne (by omega) ?_ | assumption)), (by repeat (first | exact hs_eq _ _ _ | refine hs_ne (by omega) ?_ | assumption))⟩, fun aaa haa => by repeat (first | rfl | refine hs_ne (by omega) ?_)⟩
                    | exact Or.inr (Or.inl ⟨by omega, rfl, ⟨(by repeat (first | exact hs_eq _ _ _ | refine hs_ne (by omega) ?_ | assumption)), (by repeat (first | exact hs_eq _ _ _ | refine hs_ne (by omega) ?_ | assumption)), (by repeat (first | exact hs_eq _ _ _ | refine hs_ne (by omega) ?_ | assumption)), (by repeat (first | exact hs_eq _ _ _ | refine hs_ne (by omega) ?_ | assumption)), (by repeat (first | exact hs_eq _ _ _ | refine hs_ne (by omega) ?_ | assumption)), (by repeat (first | exact hs_eq _ _ _ | refine hs_ne (by omega) ?_ | assumption))⟩, fun aaa haa => by repeat (first | rfl | refine hs_ne (by omega) ?_)⟩)
                    | exact Or.inr (Or.inr (⟨by omega, rfl, ⟨(by repeat (first | exact hs_eq _ _ _ | refine hs_ne (by omega) ?_ | assumption)), (by repeat (first | exact hs_eq _ _ _ | refine hs_ne (by omega) ?_ | assumption)), (by repeat (first | exact hs_eq _ _ _ | refine hs_ne (by omega) ?_ | assumption)), (by repeat (first | exact hs_eq _ _ _ | refine hs_ne (by omega) ?_ | assumption)), (by repeat (first | exact hs_eq _ _ _ | refine hs_ne (by omega) ?_ | assumption)), (by repeat (first | exact hs_eq _ _ _ | refine hs_ne (by omega) ?_ | assumption))⟩, fun aaa haa => by repeat (first | rfl | refine hs_ne (by omega) ?_)⟩)))))
    · try (exfalso; omega)
      all_goals (
        refine k_iconst C dX8_debt_18 ?_
        refine k_goto (tgt := 36) C dX8_debt_19 (by decide) ?_
        refine k_put C (k := 5) inX8 tyX8_ok nmX8 (ci := 8) rfl (by decide) fl_X8_25 rfl (Nat.le_of_ble_eq_true rfl) dX8_debt_36 (by repeat (first | exact hs_eq _ _ _ | refine hs_ne (by omega) ?_ | assumption)) ?_
        refine k_aload_n C dX8_debt_39 rfl ?_
        refine k_get C (k := 5) inX8 (ci := 8) rfl (by decide) fl_X8_25 dX8_debt_40 (by repeat (first | exact hs_eq _ _ _ | refine hs_ne (by omega) ?_ | assumption)) rfl ?_
        refine k_if_le (tgt := 50) C dX8_debt_43 (by decide) ⟨by omega, by omega⟩ (fun c43 => ?_) (fun c43 => ?_)
        · try (exfalso; omega)
          all_goals (
            refine k_aload_n C dX8_debt_50 rfl ?_
            refine k_get C (k := 0) inX8 (ci := 8) rfl (by decide) fl_X8_7 dX8_debt_51 (by repeat (first | exact hs_eq _ _ _ | refine hs_ne (by omega) ?_ | assumption)) rfl ?_
            refine k_bipush C dX8_debt_54 (by decide +kernel) ?_
            refine k_iconst C dX8_debt_56 ?_
            refine k_iload_n C dX8_debt_57 rfl ?_
            refine k_imul C dX8_debt_58 ?_
            refine k_iadd C dX8_debt_59 ?_
            refine k_iload_n C dX8_debt_60 rfl ?_
            refine k_iadd C dX8_debt_61 ?_
            refine k_iaload C dX8_debt_62 (by repeat (first | exact hs_eq _ _ _ | refine hs_ne (by omega) ?_ | assumption)) (by omega) (by omega) (by omega) ?_
            refine k_iret C hr dX8_debt_63 ?_
            first
              | exact Or.inl ⟨by omega, rfl, ⟨(by repeat (first | exact hs_eq _ _ _ | refine hs_ne (by omega) ?_ | assumption)), (by repeat (first | exact hs_eq _ _ _ | refine hs_ne (by omega) ?_ | assumption)), (by repeat (first | exact hs_eq _ _ _ | refine hs_ne (by omega) ?_ | assumption)), (by repeat (first | exact hs_eq _ _ _ | refine hs_ne (by omega) ?_ | assumption)), (by repeat (first | exact hs_eq _ _ _ | refine hs_ne (by omega) ?_ | assumption)), (by repeat (first | exact hs_eq _ _ _ | refine hs_ne (by omega) ?_ | assumption))⟩, fun aaa haa => by repeat (first | rfl | refine hs_ne (by omega) ?_)⟩
              | exact Or.inr (Or.inl ⟨by omega, rfl, ⟨(by repeat (first | exact hs_eq _ _ _ | refine hs_ne (by omega) ?_ | assumption)), (by repeat (first | exact hs_eq _ _ _ | refine hs_ne (by omega) ?_ | assumption)), (by repeat (first | exact hs_eq _ _ _ | refine hs_ne (by omega) ?_ | assumption)), (by repeat (first | exact hs_eq _ _ _ | refine hs_ne (by omega) ?_ | assumption)), (by repeat (first | exact hs_eq _ _ _ | refine hs_ne (by omega) ?_ | assumption)), (by repeat (first | exact hs_eq _ _ _ | refine hs_ne (by omega) ?_ | assumption))⟩, fun aaa haa => by repeat (first | rfl | refine hs_ne (by omega) ?_)⟩)
              | exact Or.inr (Or.inr (⟨by omega, rfl, ⟨(by repeat (first | exact hs_eq _ _ _ | refine hs_ne (by omega) ?_ | assumption)), (by repeat (first | exact hs_eq _ _ _ | refine hs_ne (by omega) ?_ | assumption)), (by repeat (first | exact hs_eq _ _ _ | refine hs_ne (by omega) ?_ | assumption)), (by repeat (first | exact hs_eq _ _ _ | refine hs_ne (by omega) ?_ | assumption)), (by repeat (first | exact hs_eq _ _ _ | refine hs_ne (by omega) ?_ | assumption)), (by repeat (first | exact hs_eq _ _ _ | refine hs_ne (by omega) ?_ | assumption))⟩, fun aaa haa => by repeat (first | rfl | refine hs_ne (by omega) ?_)⟩)))
        · try (exfalso; omega)
          all_goals (
            refine k_iconst C dX8_debt_46 ?_
            refine k_goto (tgt := 63) C dX8_debt_47 (by decide) ?_
            refine k_iret C hr dX8_debt_63 ?_
            first
              | exact Or.inl ⟨by omega, rfl, ⟨(by repeat (first | exact hs_eq _ _ _ | refine hs_ne (by omega) ?_ | assumption)), (by repeat (first | exact hs_eq _ _ _ | refine hs_ne (by omega) ?_ | assumption)), (by repeat (first | exact hs_eq _ _ _ | refine hs_ne (by omega) ?_ | assumption)), (by repeat (first | exact hs_eq _ _ _ | refine hs_ne (by omega) ?_ | assumption)), (by repeat (first | exact hs_eq _ _ _ | refine hs_ne (by omega) ?_ | assumption)), (by repeat (first | exact hs_eq _ _ _ | refine hs_ne (by omega) ?_ | assumption))⟩, fun aaa haa => by repeat (first | rfl | refine hs_ne (by omega) ?_)⟩
              | exact Or.inr (Or.inl ⟨by omega, rfl, ⟨(by repeat (first | exact hs_eq _ _ _ | refine hs_ne (by omega) ?_ | assumption)), (by repeat (first | exact hs_eq _ _ _ | refine hs_ne (by omega) ?_ | assumption)), (by repeat (first | exact hs_eq _ _ _ | refine hs_ne (by omega) ?_ | assumption)), (by repeat (first | exact hs_eq _ _ _ | refine hs_ne (by omega) ?_ | assumption)), (by repeat (first | exact hs_eq _ _ _ | refine hs_ne (by omega) ?_ | assumption)), (by repeat (first | exact hs_eq _ _ _ | refine hs_ne (by omega) ?_ | assumption))⟩, fun aaa haa => by repeat (first | rfl | refine hs_ne (by omega) ?_)⟩)
              | exact Or.inr (Or.inr (⟨by omega, rfl, ⟨(by repeat (first | exact hs_eq _ _ _ | refine hs_ne (by omega) ?_ | assumption)), (by repeat (first | exact hs_eq _ _ _ | refine hs_ne (by omega) ?_ | assumption)), (by repeat (first | exact hs_eq _ _ _ | refine hs_ne (by omega) ?_ | assumption)), (by repeat (first | exact hs_eq _ _ _ | refine hs_ne (by omega) ?_ | assumption)), (by repeat (first | exact hs_eq _ _ _ | refine hs_ne (by omega) ?_ | assumption)), (by repeat (first | exact hs_eq _ _ _ | refine hs_ne (by omega) ?_ | assumption))⟩, fun aaa haa => by repeat (first | rfl | refine hs_ne (by omega) ?_)⟩))))
  · skip
    refine k_if_ne (tgt := 22) C dX8_debt_15 (by decide) ⟨by omega, by omega⟩ (fun c15 => ?_) (fun c15 => ?_)
    · try (exfalso; omega)
      all_goals (
        refine k_iload_n C dX8_debt_22 rfl ?_
        refine k_iconst C dX8_debt_23 ?_
        refine k_iconst C dX8_debt_24 ?_
        refine k_callS C (n := 3) (as := [_, _, _]) (ct_X8_within l D tc base _ _ _ _ hqq ⟨by omega, by omega⟩ ⟨by omega, by omega⟩) ml_X8_92 sm_X8_within ini_X8 co_X8_within ⟨by decide, by decide, by decide +kernel⟩ rfl ⟨by decide, by decide⟩ rfl (Nat.le_of_ble_eq_true rfl) ⟨Nat.zero_le _, Nat.zero_le _⟩ dX8_debt_25 ?_
        rintro _ _ (⟨rfl, rfl, hq25⟩ | ⟨rfl, rfl, hq25⟩)
        · skip
          refine k_if_eq (tgt := 35) C dX8_debt_28 (by decide) ⟨by omega, by omega⟩ (fun c28 => ?_) (fun c28 => ?_)
          · try (exfalso; omega)
            all_goals (
              refine k_iconst C dX8_debt_35 ?_
              refine k_put C (k := 5) inX8 tyX8_ok nmX8 (ci := 8) rfl (by decide) fl_X8_25 rfl (Nat.le_of_ble_eq_true rfl) dX8_debt_36 (by repeat (first | exact hs_eq _ _ _ | refine hs_ne (by omega) ?_ | assumption)) ?_
              refine k_aload_n C dX8_debt_39 rfl ?_
              refine k_get C (k := 5) inX8 (ci := 8) rfl (by decide) fl_X8_25 dX8_debt_40 (by repeat (first | exact hs_eq _ _ _ | refine hs_ne (by omega) ?_ | assumption)) rfl ?_
              refine k_if_le (tgt := 50) C dX8_debt_43 (by decide) ⟨by omega, by omega⟩ (fun c43 => ?_) (fun c43 => ?_)
              · try (exfalso; omega)
                all_goals (
                  refine k_aload_n C dX8_debt_50 rfl ?_
                  refine k_get C (k := 0) inX8 (ci := 8) rfl (by decide) fl_X8_7 dX8_debt_51 (by repeat (first | exact hs_eq _ _ _ | refine hs_ne (by omega) ?_ | assumption)) rfl ?_
                  refine k_bipush C dX8_debt_54 (by decide +kernel) ?_
                  refine k_iconst C dX8_debt_56 ?_
                  refine k_iload_n C dX8_debt_57 rfl ?_
                  refine k_imul C dX8_debt_58 ?_
                  refine k_iadd C dX8_debt_59 ?_
                  refine k_iload_n C dX8_debt_60 rfl ?_
                  refine k_iadd C dX8_debt_61 ?_
                  refine k_iaload C dX8_debt_62 (by repeat (first | exact hs_eq _ _ _ | refine hs_ne (by omega) ?_ | assumption)) (by omega) (by omega) (by omega) ?_
                  refine k_iret C hr dX8_debt_63 ?_
                  first
                    | exact Or.inl ⟨by omega, rfl, ⟨(by repeat (first | exact hs_eq _ _ _ | refine hs_ne (by omega) ?_ | assumption)), (by repeat (first | exact hs_eq _ _ _ | refine hs_ne (by omega) ?_ | assumption)), (by repeat (first | exact hs_eq _ _ _ | refine hs_ne (by omega) ?_ | assumption)), (by repeat (first | exact hs_eq _ _ _ | refine hs_ne (by omega) ?_ | assumption)), (by repeat (first | exact hs_eq _ _ _ | refine hs_ne (by omega) ?_ | assumption)), (by repeat (first | exact hs_eq _ _ _ | refine hs_ne (by omega) ?_ | assumption))⟩, fun aaa haa => by repeat (first | rfl | refine hs_ne (by omega) ?_)⟩
                    | exact Or.inr (Or.inl ⟨by omega, rfl, ⟨(by repeat (first | exact hs_eq _ _ _ | refine hs_ne (by omega) ?_ | assumption)), (by repeat (first | exact hs_eq _ _ _ | refine hs_ne (by omega) ?_ | assumption)), (by repeat (first | exact hs_eq _ _ _ | refine hs_ne (by omega) ?_ | assumption)), (by repeat (first | exact hs_eq _ _ _ | refine hs_ne (by omega) ?_ | assumption)), (by repeat (first | exact hs_eq _ _ _ | refine hs_ne (by omega) ?_ | assumption)), (by repeat (first | exact hs_eq _ _ _ | refine hs_ne (by omega) ?_ | assumption))⟩, fun aaa haa => by repeat (first | rfl | refine hs_ne (by omega) ?_)⟩)
                    | exact Or.inr (Or.inr (⟨by omega, rfl, ⟨(by repeat (first | exact hs_eq _ _ _ | refine hs_ne (by omega) ?_ | assumption)), (by repeat (first | exact hs_eq _ _ _ | refine hs_ne (by omega) ?_ | assumption)), (by repeat (first | exact hs_eq _ _ _ | refine hs_ne (by omega) ?_ | assumption)), (by repeat (first | exact hs_eq _ _ _ | refine hs_ne (by omega) ?_ | assumption)), (by repeat (first | exact hs_eq _ _ _ | refine hs_ne (by omega) ?_ | assumption)), (by repeat (first | exact hs_eq _ _ _ | refine hs_ne (by omega) ?_ | assumption))⟩, fun aaa haa => by repeat (first | rfl | refine hs_ne (by omega) ?_)⟩)))
              · try (exfalso; omega)
                all_goals (
                  refine k_iconst C dX8_debt_46 ?_
                  refine k_goto (tgt := 63) C dX8_debt_47 (by decide) ?_
                  refine k_iret C hr dX8_debt_63 ?_
                  first
                    | exact Or.inl ⟨by omega, rfl, ⟨(by repeat (first | exact hs_eq _ _ _ | refine hs_ne (by omega) ?_ | assumption)), (by repeat (first | exact hs_eq _ _ _ | refine hs_ne (by omega) ?_ | assumption)), (by repeat (first | exact hs_eq _ _ _ | refine hs_ne (by omega) ?_ | assumption)), (by repeat (first | exact hs_eq _ _ _ | refine hs_ne (by omega) ?_ | assumption)), (by repeat (first | exact hs_eq _ _ _ | refine hs_ne (by omega) ?_ | assumption)), (by repeat (first | exact hs_eq _ _ _ | refine hs_ne (by omega) ?_ | assumption))⟩, fun aaa haa => by repeat (first | rfl | refine hs_ne (by omega) ?_)⟩
                    | exact Or.inr (Or.inl ⟨by omega, rfl, ⟨(by repeat (first | exact hs_eq _ _ _ | refine hs_ne (by omega) ?_ | assumption)), (by repeat (first | exact hs_eq _ _ _ | refine hs_ne (by omega) ?_ | assumption)), (by repeat (first | exact hs_eq _ _ _ | refine hs_ne (by omega) ?_ | assumption)), (by repeat (first | exact hs_eq _ _ _ | refine hs_ne (by omega) ?_ | assumption)), (by repeat (first | exact hs_eq _ _ _ | refine hs_ne (by omega) ?_ | assumption)), (by repeat (first | exact hs_eq _ _ _ | refine hs_ne (by omega) ?_ | assumption))⟩, fun aaa haa => by repeat (first | rfl | refine hs_ne (by omega) ?_)⟩)
                    | exact Or.inr (Or.inr (⟨by omega, rfl, ⟨(by repeat (first | exact hs_eq _ _ _ | refine hs_ne (by omega) ?_ | assumption)), (by repeat (first | exact hs_eq _ _ _ | refine hs_ne (by omega) ?_ | assumption)), (by repeat (first | exact hs_eq _ _ _ | refine hs_ne (by omega) ?_ | assumption)), (by repeat (first | exact hs_eq _ _ _ | refine hs_ne (by omega) ?_ | assumption)), (by repeat (first | exact hs_eq _ _ _ | refine hs_ne (by omega) ?_ | assumption)), (by repeat (first | exact hs_eq _ _ _ | refine hs_ne (by omega) ?_ | assumption))⟩, fun aaa haa => by repeat (first | rfl | refine hs_ne (by omega) ?_)⟩))))
          · try (exfalso; omega)
            all_goals (
              refine k_iconst C dX8_debt_31 ?_
              refine k_goto (tgt := 36) C dX8_debt_32 (by decide) ?_
              refine k_put C (k := 5) inX8 tyX8_ok nmX8 (ci := 8) rfl (by decide) fl_X8_25 rfl (Nat.le_of_ble_eq_true rfl) dX8_debt_36 (by repeat (first | exact hs_eq _ _ _ | refine hs_ne (by omega) ?_ | assumption)) ?_
              refine k_aload_n C dX8_debt_39 rfl ?_
              refine k_get C (k := 5) inX8 (ci := 8) rfl (by decide) fl_X8_25 dX8_debt_40 (by repeat (first | exact hs_eq _ _ _ | refine hs_ne (by omega) ?_ | assumption)) rfl ?_
              refine k_if_le (tgt := 50) C dX8_debt_43 (by decide) ⟨by omega, by omega⟩ (fun c43 => ?_) (fun c43 => ?_)
              · try (exfalso; omega)
                all_goals (
                  refine k_aload_n C dX8_debt_50 rfl ?_
                  refine k_get C (k := 0) inX8 (ci := 8) rfl (by decide) fl_X8_7 dX8_debt_51 (by repeat (first | exact hs_eq _ _ _ | refine hs_ne (by omega) ?_ | assumption)) rfl ?_
                  refine k_bipush C dX8_debt_54 (by decide +kernel) ?_
                  refine k_iconst C dX8_debt_56 ?_
                  refine k_iload_n C dX8_debt_57 rfl ?_
                  refine k_imul C dX8_debt_58 ?_
                  refine k_iadd C dX8_debt_59 ?_
                  refine k_iload_n C dX8_debt_60 rfl ?_
                  refine k_iadd C dX8_debt_61 ?_
                  refine k_iaload C dX8_debt_62 (by repeat (first | exact hs_eq _ _ _ | refine hs_ne (by omega) ?_ | assumption)) (by omega) (by omega) (by omega) ?_
                  refine k_iret C hr dX8_debt_63 ?_
                  first
                    | exact Or.inl ⟨by omega, rfl, ⟨(by repeat (first | exact hs_eq _ _ _ | refine hs_ne (by omega) ?_ | assumption)), (by repeat (first | exact hs_eq _ _ _ | refine hs_ne (by omega) ?_ | assumption)), (by repeat (first | exact hs_eq _ _ _ | refine hs_ne (by omega) ?_ | assumption)), (by repeat (first | exact hs_eq _ _ _ | refine hs_ne (by omega) ?_ | assumption)), (by repeat (first | exact hs_eq _ _ _ | refine hs_ne (by omega) ?_ | assumption)), (by repeat (first | exact hs_eq _ _ _ | refine hs_ne (by omega) ?_ | assumption))⟩, fun aaa haa => by repeat (first | rfl | refine hs_ne (by omega) ?_)⟩
                    | exact Or.inr (Or.inl ⟨by omega, rfl, ⟨(by repeat (first | exact hs_eq _ _ _ | refine hs_ne (by omega) ?_ | assumption)), (by repeat (first | exact hs_eq _ _ _ | refine hs_ne (by omega) ?_ | assumption)), (by repeat (first | exact hs_eq _ _ _ | refine hs_ne (by omega) ?_ | assumption)), (by repeat (first | exact hs_eq _ _ _ | refine hs_ne (by omega) ?_ | assumption)), (by repeat (first | exact hs_eq _ _ _ | refine hs_ne (by omega) ?_ | assumption)), (by repeat (first | exact hs_eq _ _ _ | refine hs_ne (by omega) ?_ | assumption))⟩, fun aaa haa => by repeat (first | rfl | refine hs_ne (by omega) ?_)⟩)
                    | exact Or.inr (Or.inr (⟨by omega, rfl, ⟨(by repeat (first | exact hs_eq _ _ _ | refine hs_ne (by omega) ?_ | assumption)), (by repeat (first | exact hs_eq _ _ _ | refine hs_ne (by omega) ?_ | assumption)), (by repeat (first | exact hs_eq _ _ _ | refine hs_ne (by omega) ?_ | assumption)), (by repeat (first | exact hs_eq _ _ _ | refine hs_ne (by omega) ?_ | assumption)), (by repeat (first | exact hs_eq _ _ _ | refine hs_ne (by omega) ?_ | assumption)), (by repeat (first | exact hs_eq _ _ _ | refine hs_ne (by omega) ?_ | assumption))⟩, fun aaa haa => by repeat (first | rfl | refine hs_ne (by omega) ?_)⟩)))
              · try (exfalso; omega)
                all_goals (
                  refine k_iconst C dX8_debt_46 ?_
                  refine k_goto (tgt := 63) C dX8_debt_47 (by decide) ?_
                  refine k_iret C hr dX8_debt_63 ?_
                  first
                    | exact Or.inl ⟨by omega, rfl, ⟨(by repeat (first | exact hs_eq _ _ _ | refine hs_ne (by omega) ?_ | assumption)), (by repeat (first | exact hs_eq _ _ _ | refine hs_ne (by omega) ?_ | assumption)), (by repeat (first | exact hs_eq _ _ _ | refine hs_ne (by omega) ?_ | assumption)), (by repeat (first | exact hs_eq _ _ _ | refine hs_ne (by omega) ?_ | assumption)), (by repeat (first | exact hs_eq _ _ _ | refine hs_ne (by omega) ?_ | assumption)), (by repeat (first | exact hs_eq _ _ _ | refine hs_ne (by omega) ?_ | assumption))⟩, fun aaa haa => by repeat (first | rfl | refine hs_ne (by omega) ?_)⟩
                    | exact Or.inr (Or.inl ⟨by omega, rfl, ⟨(by repeat (first | exact hs_eq _ _ _ | refine hs_ne (by omega) ?_ | assumption)), (by repeat (first | exact hs_eq _ _ _ | refine hs_ne (by omega) ?_ | assumption)), (by repeat (first | exact hs_eq _ _ _ | refine hs_ne (by omega) ?_ | assumption)), (by repeat (first | exact hs_eq _ _ _ | refine hs_ne (by omega) ?_ | assumption)), (by repeat (first | exact hs_eq _ _ _ | refine hs_ne (by omega) ?_ | assumption)), (by repeat (first | exact hs_eq _ _ _ | refine hs_ne (by omega) ?_ | assumption))⟩, fun aaa haa => by repeat (first | rfl | refine hs_ne (by omega) ?_)⟩)
                    | exact Or.inr (Or.inr (⟨by omega, rfl, ⟨(by repeat (first | exact hs_eq _ _ _ | refine hs_ne (by omega) ?_ | assumption)), (by repeat (first | exact hs_eq _ _ _ | refine hs_ne (by omega) ?_ | assumption)), (by repeat (first | exact hs_eq _ _ _ | refine hs_ne (by omega) ?_ | assumption)), (by repeat (first | exact hs_eq _ _ _ | refine hs_ne (by omega) ?_ | assumption)), (by repeat (first | exact hs_eq _ _ _ | refine hs_ne (by omega) ?_ | assumption)), (by repeat (first | exact hs_eq _ _ _ | refine hs_ne (by omega) ?_ | assumption))⟩, fun aaa haa => by repeat (first | rfl | refine hs_ne (by omega) ?_)⟩))))
        · skip
          refine k_if_eq (tgt := 35) C dX8_debt_28 (by decide) ⟨by omega, by omega⟩ (fun c28 => ?_) (fun c28 => ?_)
          · try (exfalso; omega)
            all_goals (
              refine k_iconst C dX8_debt_35 ?_
              refine k_put C (k := 5) inX8 tyX8_ok nmX8 (ci := 8) rfl (by decide) fl_X8_25 rfl (Nat.le_of_ble_eq_true rfl) dX8_debt_36 (by repeat (first | exact hs_eq _ _ _ | refine hs_ne (by omega) ?_ | assumption)) ?_
              refine k_aload_n C dX8_debt_39 rfl ?_
              refine k_get C (k := 5) inX8 (ci := 8) rfl (by decide) fl_X8_25 dX8_debt_40 (by repeat (first | exact hs_eq _ _ _ | refine hs_ne (by omega) ?_ | assumption)) rfl ?_
              refine k_if_le (tgt := 50) C dX8_debt_43 (by decide) ⟨by omega, by omega⟩ (fun c43 => ?_) (fun c43 => ?_)
              · try (exfalso; omega)
                all_goals (
                  refine k_aload_n C dX8_debt_50 rfl ?_
                  refine k_get C (k := 0) inX8 (ci := 8) rfl (by decide) fl_X8_7 dX8_debt_51 (by repeat (first | exact hs_eq _ _ _ | refine hs_ne (by omega) ?_ | assumption)) rfl ?_
                  refine k_bipush C dX8_debt_54 (by decide +kernel) ?_
                  refine k_iconst C dX8_debt_56 ?_
                  refine k_iload_n C dX8_debt_57 rfl ?_
                  refine k_imul C dX8_debt_58 ?_
                  refine k_iadd C dX8_debt_59 ?_
                  refine k_iload_n C dX8_debt_60 rfl ?_
                  refine k_iadd C dX8_debt_61 ?_
                  refine k_iaload C dX8_debt_62 (by repeat (first | exact hs_eq _ _ _ | refine hs_ne (by omega) ?_ | assumption)) (by omega) (by omega) (by omega) ?_
                  refine k_iret C hr dX8_debt_63 ?_
                  first
                    | exact Or.inl ⟨by omega, rfl, ⟨(by repeat (first | exact hs_eq _ _ _ | refine hs_ne (by omega) ?_ | assumption)), (by repeat (first | exact hs_eq _ _ _ | refine hs_ne (by omega) ?_ | assumption)), (by repeat (first | exact hs_eq _ _ _ | refine hs_ne (by omega) ?_ | assumption)), (by repeat (first | exact hs_eq _ _ _ | refine hs_ne (by omega) ?_ | assumption)), (by repeat (first | exact hs_eq _ _ _ | refine hs_ne (by omega) ?_ | assumption)), (by repeat (first | exact hs_eq _ _ _ | refine hs_ne (by omega) ?_ | assumption))⟩, fun aaa haa => by repeat (first | rfl | refine hs_ne (by omega) ?_)⟩
                    | exact Or.inr (Or.inl ⟨by omega, rfl, ⟨(by repeat (first | exact hs_eq _ _ _ | refine hs_ne (by omega) ?_ | assumption)), (by repeat (first | exact hs_eq _ _ _ | refine hs_ne (by omega) ?_ | assumption)), (by repeat (first | exact hs_eq _ _ _ | refine hs_ne (by omega) ?_ | assumption)), (by repeat (first | exact hs_eq _ _ _ | refine hs_ne (by omega) ?_ | assumption)), (by repeat (first | exact hs_eq _ _ _ | refine hs_ne (by omega) ?_ | assumption)), (by repeat (first | exact hs_eq _ _ _ | refine hs_ne (by omega) ?_ | assumption))⟩, fun aaa haa => by repeat (first | rfl | refine hs_ne (by omega) ?_)⟩)
                    | exact Or.inr (Or.inr (⟨by omega, rfl, ⟨(by repeat (first | exact hs_eq _ _ _ | refine hs_ne (by omega) ?_ | assumption)), (by repeat (first | exact hs_eq _ _ _ | refine hs_ne (by omega) ?_ | assumption)), (by repeat (first | exact hs_eq _ _ _ | refine hs_ne (by omega) ?_ | assumption)), (by repeat (first | exact hs_eq _ _ _ | refine hs_ne (by omega) ?_ | assumption)), (by repeat (first | exact hs_eq _ _ _ | refine hs_ne (by omega) ?_ | assumption)), (by repeat (first | exact hs_eq _ _ _ | refine hs_ne (by omega) ?_ | assumption))⟩, fun aaa haa => by repeat (first | rfl | refine hs_ne (by omega) ?_)⟩)))
              · try (exfalso; omega)
                all_goals (
                  refine k_iconst C dX8_debt_46 ?_
                  refine k_goto (tgt := 63) C dX8_debt_47 (by decide) ?_
                  refine k_iret C hr dX8_debt_63 ?_
                  first
                    | exact Or.inl ⟨by omega, rfl, ⟨(by repeat (first | exact hs_eq _ _ _ | refine hs_ne (by omega) ?_ | assumption)), (by repeat (first | exact hs_eq _ _ _ | refine hs_ne (by omega) ?_ | assumption)), (by repeat (first | exact hs_eq _ _ _ | refine hs_ne (by omega) ?_ | assumption)), (by repeat (first | exact hs_eq _ _ _ | refine hs_ne (by omega) ?_ | assumption)), (by repeat (first | exact hs_eq _ _ _ | refine hs_ne (by omega) ?_ | assumption)), (by repeat (first | exact hs_eq _ _ _ | refine hs_ne (by omega) ?_ | assumption))⟩, fun aaa haa => by repeat (first | rfl | refine hs_ne (by omega) ?_)⟩
                    | exact Or.inr (Or.inl ⟨by omega, rfl, ⟨(by repeat (first | exact hs_eq _ _ _ | refine hs_ne (by omega) ?_ | assumption)), (by repeat (first | exact hs_eq _ _ _ | refine hs_ne (by omega) ?_ | assumption)), (by repeat (first | exact hs_eq _ _ _ | refine hs_ne (by omega) ?_ | assumption)), (by repeat (first | exact hs_eq _ _ _ | refine hs_ne (by omega) ?_ | assumption)), (by repeat (first | exact hs_eq _ _ _ | refine hs_ne (by omega) ?_ | assumption)), (by repeat (first | exact hs_eq _ _ _ | refine hs_ne (by omega) ?_ | assumption))⟩, fun aaa haa => by repeat (first | rfl | refine hs_ne (by omega) ?_)⟩)
                    | exact Or.inr (Or.inr (⟨by omega, rfl, ⟨(by repeat (first | exact hs_eq _ _ _ | refine hs_ne (by omega) ?_ | assumption)), (by repeat (first | exact hs_eq _ _ _ | refine hs_ne (by omega) ?_ | assumption)), (by repeat (first | exact hs_eq _ _ _ | refine hs_ne (by omega) ?_ | assumption)), (by repeat (first | exact hs_eq _ _ _ | refine hs_ne (by omega) ?_ | assumption)), (by repeat (first | exact hs_eq _ _ _ | refine hs_ne (by omega) ?_ | assumption)), (by repeat (first | exact hs_eq _ _ _ | refine hs_ne (by omega) ?_ | assumption))⟩, fun aaa haa => by repeat (first | rfl | refine hs_ne (by omega) ?_)⟩))))
          · try (exfalso; omega)
            all_goals (
              refine k_iconst C dX8_debt_31 ?_
              refine k_goto (tgt := 36) C dX8_debt_32 (by decide) ?_
              refine k_put C (k := 5) inX8 tyX8_ok nmX8 (ci := 8) rfl (by decide) fl_X8_25 rfl (Nat.le_of_ble_eq_true rfl) dX8_debt_36 (by repeat (first | exact hs_eq _ _ _ | refine hs_ne (by omega) ?_ | assumption)) ?_
              refine k_aload_n C dX8_debt_39 rfl ?_
              refine k_get C (k := 5) inX8 (ci := 8) rfl (by decide) fl_X8_25 dX8_debt_40 (by repeat (first | exact hs_eq _ _ _ | refine hs_ne (by omega) ?_ | assumption)) rfl ?_
              refine k_if_le (tgt := 50) C dX8_debt_43 (by decide) ⟨by omega, by omega⟩ (fun c43 => ?_) (fun c43 => ?_)
              · try (exfalso; omega)
                all_goals (
                  refine k_aload_n C dX8_debt_50 rfl ?_
                  refine k_get C (k := 0) inX8 (ci := 8) rfl (by decide) fl_X8_7 dX8_debt_51 (by repeat (first | exact hs_eq _ _ _ | refine hs_ne (by omega) ?_ | assumption)) rfl ?_
                  refine k_bipush C dX8_debt_54 (by decide +kernel) ?_
                  refine k_iconst C dX8_debt_56 ?_
                  refine k_iload_n C dX8_debt_57 rfl ?_
                  refine k_imul C dX8_debt_58 ?_
                  refine k_iadd C dX8_debt_59 ?_
                  refine k_iload_n C dX8_debt_60 rfl ?_
                  refine k_iadd C dX8_debt_61 ?_
                  refine k_iaload C dX8_debt_62 (by repeat (first | exact hs_eq _ _ _ | refine hs_ne (by omega) ?_ | assumption)) (by omega) (by omega) (by omega) ?_
                  refine k_iret C hr dX8_debt_63 ?_
                  first
                    | exact Or.inl ⟨by omega, rfl, ⟨(by repeat (first | exact hs_eq _ _ _ | refine hs_ne (by omega) ?_ | assumption)), (by repeat (first | exact hs_eq _ _ _ | refine hs_ne (by omega) ?_ | assumption)), (by repeat (first | exact hs_eq _ _ _ | refine hs_ne (by omega) ?_ | assumption)), (by repeat (first | exact hs_eq _ _ _ | refine hs_ne (by omega) ?_ | assumption)), (by repeat (first | exact hs_eq _ _ _ | refine hs_ne (by omega) ?_ | assumption)), (by repeat (first | exact hs_eq _ _ _ | refine hs_ne (by omega) ?_ | assumption))⟩, fun aaa haa => by repeat (first | rfl | refine hs_ne (by omega) ?_)⟩
                    | exact Or.inr (Or.inl ⟨by omega, rfl, ⟨(by repeat (first | exact hs_eq _ _ _ | refine hs_ne (by omega) ?_ | assumption)), (by repeat (first | exact hs_eq _ _ _ | refine hs_ne (by omega) ?_ | assumption)), (by repeat (first | exact hs_eq _ _ _ | refine hs_ne (by omega) ?_ | assumption)), (by repeat (first | exact hs_eq _ _ _ | refine hs_ne (by omega) ?_ | assumption)), (by repeat (first | exact hs_eq _ _ _ | refine hs_ne (by omega) ?_ | assumption)), (by repeat (first | exact hs_eq _ _ _ | refine hs_ne (by omega) ?_ | assumption))⟩, fun aaa haa => by repeat (first | rfl | refine hs_ne (by omega) ?_)⟩)
                    | exact Or.inr (Or.inr (⟨by omega, rfl, ⟨(by repeat (first | exact hs_eq _ _ _ | refine hs_ne (by omega) ?_ | assumption)), (by repeat (first | exact hs_eq _ _ _ | refine hs_ne (by omega) ?_ | assumption)), (by repeat (first | exact hs_eq _ _ _ | refine hs_ne (by omega) ?_ | assumption)), (by repeat (first | exact hs_eq _ _ _ | refine hs_ne (by omega) ?_ | assumption)), (by repeat (first | exact hs_eq _ _ _ | refine hs_ne (by omega) ?_ | assumption)), (by repeat (first | exact hs_eq _ _ _ | refine hs_ne (by omega) ?_ | assumption))⟩, fun aaa haa => by repeat (first | rfl | refine hs_ne (by omega) ?_)⟩)))
              · try (exfalso; omega)
                all_goals (
                  refine k_iconst C dX8_debt_46 ?_
                  refine k_goto (tgt := 63) C dX8_debt_47 (by decide) ?_
                  refine k_iret C hr dX8_debt_63 ?_
                  first
                    | exact Or.inl ⟨by omega, rfl, ⟨(by repeat (first | exact hs_eq _ _ _ | refine hs_ne (by omega) ?_ | assumption)), (by repeat (first | exact hs_eq _ _ _ | refine hs_ne (by omega) ?_ | assumption)), (by repeat (first | exact hs_eq _ _ _ | refine hs_ne (by omega) ?_ | assumption)), (by repeat (first | exact hs_eq _ _ _ | refine hs_ne (by omega) ?_ | assumption)), (by repeat (first | exact hs_eq _ _ _ | refine hs_ne (by omega) ?_ | assumption)), (by repeat (first | exact hs_eq _ _ _ | refine hs_ne (by omega) ?_ | assumption))⟩, fun aaa haa => by repeat (first | rfl | refine hs_ne (by omega) ?_)⟩
                    | exact Or.inr (Or.inl ⟨by omega, rfl, ⟨(by repeat (first | exact hs_eq _ _ _ | refine hs_ne (by omega) ?_ | assumption)), (by repeat (first | exact hs_eq _ _ _ | refine hs_ne (by omega) ?_ | assumption)), (by repeat (first | exact hs_eq _ _ _ | refine hs_ne (by omega) ?_ | assumption)), (by repeat (first | exact hs_eq _ _ _ | refine hs_ne (by omega) ?_ | assumption)), (by repeat (first | exact hs_eq _ _ _ | refine hs_ne (by omega) ?_ | assumption)), (by repeat (first | exact hs_eq _ _ _ | refine hs_ne (by omega) ?_ | assumption))⟩, fun aaa haa => by repeat (first | rfl | refine hs_ne (by omega) ?_)⟩)
                    | exact Or.inr (Or.inr (⟨by omega, rfl, ⟨(by repeat (first | exact hs_eq _ _ _ | refine hs_ne (by omega) ?_ | assumption)), (by repeat (first | exact hs_eq _ _ _ | refine hs_ne (by omega) ?_ | assumption)), (by repeat (first | exact hs_eq _ _ _ | refine hs_ne (by omega) ?_ | assumption)), (by repeat (first | exact hs_eq _ _ _ | refine hs_ne (by omega) ?_ | assumption)), (by repeat (first | exact hs_eq _ _ _ | refine hs_ne (by omega) ?_ | assumption)), (by repeat (first | exact hs_eq _ _ _ | refine hs_ne (by omega) ?_ | assumption))⟩, fun aaa haa => by repeat (first | rfl | refine hs_ne (by omega) ?_)⟩)))))
    · try (exfalso; omega)
      all_goals (
        refine k_iconst C dX8_debt_18 ?_
        refine k_goto (tgt := 36) C dX8_debt_19 (by decide) ?_
        refine k_put C (k := 5) inX8 tyX8_ok nmX8 (ci := 8) rfl (by decide) fl_X8_25 rfl (Nat.le_of_ble_eq_true rfl) dX8_debt_36 (by repeat (first | exact hs_eq _ _ _ | refine hs_ne (by omega) ?_ | assumption)) ?_
        refine k_aload_n C dX8_debt_39 rfl ?_
        refine k_get C (k := 5) inX8 (ci := 8) rfl (by decide) fl_X8_25 dX8_debt_40 (by repeat (first | exact hs_eq _ _ _ | refine hs_ne (by omega) ?_ | assumption)) rfl ?_
        refine k_if_le (tgt := 50) C dX8_debt_43 (by decide) ⟨by omega, by omega⟩ (fun c43 => ?_) (fun c43 => ?_)
        · try (exfalso; omega)
          all_goals (
            refine k_aload_n C dX8_debt_50 rfl ?_
            refine k_get C (k := 0) inX8 (ci := 8) rfl (by decide) fl_X8_7 dX8_debt_51 (by repeat (first | exact hs_eq _ _ _ | refine hs_ne (by omega) ?_ | assumption)) rfl ?_
            refine k_bipush C dX8_debt_54 (by decide +kernel) ?_
            refine k_iconst C dX8_debt_56 ?_
            refine k_iload_n C dX8_debt_57 rfl ?_
            refine k_imul C dX8_debt_58 ?_
            refine k_iadd C dX8_debt_59 ?_
            refine k_iload_n C dX8_debt_60 rfl ?_
            refine k_iadd C dX8_debt_61 ?_
            refine k_iaload C dX8_debt_62 (by repeat (first | exact hs_eq _ _ _ | refine hs_ne (by omega) ?_ | assumption)) (by omega) (by omega) (by omega) ?_
            refine k_iret C hr dX8_debt_63 ?_
            first
              | exact Or.inl ⟨by omega, rfl, ⟨(by repeat (first | exact hs_eq _ _ _ | refine hs_ne (by omega) ?_ | assumption)), (by repeat (first | exact hs_eq _ _ _ | refine hs_ne (by omega) ?_ | assumption)), (by repeat (first | exact hs_eq _ _ _ | refine hs_ne (by omega) ?_ | assumption)), (by repeat (first | exact hs_eq _ _ _ | refine hs_ne (by omega) ?_ | assumption)), (by repeat (first | exact hs_eq _ _ _ | refine hs_ne (by omega) ?_ | assumption)), (by repeat (first | exact hs_eq _ _ _ | refine hs_ne (by omega) ?_ | assumption))⟩, fun aaa haa => by repeat (first | rfl | refine hs_ne (by omega) ?_)⟩
              | exact Or.inr (Or.inl ⟨by omega, rfl, ⟨(by repeat (first | exact hs_eq _ _ _ | refine hs_ne (by omega) ?_ | assumption)), (by repeat (first | exact hs_eq _ _ _ | refine hs_ne (by omega) ?_ | assumption)), (by repeat (first | exact hs_eq _ _ _ | refine hs_ne (by omega) ?_ | assumption)), (by repeat (first | exact hs_eq _ _ _ | refine hs_ne (by omega) ?_ | assumption)), (by repeat (first | exact hs_eq _ _ _ | refine hs_ne (by omega) ?_ | assumption)), (by repeat (first | exact hs_eq _ _ _ | refine hs_ne (by omega) ?_ | assumption))⟩, fun aaa haa => by repeat (first | rfl | refine hs_ne (by omega) ?_)⟩)
              | exact Or.inr (Or.inr (⟨by omega, rfl, ⟨(by repeat (first | exact hs_eq _ _ _ | refine hs_ne (by omega) ?_ | assumption)), (by repeat (first | exact hs_eq _ _ _ | refine hs_ne (by omega) ?_ | assumption)), (by repeat (first | exact hs_eq _ _ _ | refine hs_ne (by omega) ?_ | assumption)), (by repeat (first | exact hs_eq _ _ _ | refine hs_ne (by omega) ?_ | assumption)), (by repeat (first | exact hs_eq _ _ _ | refine hs_ne (by omega) ?_ | assumption)), (by repeat (first | exact hs_eq _ _ _ | refine hs_ne (by omega) ?_ | assumption))⟩, fun aaa haa => by repeat (first | rfl | refine hs_ne (by omega) ?_)⟩)))
        · try (exfalso; omega)
          all_goals (
            refine k_iconst C dX8_debt_46 ?_
            refine k_goto (tgt := 63) C dX8_debt_47 (by decide) ?_
            refine k_iret C hr dX8_debt_63 ?_
            first
              | exact Or.inl ⟨by omega, rfl, ⟨(by repeat (first | exact hs_eq _ _ _ | refine hs_ne (by omega) ?_ | assumption)), (by repeat (first | exact hs_eq _ _ _ | refine hs_ne (by omega) ?_ | assumption)), (by repeat (first | exact hs_eq _ _ _ | refine hs_ne (by omega) ?_ | assumption)), (by repeat (first | exact hs_eq _ _ _ | refine hs_ne (by omega) ?_ | assumption)), (by repeat (first | exact hs_eq _ _ _ | refine hs_ne (by omega) ?_ | assumption)), (by repeat (first | exact hs_eq _ _ _ | refine hs_ne (by omega) ?_ | assumption))⟩, fun aaa haa => by repeat (first | rfl | refine hs_ne (by omega) ?_)⟩
              | exact Or.inr (Or.inl ⟨by omega, rfl, ⟨(by repeat (first | exact hs_eq _ _ _ | refine hs_ne (by omega) ?_ | assumption)), (by repeat (first | exact hs_eq _ _ _ | refine hs_ne (by omega) ?_ | assumption)), (by repeat (first | exact hs_eq _ _ _ | refine hs_ne (by omega) ?_ | assumption)), (by repeat (first | exact hs_eq _ _ _ | refine hs_ne (by omega) ?_ | assumption)), (by repeat (first | exact hs_eq _ _ _ | refine hs_ne (by omega) ?_ | assumption)), (by repeat (first | exact hs_eq _ _ _ | refine hs_ne (by omega) ?_ | assumption))⟩, fun aaa haa => by repeat (first | rfl | refine hs_ne (by omega) ?_)⟩)
              | exact Or.inr (Or.inr (⟨by omega, rfl, ⟨(by repeat (first | exact hs_eq _ _ _ | refine hs_ne (by omega) ?_ | assumption)), (by repeat (first | exact hs_eq _ _ _ | refine hs_ne (by omega) ?_ | assumption)), (by repeat (first | exact hs_eq _ _ _ | refine hs_ne (by omega) ?_ | assumption)), (by repeat (first | exact hs_eq _ _ _ | refine hs_ne (by omega) ?_ | assumption)), (by repeat (first | exact hs_eq _ _ _ | refine hs_ne (by omega) ?_ | assumption)), (by repeat (first | exact hs_eq _ _ _ | refine hs_ne (by omega) ?_ | assumption))⟩, fun aaa haa => by repeat (first | rfl | refine hs_ne (by omega) ?_)⟩))))

set_option maxRecDepth 20000 in
set_option maxHeartbeats 1000000 in
theorem ct_X8_setting (l : Launch) (D : va_G) (tc : Nat → ClassId) (base : Nat) (oo : Nat) (zrr hhi htx has hro : Int → Int) (st ln th re du hsh : Int) (hpp : AH) (hM : MA hpp oo zrr hhi htx has hro st ln th re du hsh) (ww : Int) (hw : r32 ww) : CT l D tc base yX8_setting cX8_setting 2 (some .int) 1 [aR oo, aI ww] hpp (fun r h' => ((0 ≤ ww ∧ ww ≤ 5) ∧ r = some (aI (zrr (61 + ww))) ∧ MA h' oo (zrr) (hhi) (htx) (has) (hro) (st) (ln) (0) (re) (du) (hsh) ∧ Fr hpp h' oo 6) ∨ (¬ (0 ≤ ww ∧ ww ≤ 5) ∧ r = some (aI (0)) ∧ MA h' oo (zrr) (hhi) (htx) (has) (hro) (st) (ln) (1) (re) (du) (hsh) ∧ Fr hpp h' oo 6)) := by
  refine CT.of [some (aR oo), some (aI ww)] (by decide +kernel) rfl (Nat.le_of_ble_eq_true rfl) ?_
  intro p e s m args below meth c C hr hnm
  obtain ⟨g0, g1, g2, g3, g4, g5⟩ := id hM
  refine k_aload_n C dX8_setting_0 rfl ?_
  refine k_iload_n C dX8_setting_1 rfl ?_
  refine k_iconst C dX8_setting_2 ?_
  refine k_iconst C dX8_setting_3 ?_
  refine k_callS C (n := 3) (as := [_, _, _]) (ct_X8_within l D tc base _ _ _ _ hw ⟨by omega, by omega⟩ ⟨by omega, by omega⟩) ml_X8_92 sm_X8_within ini_X8 co_X8_within ⟨by decide, by decide, by decide +kernel⟩ rfl ⟨by decide, by decide⟩ rfl (Nat.le_of_ble_eq_true rfl) ⟨Nat.zero_le _, Nat.zero_le _⟩ dX8_setting_4 ?_
  rintro _ _ (⟨rfl, rfl, hq4⟩ | ⟨rfl, rfl, hq4⟩)
  · skip
    refine k_if_eq (tgt := 14) C dX8_setting_7 (by decide) ⟨by omega, by omega⟩ (fun c7 => ?_) (fun c7 => ?_)
    · try (exfalso; omega)
      all_goals (
        refine k_iconst C dX8_setting_14 ?_
        refine k_put C (k := 5) inX8 tyX8_ok nmX8 (ci := 8) rfl (by decide) fl_X8_25 rfl (Nat.le_of_ble_eq_true rfl) dX8_setting_15 (by repeat (first | exact hs_eq _ _ _ | refine hs_ne (by omega) ?_ | assumption)) ?_
        refine k_aload_n C dX8_setting_18 rfl ?_
        refine k_get C (k := 5) inX8 (ci := 8) rfl (by decide) fl_X8_25 dX8_setting_19 (by repeat (first | exact hs_eq _ _ _ | refine hs_ne (by omega) ?_ | assumption)) rfl ?_
        refine k_if_le (tgt := 29) C dX8_setting_22 (by decide) ⟨by omega, by omega⟩ (fun c22 => ?_) (fun c22 => ?_)
        · try (exfalso; omega)
          all_goals (
            refine k_aload_n C dX8_setting_29 rfl ?_
            refine k_get C (k := 0) inX8 (ci := 8) rfl (by decide) fl_X8_7 dX8_setting_30 (by repeat (first | exact hs_eq _ _ _ | refine hs_ne (by omega) ?_ | assumption)) rfl ?_
            refine k_bipush C dX8_setting_33 (by decide +kernel) ?_
            refine k_iload_n C dX8_setting_35 rfl ?_
            refine k_iadd C dX8_setting_36 ?_
            refine k_iaload C dX8_setting_37 (by repeat (first | exact hs_eq _ _ _ | refine hs_ne (by omega) ?_ | assumption)) (by omega) (by omega) (by omega) ?_
            refine k_iret C hr dX8_setting_38 ?_
            first
              | exact Or.inl ⟨by omega, rfl, ⟨(by repeat (first | exact hs_eq _ _ _ | refine hs_ne (by omega) ?_ | assumption)), (by repeat (first | exact hs_eq _ _ _ | refine hs_ne (by omega) ?_ | assumption)), (by repeat (first | exact hs_eq _ _ _ | refine hs_ne (by omega) ?_ | assumption)), (by repeat (first | exact hs_eq _ _ _ | refine hs_ne (by omega) ?_ | assumption)), (by repeat (first | exact hs_eq _ _ _ | refine hs_ne (by omega) ?_ | assumption)), (by repeat (first | exact hs_eq _ _ _ | refine hs_ne (by omega) ?_ | assumption))⟩, fun aaa haa => by repeat (first | rfl | refine hs_ne (by omega) ?_)⟩
              | exact Or.inr (⟨by omega, rfl, ⟨(by repeat (first | exact hs_eq _ _ _ | refine hs_ne (by omega) ?_ | assumption)), (by repeat (first | exact hs_eq _ _ _ | refine hs_ne (by omega) ?_ | assumption)), (by repeat (first | exact hs_eq _ _ _ | refine hs_ne (by omega) ?_ | assumption)), (by repeat (first | exact hs_eq _ _ _ | refine hs_ne (by omega) ?_ | assumption)), (by repeat (first | exact hs_eq _ _ _ | refine hs_ne (by omega) ?_ | assumption)), (by repeat (first | exact hs_eq _ _ _ | refine hs_ne (by omega) ?_ | assumption))⟩, fun aaa haa => by repeat (first | rfl | refine hs_ne (by omega) ?_)⟩))
        · try (exfalso; omega)
          all_goals (
            refine k_iconst C dX8_setting_25 ?_
            refine k_goto (tgt := 38) C dX8_setting_26 (by decide) ?_
            refine k_iret C hr dX8_setting_38 ?_
            first
              | exact Or.inl ⟨by omega, rfl, ⟨(by repeat (first | exact hs_eq _ _ _ | refine hs_ne (by omega) ?_ | assumption)), (by repeat (first | exact hs_eq _ _ _ | refine hs_ne (by omega) ?_ | assumption)), (by repeat (first | exact hs_eq _ _ _ | refine hs_ne (by omega) ?_ | assumption)), (by repeat (first | exact hs_eq _ _ _ | refine hs_ne (by omega) ?_ | assumption)), (by repeat (first | exact hs_eq _ _ _ | refine hs_ne (by omega) ?_ | assumption)), (by repeat (first | exact hs_eq _ _ _ | refine hs_ne (by omega) ?_ | assumption))⟩, fun aaa haa => by repeat (first | rfl | refine hs_ne (by omega) ?_)⟩
              | exact Or.inr (⟨by omega, rfl, ⟨(by repeat (first | exact hs_eq _ _ _ | refine hs_ne (by omega) ?_ | assumption)), (by repeat (first | exact hs_eq _ _ _ | refine hs_ne (by omega) ?_ | assumption)), (by repeat (first | exact hs_eq _ _ _ | refine hs_ne (by omega) ?_ | assumption)), (by repeat (first | exact hs_eq _ _ _ | refine hs_ne (by omega) ?_ | assumption)), (by repeat (first | exact hs_eq _ _ _ | refine hs_ne (by omega) ?_ | assumption)), (by repeat (first | exact hs_eq _ _ _ | refine hs_ne (by omega) ?_ | assumption))⟩, fun aaa haa => by repeat (first | rfl | refine hs_ne (by omega) ?_)⟩)))
    · try (exfalso; omega)
      all_goals (
        refine k_iconst C dX8_setting_10 ?_
        refine k_goto (tgt := 15) C dX8_setting_11 (by decide) ?_
        refine k_put C (k := 5) inX8 tyX8_ok nmX8 (ci := 8) rfl (by decide) fl_X8_25 rfl (Nat.le_of_ble_eq_true rfl) dX8_setting_15 (by repeat (first | exact hs_eq _ _ _ | refine hs_ne (by omega) ?_ | assumption)) ?_
        refine k_aload_n C dX8_setting_18 rfl ?_
        refine k_get C (k := 5) inX8 (ci := 8) rfl (by decide) fl_X8_25 dX8_setting_19 (by repeat (first | exact hs_eq _ _ _ | refine hs_ne (by omega) ?_ | assumption)) rfl ?_
        refine k_if_le (tgt := 29) C dX8_setting_22 (by decide) ⟨by omega, by omega⟩ (fun c22 => ?_) (fun c22 => ?_)
        · try (exfalso; omega)
          all_goals (
            refine k_aload_n C dX8_setting_29 rfl ?_
            refine k_get C (k := 0) inX8 (ci := 8) rfl (by decide) fl_X8_7 dX8_setting_30 (by repeat (first | exact hs_eq _ _ _ | refine hs_ne (by omega) ?_ | assumption)) rfl ?_
            refine k_bipush C dX8_setting_33 (by decide +kernel) ?_
            refine k_iload_n C dX8_setting_35 rfl ?_
            refine k_iadd C dX8_setting_36 ?_
            refine k_iaload C dX8_setting_37 (by repeat (first | exact hs_eq _ _ _ | refine hs_ne (by omega) ?_ | assumption)) (by omega) (by omega) (by omega) ?_
            refine k_iret C hr dX8_setting_38 ?_
            first
              | exact Or.inl ⟨by omega, rfl, ⟨(by repeat (first | exact hs_eq _ _ _ | refine hs_ne (by omega) ?_ | assumption)), (by repeat (first | exact hs_eq _ _ _ | refine hs_ne (by omega) ?_ | assumption)), (by repeat (first | exact hs_eq _ _ _ | refine hs_ne (by omega) ?_ | assumption)), (by repeat (first | exact hs_eq _ _ _ | refine hs_ne (by omega) ?_ | assumption)), (by repeat (first | exact hs_eq _ _ _ | refine hs_ne (by omega) ?_ | assumption)), (by repeat (first | exact hs_eq _ _ _ | refine hs_ne (by omega) ?_ | assumption))⟩, fun aaa haa => by repeat (first | rfl | refine hs_ne (by omega) ?_)⟩
              | exact Or.inr (⟨by omega, rfl, ⟨(by repeat (first | exact hs_eq _ _ _ | refine hs_ne (by omega) ?_ | assumption)), (by repeat (first | exact hs_eq _ _ _ | refine hs_ne (by omega) ?_ | assumption)), (by repeat (first | exact hs_eq _ _ _ | refine hs_ne (by omega) ?_ | assumption)), (by repeat (first | exact hs_eq _ _ _ | refine hs_ne (by omega) ?_ | assumption)), (by repeat (first | exact hs_eq _ _ _ | refine hs_ne (by omega) ?_ | assumption)), (by repeat (first | exact hs_eq _ _ _ | refine hs_ne (by omega) ?_ | assumption))⟩, fun aaa haa => by repeat (first | rfl | refine hs_ne (by omega) ?_)⟩))
        · try (exfalso; omega)
          all_goals (
            refine k_iconst C dX8_setting_25 ?_
            refine k_goto (tgt := 38) C dX8_setting_26 (by decide) ?_
            refine k_iret C hr dX8_setting_38 ?_
            first
              | exact Or.inl ⟨by omega, rfl, ⟨(by repeat (first | exact hs_eq _ _ _ | refine hs_ne (by omega) ?_ | assumption)), (by repeat (first | exact hs_eq _ _ _ | refine hs_ne (by omega) ?_ | assumption)), (by repeat (first | exact hs_eq _ _ _ | refine hs_ne (by omega) ?_ | assumption)), (by repeat (first | exact hs_eq _ _ _ | refine hs_ne (by omega) ?_ | assumption)), (by repeat (first | exact hs_eq _ _ _ | refine hs_ne (by omega) ?_ | assumption)), (by repeat (first | exact hs_eq _ _ _ | refine hs_ne (by omega) ?_ | assumption))⟩, fun aaa haa => by repeat (first | rfl | refine hs_ne (by omega) ?_)⟩
              | exact Or.inr (⟨by omega, rfl, ⟨(by repeat (first | exact hs_eq _ _ _ | refine hs_ne (by omega) ?_ | assumption)), (by repeat (first | exact hs_eq _ _ _ | refine hs_ne (by omega) ?_ | assumption)), (by repeat (first | exact hs_eq _ _ _ | refine hs_ne (by omega) ?_ | assumption)), (by repeat (first | exact hs_eq _ _ _ | refine hs_ne (by omega) ?_ | assumption)), (by repeat (first | exact hs_eq _ _ _ | refine hs_ne (by omega) ?_ | assumption)), (by repeat (first | exact hs_eq _ _ _ | refine hs_ne (by omega) ?_ | assumption))⟩, fun aaa haa => by repeat (first | rfl | refine hs_ne (by omega) ?_)⟩)))
  · skip
    refine k_if_eq (tgt := 14) C dX8_setting_7 (by decide) ⟨by omega, by omega⟩ (fun c7 => ?_) (fun c7 => ?_)
    · try (exfalso; omega)
      all_goals (
        refine k_iconst C dX8_setting_14 ?_
        refine k_put C (k := 5) inX8 tyX8_ok nmX8 (ci := 8) rfl (by decide) fl_X8_25 rfl (Nat.le_of_ble_eq_true rfl) dX8_setting_15 (by repeat (first | exact hs_eq _ _ _ | refine hs_ne (by omega) ?_ | assumption)) ?_
        refine k_aload_n C dX8_setting_18 rfl ?_
        refine k_get C (k := 5) inX8 (ci := 8) rfl (by decide) fl_X8_25 dX8_setting_19 (by repeat (first | exact hs_eq _ _ _ | refine hs_ne (by omega) ?_ | assumption)) rfl ?_
        refine k_if_le (tgt := 29) C dX8_setting_22 (by decide) ⟨by omega, by omega⟩ (fun c22 => ?_) (fun c22 => ?_)
        · try (exfalso; omega)
          all_goals (
            refine k_aload_n C dX8_setting_29 rfl ?_
            refine k_get C (k := 0) inX8 (ci := 8) rfl (by decide) fl_X8_7 dX8_setting_30 (by repeat (first | exact hs_eq _ _ _ | refine hs_ne (by omega) ?_ | assumption)) rfl ?_
            refine k_bipush C dX8_setting_33 (by decide +kernel) ?_
            refine k_iload_n C dX8_setting_35 rfl ?_
            refine k_iadd C dX8_setting_36 ?_
            refine k_iaload C dX8_setting_37 (by repeat (first | exact hs_eq _ _ _ | refine hs_ne (by omega) ?_ | assumption)) (by omega) (by omega) (by omega) ?_
            refine k_iret C hr dX8_setting_38 ?_
            first
              | exact Or.inl ⟨by omega, rfl, ⟨(by repeat (first | exact hs_eq _ _ _ | refine hs_ne (by omega) ?_ | assumption)), (by repeat (first | exact hs_eq _ _ _ | refine hs_ne (by omega) ?_ | assumption)), (by repeat (first | exact hs_eq _ _ _ | refine hs_ne (by omega) ?_ | assumption)), (by repeat (first | exact hs_eq _ _ _ | refine hs_ne (by omega) ?_ | assumption)), (by repeat (first | exact hs_eq _ _ _ | refine hs_ne (by omega) ?_ | assumption)), (by repeat (first | exact hs_eq _ _ _ | refine hs_ne (by omega) ?_ | assumption))⟩, fun aaa haa => by repeat (first | rfl | refine hs_ne (by omega) ?_)⟩
              | exact Or.inr (⟨by omega, rfl, ⟨(by repeat (first | exact hs_eq _ _ _ | refine hs_ne (by omega) ?_ | assumption)), (by repeat (first | exact hs_eq _ _ _ | refine hs_ne (by omega) ?_ | assumption)), (by repeat (first | exact hs_eq _ _ _ | refine hs_ne (by omega) ?_ | assumption)), (by repeat (first | exact hs_eq _ _ _ | refine hs_ne (by omega) ?_ | assumption)), (by repeat (first | exact hs_eq _ _ _ | refine hs_ne (by omega) ?_ | assumption)), (by repeat (first | exact hs_eq _ _ _ | refine hs_ne (by omega) ?_ | assumption))⟩, fun aaa haa => by repeat (first | rfl | refine hs_ne (by omega) ?_)⟩))
        · try (exfalso; omega)
          all_goals (
            refine k_iconst C dX8_setting_25 ?_
            refine k_goto (tgt := 38) C dX8_setting_26 (by decide) ?_
            refine k_iret C hr dX8_setting_38 ?_
            first
              | exact Or.inl ⟨by omega, rfl, ⟨(by repeat (first | exact hs_eq _ _ _ | refine hs_ne (by omega) ?_ | assumption)), (by repeat (first | exact hs_eq _ _ _ | refine hs_ne (by omega) ?_ | assumption)), (by repeat (first | exact hs_eq _ _ _ | refine hs_ne (by omega) ?_ | assumption)), (by repeat (first | exact hs_eq _ _ _ | refine hs_ne (by omega) ?_ | assumption)), (by repeat (first | exact hs_eq _ _ _ | refine hs_ne (by omega) ?_ | assumption)), (by repeat (first | exact hs_eq _ _ _ | refine hs_ne (by omega) ?_ | assumption))⟩, fun aaa haa => by repeat (first | rfl | refine hs_ne (by omega) ?_)⟩
              | exact Or.inr (⟨by omega, rfl, ⟨(by repeat (first | exact hs_eq _ _ _ | refine hs_ne (by omega) ?_ | assumption)), (by repeat (first | exact hs_eq _ _ _ | refine hs_ne (by omega) ?_ | assumption)), (by repeat (first | exact hs_eq _ _ _ | refine hs_ne (by omega) ?_ | assumption)), (by repeat (first | exact hs_eq _ _ _ | refine hs_ne (by omega) ?_ | assumption)), (by repeat (first | exact hs_eq _ _ _ | refine hs_ne (by omega) ?_ | assumption)), (by repeat (first | exact hs_eq _ _ _ | refine hs_ne (by omega) ?_ | assumption))⟩, fun aaa haa => by repeat (first | rfl | refine hs_ne (by omega) ?_)⟩)))
    · try (exfalso; omega)
      all_goals (
        refine k_iconst C dX8_setting_10 ?_
        refine k_goto (tgt := 15) C dX8_setting_11 (by decide) ?_
        refine k_put C (k := 5) inX8 tyX8_ok nmX8 (ci := 8) rfl (by decide) fl_X8_25 rfl (Nat.le_of_ble_eq_true rfl) dX8_setting_15 (by repeat (first | exact hs_eq _ _ _ | refine hs_ne (by omega) ?_ | assumption)) ?_
        refine k_aload_n C dX8_setting_18 rfl ?_
        refine k_get C (k := 5) inX8 (ci := 8) rfl (by decide) fl_X8_25 dX8_setting_19 (by repeat (first | exact hs_eq _ _ _ | refine hs_ne (by omega) ?_ | assumption)) rfl ?_
        refine k_if_le (tgt := 29) C dX8_setting_22 (by decide) ⟨by omega, by omega⟩ (fun c22 => ?_) (fun c22 => ?_)
        · try (exfalso; omega)
          all_goals (
            refine k_aload_n C dX8_setting_29 rfl ?_
            refine k_get C (k := 0) inX8 (ci := 8) rfl (by decide) fl_X8_7 dX8_setting_30 (by repeat (first | exact hs_eq _ _ _ | refine hs_ne (by omega) ?_ | assumption)) rfl ?_
            refine k_bipush C dX8_setting_33 (by decide +kernel) ?_
            refine k_iload_n C dX8_setting_35 rfl ?_
            refine k_iadd C dX8_setting_36 ?_
            refine k_iaload C dX8_setting_37 (by repeat (first | exact hs_eq _ _ _ | refine hs_ne (by omega) ?_ | assumption)) (by omega) (by omega) (by omega) ?_
            refine k_iret C hr dX8_setting_38 ?_
            first
              | exact Or.inl ⟨by omega, rfl, ⟨(by repeat (first | exact hs_eq _ _ _ | refine hs_ne (by omega) ?_ | assumption)), (by repeat (first | exact hs_eq _ _ _ | refine hs_ne (by omega) ?_ | assumption)), (by repeat (first | exact hs_eq _ _ _ | refine hs_ne (by omega) ?_ | assumption)), (by repeat (first | exact hs_eq _ _ _ | refine hs_ne (by omega) ?_ | assumption)), (by repeat (first | exact hs_eq _ _ _ | refine hs_ne (by omega) ?_ | assumption)), (by repeat (first | exact hs_eq _ _ _ | refine hs_ne (by omega) ?_ | assumption))⟩, fun aaa haa => by repeat (first | rfl | refine hs_ne (by omega) ?_)⟩
              | exact Or.inr (⟨by omega, rfl, ⟨(by repeat (first | exact hs_eq _ _ _ | refine hs_ne (by omega) ?_ | assumption)), (by repeat (first | exact hs_eq _ _ _ | refine hs_ne (by omega) ?_ | assumption)), (by repeat (first | exact hs_eq _ _ _ | refine hs_ne (by omega) ?_ | assumption)), (by repeat (first | exact hs_eq _ _ _ | refine hs_ne (by omega) ?_ | assumption)), (by repeat (first | exact hs_eq _ _ _ | refine hs_ne (by omega) ?_ | assumption)), (by repeat (first | exact hs_eq _ _ _ | refine hs_ne (by omega) ?_ | assumption))⟩, fun aaa haa => by repeat (first | rfl | refine hs_ne (by omega) ?_)⟩))
        · try (exfalso; omega)
          all_goals (
            refine k_iconst C dX8_setting_25 ?_
            refine k_goto (tgt := 38) C dX8_setting_26 (by decide) ?_
            refine k_iret C hr dX8_setting_38 ?_
            first
              | exact Or.inl ⟨by omega, rfl, ⟨(by repeat (first | exact hs_eq _ _ _ | refine hs_ne (by omega) ?_ | assumption)), (by repeat (first | exact hs_eq _ _ _ | refine hs_ne (by omega) ?_ | assumption)), (by repeat (first | exact hs_eq _ _ _ | refine hs_ne (by omega) ?_ | assumption)), (by repeat (first | exact hs_eq _ _ _ | refine hs_ne (by omega) ?_ | assumption)), (by repeat (first | exact hs_eq _ _ _ | refine hs_ne (by omega) ?_ | assumption)), (by repeat (first | exact hs_eq _ _ _ | refine hs_ne (by omega) ?_ | assumption))⟩, fun aaa haa => by repeat (first | rfl | refine hs_ne (by omega) ?_)⟩
              | exact Or.inr (⟨by omega, rfl, ⟨(by repeat (first | exact hs_eq _ _ _ | refine hs_ne (by omega) ?_ | assumption)), (by repeat (first | exact hs_eq _ _ _ | refine hs_ne (by omega) ?_ | assumption)), (by repeat (first | exact hs_eq _ _ _ | refine hs_ne (by omega) ?_ | assumption)), (by repeat (first | exact hs_eq _ _ _ | refine hs_ne (by omega) ?_ | assumption)), (by repeat (first | exact hs_eq _ _ _ | refine hs_ne (by omega) ?_ | assumption)), (by repeat (first | exact hs_eq _ _ _ | refine hs_ne (by omega) ?_ | assumption))⟩, fun aaa haa => by repeat (first | rfl | refine hs_ne (by omega) ?_)⟩)))

set_option maxRecDepth 20000 in
set_option maxHeartbeats 1000000 in
theorem ct_X8_counted (l : Launch) (D : va_G) (tc : Nat → ClassId) (base : Nat) (oo : Nat) (zrr hhi htx has hro : Int → Int) (st ln th re du hsh : Int) (hpp : AH) (hM : MA hpp oo zrr hhi htx has hro st ln th re du hsh) (qq : Int) (hi : zInv zrr) (hm : zrr 13 ≤ 100000) (hq : 0 ≤ qq ∧ qq ≤ 17) : CT l D tc base yX8_counted cX8_counted 2 (some .int) 2 [aR oo, aI qq] hpp (fun r h' => r = some (aI (zCnt zrr st qq)) ∧ hpp = h') := by
  refine CT.of [some (aR oo), some (aI qq)] (by decide +kernel) rfl (Nat.le_of_ble_eq_true rfl) ?_
  intro p e s m args below meth c C hr hnm
  obtain ⟨g0, g1, g2, g3, g4, g5⟩ := id hM
  obtain ⟨⟨v0, v1, v2, v9, v10, v11, v12, v13, v21, v52, v61, v62, v63, v64, v65, v66⟩, hwi, hde⟩ := id hi
  refine k_iload_n C dX8_counted_0 rfl ?_
  refine k_tsw (dt := 191) C [88, 96, 104, 112, 120, 128, 136, 191, 191, 191, 191, 191, 191, 191, 141, 149, 173, 186] dX8_counted_1 ⟨by omega, by omega⟩ (by decide) (by decide) (by decide) (And.intro (fun c1 => ?_) (And.intro (fun c1 => ?_) (And.intro (fun c1 => ?_) (And.intro (fun c1 => ?_) (And.intro (fun c1 => ?_) (And.intro (fun c1 => ?_) (And.intro (fun c1 => ?_) (And.intro (fun c1 => ?_) (And.intro (fun c1 => ?_) (And.intro (fun c1 => ?_) (And.intro (fun c1 => ?_) (And.intro (fun c1 => ?_) (And.intro (fun c1 => ?_) (And.intro (fun c1 => ?_) (And.intro (fun c1 => ?_) (And.intro (fun c1 => ?_) (And.intro (fun c1 => ?_) (And.intro (fun c1 => ?_) trivial)))))))))))))))))) (fun c1 => ?_)
  · try (exfalso; omega)
    all_goals (
      refine k_aload_n C dX8_counted_88 rfl ?_
      refine k_get C (k := 0) inX8 (ci := 8) rfl (by decide) fl_X8_7 dX8_counted_89 (by repeat (first | exact hs_eq _ _ _ | refine hs_ne (by omega) ?_ | assumption)) rfl ?_
      refine k_bipush C dX8_counted_92 (by decide +kernel) ?_
      refine k_iaload C dX8_counted_94 (by repeat (first | exact hs_eq _ _ _ | refine hs_ne (by omega) ?_ | assumption)) (by omega) (by omega) (by omega) ?_
      refine k_iret C hr dX8_counted_95 ?_
      refine ⟨?_, rfl⟩
      refine congrArg (fun qq => some (aI qq)) ?_
      first
        | (have e16 : qq = 16 := by omega
           subst e16
           first
             | exact (if_pos hsi).symm
             | exact (if_neg hsi).symm)
        | (rcases (show qq = 0 ∨ qq = 1 ∨ qq = 2 ∨ qq = 3 ∨ qq = 4 ∨ qq = 5 ∨ qq = 6 ∨ qq = 14 ∨ qq = 15 ∨ qq = 17 ∨ ((7 ≤ qq ∧ qq ≤ 13)) by omega) with rfl | rfl | rfl | rfl | rfl | rfl | rfl | rfl | rfl | rfl | hq7 <;> first
             | rfl
             | (exfalso; omega)
             | (simp (disch := omega) only [zCnt, if_neg])))
  · try (exfalso; omega)
    all_goals (
      refine k_aload_n C dX8_counted_96 rfl ?_
      refine k_get C (k := 0) inX8 (ci := 8) rfl (by decide) fl_X8_7 dX8_counted_97 (by repeat (first | exact hs_eq _ _ _ | refine hs_ne (by omega) ?_ | assumption)) rfl ?_
      refine k_bipush C dX8_counted_100 (by decide +kernel) ?_
      refine k_iaload C dX8_counted_102 (by repeat (first | exact hs_eq _ _ _ | refine hs_ne (by omega) ?_ | assumption)) (by omega) (by omega) (by omega) ?_
      refine k_iret C hr dX8_counted_103 ?_
      refine ⟨?_, rfl⟩
      refine congrArg (fun qq => some (aI qq)) ?_
      first
        | (have e16 : qq = 16 := by omega
           subst e16
           first
             | exact (if_pos hsi).symm
             | exact (if_neg hsi).symm)
        | (rcases (show qq = 0 ∨ qq = 1 ∨ qq = 2 ∨ qq = 3 ∨ qq = 4 ∨ qq = 5 ∨ qq = 6 ∨ qq = 14 ∨ qq = 15 ∨ qq = 17 ∨ ((7 ≤ qq ∧ qq ≤ 13)) by omega) with rfl | rfl | rfl | rfl | rfl | rfl | rfl | rfl | rfl | rfl | hq7 <;> first
             | rfl
             | (exfalso; omega)
             | (simp (disch := omega) only [zCnt, if_neg])))
  · try (exfalso; omega)
    all_goals (
      refine k_aload_n C dX8_counted_104 rfl ?_
      refine k_get C (k := 0) inX8 (ci := 8) rfl (by decide) fl_X8_7 dX8_counted_105 (by repeat (first | exact hs_eq _ _ _ | refine hs_ne (by omega) ?_ | assumption)) rfl ?_
      refine k_bipush C dX8_counted_108 (by decide +kernel) ?_
      refine k_iaload C dX8_counted_110 (by repeat (first | exact hs_eq _ _ _ | refine hs_ne (by omega) ?_ | assumption)) (by omega) (by omega) (by omega) ?_
      refine k_iret C hr dX8_counted_111 ?_
      refine ⟨?_, rfl⟩
      refine congrArg (fun qq => some (aI qq)) ?_
      first
        | (have e16 : qq = 16 := by omega
           subst e16
           first
             | exact (if_pos hsi).symm
             | exact (if_neg hsi).symm)
        | (rcases (show qq = 0 ∨ qq = 1 ∨ qq = 2 ∨ qq = 3 ∨ qq = 4 ∨ qq = 5 ∨ qq = 6 ∨ qq = 14 ∨ qq = 15 ∨ qq = 17 ∨ ((7 ≤ qq ∧ qq ≤ 13)) by omega) with rfl | rfl | rfl | rfl | rfl | rfl | rfl | rfl | rfl | rfl | hq7 <;> first
             | rfl
             | (exfalso; omega)
             | (simp (disch := omega) only [zCnt, if_neg])))
  · try (exfalso; omega)
    all_goals (
      refine k_aload_n C dX8_counted_112 rfl ?_
      refine k_get C (k := 0) inX8 (ci := 8) rfl (by decide) fl_X8_7 dX8_counted_113 (by repeat (first | exact hs_eq _ _ _ | refine hs_ne (by omega) ?_ | assumption)) rfl ?_
      refine k_bipush C dX8_counted_116 (by decide +kernel) ?_
      refine k_iaload C dX8_counted_118 (by repeat (first | exact hs_eq _ _ _ | refine hs_ne (by omega) ?_ | assumption)) (by omega) (by omega) (by omega) ?_
      refine k_iret C hr dX8_counted_119 ?_
      refine ⟨?_, rfl⟩
      refine congrArg (fun qq => some (aI qq)) ?_
      first
        | (have e16 : qq = 16 := by omega
           subst e16
           first
             | exact (if_pos hsi).symm
             | exact (if_neg hsi).symm)
        | (rcases (show qq = 0 ∨ qq = 1 ∨ qq = 2 ∨ qq = 3 ∨ qq = 4 ∨ qq = 5 ∨ qq = 6 ∨ qq = 14 ∨ qq = 15 ∨ qq = 17 ∨ ((7 ≤ qq ∧ qq ≤ 13)) by omega) with rfl | rfl | rfl | rfl | rfl | rfl | rfl | rfl | rfl | rfl | hq7 <;> first
             | rfl
             | (exfalso; omega)
             | (simp (disch := omega) only [zCnt, if_neg])))
  · try (exfalso; omega)
    all_goals (
      refine k_aload_n C dX8_counted_120 rfl ?_
      refine k_get C (k := 0) inX8 (ci := 8) rfl (by decide) fl_X8_7 dX8_counted_121 (by repeat (first | exact hs_eq _ _ _ | refine hs_ne (by omega) ?_ | assumption)) rfl ?_
      refine k_bipush C dX8_counted_124 (by decide +kernel) ?_
      refine k_iaload C dX8_counted_126 (by repeat (first | exact hs_eq _ _ _ | refine hs_ne (by omega) ?_ | assumption)) (by omega) (by omega) (by omega) ?_
      refine k_iret C hr dX8_counted_127 ?_
      refine ⟨?_, rfl⟩
      refine congrArg (fun qq => some (aI qq)) ?_
      first
        | (have e16 : qq = 16 := by omega
           subst e16
           first
             | exact (if_pos hsi).symm
             | exact (if_neg hsi).symm)
        | (rcases (show qq = 0 ∨ qq = 1 ∨ qq = 2 ∨ qq = 3 ∨ qq = 4 ∨ qq = 5 ∨ qq = 6 ∨ qq = 14 ∨ qq = 15 ∨ qq = 17 ∨ ((7 ≤ qq ∧ qq ≤ 13)) by omega) with rfl | rfl | rfl | rfl | rfl | rfl | rfl | rfl | rfl | rfl | hq7 <;> first
             | rfl
             | (exfalso; omega)
             | (simp (disch := omega) only [zCnt, if_neg])))
  · try (exfalso; omega)
    all_goals (
      refine k_aload_n C dX8_counted_128 rfl ?_
      refine k_get C (k := 0) inX8 (ci := 8) rfl (by decide) fl_X8_7 dX8_counted_129 (by repeat (first | exact hs_eq _ _ _ | refine hs_ne (by omega) ?_ | assumption)) rfl ?_
      refine k_bipush C dX8_counted_132 (by decide +kernel) ?_
      refine k_iaload C dX8_counted_134 (by repeat (first | exact hs_eq _ _ _ | refine hs_ne (by omega) ?_ | assumption)) (by omega) (by omega) (by omega) ?_
      refine k_iret C hr dX8_counted_135 ?_
      refine ⟨?_, rfl⟩
      refine congrArg (fun qq => some (aI qq)) ?_
      first
        | (have e16 : qq = 16 := by omega
           subst e16
           first
             | exact (if_pos hsi).symm
             | exact (if_neg hsi).symm)
        | (rcases (show qq = 0 ∨ qq = 1 ∨ qq = 2 ∨ qq = 3 ∨ qq = 4 ∨ qq = 5 ∨ qq = 6 ∨ qq = 14 ∨ qq = 15 ∨ qq = 17 ∨ ((7 ≤ qq ∧ qq ≤ 13)) by omega) with rfl | rfl | rfl | rfl | rfl | rfl | rfl | rfl | rfl | rfl | hq7 <;> first
             | rfl
             | (exfalso; omega)
             | (simp (disch := omega) only [zCnt, if_neg])))
  · try (exfalso; omega)
    all_goals (
      refine k_aload_n C dX8_counted_136 rfl ?_
      refine k_callV C (n := 0) (as := []) (ct_X8_owed l D tc base oo (oo + 1) _ _ _ (by repeat (first | exact hs_eq _ _ _ | refine hs_ne (by omega) ?_ | assumption)) (by repeat (first | exact hs_eq _ _ _ | refine hs_ne (by omega) ?_ | assumption)) (by omega) hi) ml_X8_109 im_X8_owed se_X8_owed ini_X8 co_X8_owed ⟨rfl, by decide, by decide, by decide +kernel⟩ rfl (ci := 8) rfl (by repeat (first | exact hs_eq _ _ _ | refine hs_ne (by omega) ?_ | assumption)) ⟨by decide, by decide⟩ rfl (Nat.le_of_ble_eq_true rfl) ⟨Nat.zero_le _, Nat.zero_le _⟩ dX8_counted_137 ?_
      rintro _ _ ⟨rfl, rfl⟩
      refine k_iret C hr dX8_counted_140 ?_
      refine ⟨?_, rfl⟩
      refine congrArg (fun qq => some (aI qq)) ?_
      first
        | (have e16 : qq = 16 := by omega
           subst e16
           first
             | exact (if_pos hsi).symm
             | exact (if_neg hsi).symm)
        | (rcases (show qq = 0 ∨ qq = 1 ∨ qq = 2 ∨ qq = 3 ∨ qq = 4 ∨ qq = 5 ∨ qq = 6 ∨ qq = 14 ∨ qq = 15 ∨ qq = 17 ∨ ((7 ≤ qq ∧ qq ≤ 13)) by omega) with rfl | rfl | rfl | rfl | rfl | rfl | rfl | rfl | rfl | rfl | hq7 <;> first
             | rfl
             | (exfalso; omega)
             | (simp (disch := omega) only [zCnt, if_neg])))
  · try (exfalso; omega)
    all_goals (
      refine k_aload_n C dX8_counted_191 rfl ?_
      refine k_get C (k := 0) inX8 (ci := 8) rfl (by decide) fl_X8_7 dX8_counted_192 (by repeat (first | exact hs_eq _ _ _ | refine hs_ne (by omega) ?_ | assumption)) rfl ?_
      refine k_bipush C dX8_counted_195 (by decide +kernel) ?_
      refine k_iload_n C dX8_counted_197 rfl ?_
      refine k_iadd C dX8_counted_198 ?_
      refine k_bipush C dX8_counted_199 (by decide +kernel) ?_
      refine k_isub C dX8_counted_201 ?_
      refine k_iaload C dX8_counted_202 (by repeat (first | exact hs_eq _ _ _ | refine hs_ne (by omega) ?_ | assumption)) (by omega) (by omega) (by omega) ?_
      refine k_iret C hr dX8_counted_203 ?_
      refine ⟨?_, rfl⟩
      refine congrArg (fun qq => some (aI qq)) ?_
      first
        | (have e16 : qq = 16 := by omega
           subst e16
           first
             | exact (if_pos hsi).symm
             | exact (if_neg hsi).symm)
        | (rcases (show qq = 0 ∨ qq = 1 ∨ qq = 2 ∨ qq = 3 ∨ qq = 4 ∨ qq = 5 ∨ qq = 6 ∨ qq = 14 ∨ qq = 15 ∨ qq = 17 ∨ ((7 ≤ qq ∧ qq ≤ 13)) by omega) with rfl | rfl | rfl | rfl | rfl | rfl | rfl | rfl | rfl | rfl | hq7 <;> first
             | rfl
             | (exfalso; omega)
             | (simp (disch := omega) only [zCnt, if_neg])))
  · try (exfalso; omega)
    all_goals (
      refine k_aload_n C dX8_counted_191 rfl ?_
      refine k_get C (k := 0) inX8 (ci := 8) rfl (by decide) fl_X8_7 dX8_counted_192 (by repeat (first | exact hs_eq _ _ _ | refine hs_ne (by omega) ?_ | assumption)) rfl ?_
      refine k_bipush C dX8_counted_195 (by decide +kernel) ?_
      refine k_iload_n C dX8_counted_197 rfl ?_
      refine k_iadd C dX8_counted_198 ?_
      refine k_bipush C dX8_counted_199 (by decide +kernel) ?_
      refine k_isub C dX8_counted_201 ?_
      refine k_iaload C dX8_counted_202 (by repeat (first | exact hs_eq _ _ _ | refine hs_ne (by omega) ?_ | assumption)) (by omega) (by omega) (by omega) ?_
      refine k_iret C hr dX8_counted_203 ?_
      refine ⟨?_, rfl⟩
      refine congrArg (fun qq => some (aI qq)) ?_
      first
        | (have e16 : qq = 16 := by omega
           subst e16
           first
             | exact (if_pos hsi).symm
             | exact (if_neg hsi).symm)
        | (rcases (show qq = 0 ∨ qq = 1 ∨ qq = 2 ∨ qq = 3 ∨ qq = 4 ∨ qq = 5 ∨ qq = 6 ∨ qq = 14 ∨ qq = 15 ∨ qq = 17 ∨ ((7 ≤ qq ∧ qq ≤ 13)) by omega) with rfl | rfl | rfl | rfl | rfl | rfl | rfl | rfl | rfl | rfl | hq7 <;> first
             | rfl
             | (exfalso; omega)
             | (simp (disch := omega) only [zCnt, if_neg])))
  · try (exfalso; omega)
    all_goals (
      refine k_aload_n C dX8_counted_191 rfl ?_
      refine k_get C (k := 0) inX8 (ci := 8) rfl (by decide) fl_X8_7 dX8_counted_192 (by repeat (first | exact hs_eq _ _ _ | refine hs_ne (by omega) ?_ | assumption)) rfl ?_
      refine k_bipush C dX8_counted_195 (by decide +kernel) ?_
      refine k_iload_n C dX8_counted_197 rfl ?_
      refine k_iadd C dX8_counted_198 ?_
      refine k_bipush C dX8_counted_199 (by decide +kernel) ?_
      refine k_isub C dX8_counted_201 ?_
      refine k_iaload C dX8_counted_202 (by repeat (first | exact hs_eq _ _ _ | refine hs_ne (by omega) ?_ | assumption)) (by omega) (by omega) (by omega) ?_
      refine k_iret C hr dX8_counted_203 ?_
      refine ⟨?_, rfl⟩
      refine congrArg (fun qq => some (aI qq)) ?_
      first
        | (have e16 : qq = 16 := by omega
           subst e16
           first
             | exact (if_pos hsi).symm
             | exact (if_neg hsi).symm)
        | (rcases (show qq = 0 ∨ qq = 1 ∨ qq = 2 ∨ qq = 3 ∨ qq = 4 ∨ qq = 5 ∨ qq = 6 ∨ qq = 14 ∨ qq = 15 ∨ qq = 17 ∨ ((7 ≤ qq ∧ qq ≤ 13)) by omega) with rfl | rfl | rfl | rfl | rfl | rfl | rfl | rfl | rfl | rfl | hq7 <;> first
             | rfl
             | (exfalso; omega)
             | (simp (disch := omega) only [zCnt, if_neg])))
  · try (exfalso; omega)
    all_goals (
      refine k_aload_n C dX8_counted_191 rfl ?_
      refine k_get C (k := 0) inX8 (ci := 8) rfl (by decide) fl_X8_7 dX8_counted_192 (by repeat (first | exact hs_eq _ _ _ | refine hs_ne (by omega) ?_ | assumption)) rfl ?_
      refine k_bipush C dX8_counted_195 (by decide +kernel) ?_
      refine k_iload_n C dX8_counted_197 rfl ?_
      refine k_iadd C dX8_counted_198 ?_
      refine k_bipush C dX8_counted_199 (by decide +kernel) ?_
      refine k_isub C dX8_counted_201 ?_
      refine k_iaload C dX8_counted_202 (by repeat (first | exact hs_eq _ _ _ | refine hs_ne (by omega) ?_ | assumption)) (by omega) (by omega) (by omega) ?_
      refine k_iret C hr dX8_counted_203 ?_
      refine ⟨?_, rfl⟩
      refine congrArg (fun qq => some (aI qq)) ?_
      first
        | (have e16 : qq = 16 := by omega
           subst e16
           first
             | exact (if_pos hsi).symm
             | exact (if_neg hsi).symm)
        | (rcases (show qq = 0 ∨ qq = 1 ∨ qq = 2 ∨ qq = 3 ∨ qq = 4 ∨ qq = 5 ∨ qq = 6 ∨ qq = 14 ∨ qq = 15 ∨ qq = 17 ∨ ((7 ≤ qq ∧ qq ≤ 13)) by omega) with rfl | rfl | rfl | rfl | rfl | rfl | rfl | rfl | rfl | rfl | hq7 <;> first
             | rfl
             | (exfalso; omega)
             | (simp (disch := omega) only [zCnt, if_neg])))
  · try (exfalso; omega)
    all_goals (
      refine k_aload_n C dX8_counted_191 rfl ?_
      refine k_get C (k := 0) inX8 (ci := 8) rfl (by decide) fl_X8_7 dX8_counted_192 (by repeat (first | exact hs_eq _ _ _ | refine hs_ne (by omega) ?_ | assumption)) rfl ?_
      refine k_bipush C dX8_counted_195 (by decide +kernel) ?_
      refine k_iload_n C dX8_counted_197 rfl ?_
      refine k_iadd C dX8_counted_198 ?_
      refine k_bipush C dX8_counted_199 (by decide +kernel) ?_
      refine k_isub C dX8_counted_201 ?_
      refine k_iaload C dX8_counted_202 (by repeat (first | exact hs_eq _ _ _ | refine hs_ne (by omega) ?_ | assumption)) (by omega) (by omega) (by omega) ?_
      refine k_iret C hr dX8_counted_203 ?_
      refine ⟨?_, rfl⟩
      refine congrArg (fun qq => some (aI qq)) ?_
      first
        | (have e16 : qq = 16 := by omega
           subst e16
           first
             | exact (if_pos hsi).symm
             | exact (if_neg hsi).symm)
        | (rcases (show qq = 0 ∨ qq = 1 ∨ qq = 2 ∨ qq = 3 ∨ qq = 4 ∨ qq = 5 ∨ qq = 6 ∨ qq = 14 ∨ qq = 15 ∨ qq = 17 ∨ ((7 ≤ qq ∧ qq ≤ 13)) by omega) with rfl | rfl | rfl | rfl | rfl | rfl | rfl | rfl | rfl | rfl | hq7 <;> first
             | rfl
             | (exfalso; omega)
             | (simp (disch := omega) only [zCnt, if_neg])))
  · try (exfalso; omega)
    all_goals (
      refine k_aload_n C dX8_counted_191 rfl ?_
      refine k_get C (k := 0) inX8 (ci := 8) rfl (by decide) fl_X8_7 dX8_counted_192 (by repeat (first | exact hs_eq _ _ _ | refine hs_ne (by omega) ?_ | assumption)) rfl ?_
      refine k_bipush C dX8_counted_195 (by decide +kernel) ?_
      refine k_iload_n C dX8_counted_197 rfl ?_
      refine k_iadd C dX8_counted_198 ?_
      refine k_bipush C dX8_counted_199 (by decide +kernel) ?_
      refine k_isub C dX8_counted_201 ?_
      refine k_iaload C dX8_counted_202 (by repeat (first | exact hs_eq _ _ _ | refine hs_ne (by omega) ?_ | assumption)) (by omega) (by omega) (by omega) ?_
      refine k_iret C hr dX8_counted_203 ?_
      refine ⟨?_, rfl⟩
      refine congrArg (fun qq => some (aI qq)) ?_
      first
        | (have e16 : qq = 16 := by omega
           subst e16
           first
             | exact (if_pos hsi).symm
             | exact (if_neg hsi).symm)
        | (rcases (show qq = 0 ∨ qq = 1 ∨ qq = 2 ∨ qq = 3 ∨ qq = 4 ∨ qq = 5 ∨ qq = 6 ∨ qq = 14 ∨ qq = 15 ∨ qq = 17 ∨ ((7 ≤ qq ∧ qq ≤ 13)) by omega) with rfl | rfl | rfl | rfl | rfl | rfl | rfl | rfl | rfl | rfl | hq7 <;> first
             | rfl
             | (exfalso; omega)
             | (simp (disch := omega) only [zCnt, if_neg])))
  · try (exfalso; omega)
    all_goals (
      refine k_aload_n C dX8_counted_191 rfl ?_
      refine k_get C (k := 0) inX8 (ci := 8) rfl (by decide) fl_X8_7 dX8_counted_192 (by repeat (first | exact hs_eq _ _ _ | refine hs_ne (by omega) ?_ | assumption)) rfl ?_
      refine k_bipush C dX8_counted_195 (by decide +kernel) ?_
      refine k_iload_n C dX8_counted_197 rfl ?_
      refine k_iadd C dX8_counted_198 ?_
      refine k_bipush C dX8_counted_199 (by decide +kernel) ?_
      refine k_isub C dX8_counted_201 ?_
      refine k_iaload C dX8_counted_202 (by repeat (first | exact hs_eq _ _ _ | refine hs_ne (by omega) ?_ | assumption)) (by omega) (by omega) (by omega) ?_
      refine k_iret C hr dX8_counted_203 ?_
      refine ⟨?_, rfl⟩
      refine congrArg (fun qq => some (aI qq)) ?_
      first
        | (have e16 : qq = 16 := by omega
           subst e16
           first
             | exact (if_pos hsi).symm
             | exact (if_neg hsi).symm)
        | (rcases (show qq = 0 ∨ qq = 1 ∨ qq = 2 ∨ qq = 3 ∨ qq = 4 ∨ qq = 5 ∨ qq = 6 ∨ qq = 14 ∨ qq = 15 ∨ qq = 17 ∨ ((7 ≤ qq ∧ qq ≤ 13)) by omega) with rfl | rfl | rfl | rfl | rfl | rfl | rfl | rfl | rfl | rfl | hq7 <;> first
             | rfl
             | (exfalso; omega)
             | (simp (disch := omega) only [zCnt, if_neg])))
  · try (exfalso; omega)
    all_goals (
      refine k_aload_n C dX8_counted_141 rfl ?_
      refine k_get C (k := 0) inX8 (ci := 8) rfl (by decide) fl_X8_7 dX8_counted_142 (by repeat (first | exact hs_eq _ _ _ | refine hs_ne (by omega) ?_ | assumption)) rfl ?_
      refine k_bipush C dX8_counted_145 (by decide +kernel) ?_
      refine k_iaload C dX8_counted_147 (by repeat (first | exact hs_eq _ _ _ | refine hs_ne (by omega) ?_ | assumption)) (by omega) (by omega) (by omega) ?_
      refine k_iret C hr dX8_counted_148 ?_
      refine ⟨?_, rfl⟩
      refine congrArg (fun qq => some (aI qq)) ?_
      first
        | (have e16 : qq = 16 := by omega
           subst e16
           first
             | exact (if_pos hsi).symm
             | exact (if_neg hsi).symm)
        | (rcases (show qq = 0 ∨ qq = 1 ∨ qq = 2 ∨ qq = 3 ∨ qq = 4 ∨ qq = 5 ∨ qq = 6 ∨ qq = 14 ∨ qq = 15 ∨ qq = 17 ∨ ((7 ≤ qq ∧ qq ≤ 13)) by omega) with rfl | rfl | rfl | rfl | rfl | rfl | rfl | rfl | rfl | rfl | hq7 <;> first
             | rfl
             | (exfalso; omega)
             | (simp (disch := omega) only [zCnt, if_neg])))
  · try (exfalso; omega)
    all_goals (
      refine k_aload_n C dX8_counted_149 rfl ?_
      refine k_get C (k := 0) inX8 (ci := 8) rfl (by decide) fl_X8_7 dX8_counted_150 (by repeat (first | exact hs_eq _ _ _ | refine hs_ne (by omega) ?_ | assumption)) rfl ?_
      refine k_bipush C dX8_counted_153 (by decide +kernel) ?_
      refine k_iaload C dX8_counted_155 (by repeat (first | exact hs_eq _ _ _ | refine hs_ne (by omega) ?_ | assumption)) (by omega) (by omega) (by omega) ?_
      refine k_sipush C dX8_counted_156 (by decide +kernel) ?_
      refine k_iadd C dX8_counted_159 ?_
      refine k_aload_n C dX8_counted_160 rfl ?_
      refine k_get C (k := 0) inX8 (ci := 8) rfl (by decide) fl_X8_7 dX8_counted_161 (by repeat (first | exact hs_eq _ _ _ | refine hs_ne (by omega) ?_ | assumption)) rfl ?_
      refine k_bipush C dX8_counted_164 (by decide +kernel) ?_
      refine k_iaload C dX8_counted_166 (by repeat (first | exact hs_eq _ _ _ | refine hs_ne (by omega) ?_ | assumption)) (by omega) (by omega) (by omega) ?_
      refine k_isub C dX8_counted_167 ?_
      refine k_sipush C dX8_counted_168 (by decide +kernel) ?_
      refine k_irem C dX8_counted_171 (by omega) (by omega) (by omega) (by omega) ?_
      refine k_iret C hr dX8_counted_172 ?_
      refine ⟨?_, rfl⟩
      refine congrArg (fun qq => some (aI qq)) ?_
      first
        | (have e16 : qq = 16 := by omega
           subst e16
           first
             | exact (if_pos hsi).symm
             | exact (if_neg hsi).symm)
        | (rcases (show qq = 0 ∨ qq = 1 ∨ qq = 2 ∨ qq = 3 ∨ qq = 4 ∨ qq = 5 ∨ qq = 6 ∨ qq = 14 ∨ qq = 15 ∨ qq = 17 ∨ ((7 ≤ qq ∧ qq ≤ 13)) by omega) with rfl | rfl | rfl | rfl | rfl | rfl | rfl | rfl | rfl | rfl | hq7 <;> first
             | rfl
             | (exfalso; omega)
             | (simp (disch := omega) only [zCnt, if_neg])))
  · try (exfalso; omega)
    all_goals (
      refine k_aload_n C dX8_counted_173 rfl ?_
      refine k_callV C (n := 0) (as := []) (ct_X8_isSilent l D tc base oo (oo + 1) _ _ _ (by repeat (first | exact hs_eq _ _ _ | refine hs_ne (by omega) ?_ | assumption)) (by repeat (first | exact hs_eq _ _ _ | refine hs_ne (by omega) ?_ | assumption)) (by omega) hi) ml_X8_61 im_X8_isSilent se_X8_isSilent ini_X8 co_X8_isSilent ⟨rfl, by decide, by decide, by decide +kernel⟩ rfl (ci := 8) rfl (by repeat (first | exact hs_eq _ _ _ | refine hs_ne (by omega) ?_ | assumption)) ⟨by decide, by decide⟩ rfl (Nat.le_of_ble_eq_true rfl) ⟨Nat.zero_le _, Nat.zero_le _⟩ dX8_counted_174 ?_
      rintro _ _ (⟨rfl, rfl, hsi⟩ | ⟨rfl, rfl, hsi⟩)
      · skip
        refine k_if_eq (tgt := 184) C dX8_counted_177 (by decide) ⟨by omega, by omega⟩ (fun c177 => ?_) (fun c177 => ?_)
        · try (exfalso; omega)
          all_goals (
            refine k_iconst C dX8_counted_184 ?_
            refine k_iret C hr dX8_counted_185 ?_
            refine ⟨?_, rfl⟩
            refine congrArg (fun qq => some (aI qq)) ?_
            first
              | (have e16 : qq = 16 := by omega
                 subst e16
                 first
                   | exact (if_pos hsi).symm
                   | exact (if_neg hsi).symm)
              | (rcases (show qq = 0 ∨ qq = 1 ∨ qq = 2 ∨ qq = 3 ∨ qq = 4 ∨ qq = 5 ∨ qq = 6 ∨ qq = 14 ∨ qq = 15 ∨ qq = 17 ∨ ((7 ≤ qq ∧ qq ≤ 13)) by omega) with rfl | rfl | rfl | rfl | rfl | rfl | rfl | rfl | rfl | rfl | hq7 <;> first
                   | rfl
                   | (exfalso; omega)
                   | (simp (disch := omega) only [zCnt, if_neg])))
        · try (exfalso; omega)
          all_goals (
            refine k_iconst C dX8_counted_180 ?_
            refine k_goto (tgt := 185) C dX8_counted_181 (by decide) ?_
            refine k_iret C hr dX8_counted_185 ?_
            refine ⟨?_, rfl⟩
            refine congrArg (fun qq => some (aI qq)) ?_
            first
              | (have e16 : qq = 16 := by omega
                 subst e16
                 first
                   | exact (if_pos hsi).symm
                   | exact (if_neg hsi).symm)
              | (rcases (show qq = 0 ∨ qq = 1 ∨ qq = 2 ∨ qq = 3 ∨ qq = 4 ∨ qq = 5 ∨ qq = 6 ∨ qq = 14 ∨ qq = 15 ∨ qq = 17 ∨ ((7 ≤ qq ∧ qq ≤ 13)) by omega) with rfl | rfl | rfl | rfl | rfl | rfl | rfl | rfl | rfl | rfl | hq7 <;> first
                   | rfl
                   | (exfalso; omega)
                   | (simp (disch := omega) only [zCnt, if_neg])))
      · skip
        refine k_if_eq (tgt := 184) C dX8_counted_177 (by decide) ⟨by omega, by omega⟩ (fun c177 => ?_) (fun c177 => ?_)
        · try (exfalso; omega)
          all_goals (
            refine k_iconst C dX8_counted_184 ?_
            refine k_iret C hr dX8_counted_185 ?_
            refine ⟨?_, rfl⟩
            refine congrArg (fun qq => some (aI qq)) ?_
            first
              | (have e16 : qq = 16 := by omega
                 subst e16
                 first
                   | exact (if_pos hsi).symm
                   | exact (if_neg hsi).symm)
              | (rcases (show qq = 0 ∨ qq = 1 ∨ qq = 2 ∨ qq = 3 ∨ qq = 4 ∨ qq = 5 ∨ qq = 6 ∨ qq = 14 ∨ qq = 15 ∨ qq = 17 ∨ ((7 ≤ qq ∧ qq ≤ 13)) by omega) with rfl | rfl | rfl | rfl | rfl | rfl | rfl | rfl | rfl | rfl | hq7 <;> first
                   | rfl
                   | (exfalso; omega)
                   | (simp (disch := omega) only [zCnt, if_neg])))
        · try (exfalso; omega)
          all_goals (
            refine k_iconst C dX8_counted_180 ?_
            refine k_goto (tgt := 185) C dX8_counted_181 (by decide) ?_
            refine k_iret C hr dX8_counted_185 ?_
            refine ⟨?_, rfl⟩
            refine congrArg (fun qq => some (aI qq)) ?_
            first
              | (have e16 : qq = 16 := by omega
                 subst e16
                 first
                   | exact (if_pos hsi).symm
                   | exact (if_neg hsi).symm)
              | (rcases (show qq = 0 ∨ qq = 1 ∨ qq = 2 ∨ qq = 3 ∨ qq = 4 ∨ qq = 5 ∨ qq = 6 ∨ qq = 14 ∨ qq = 15 ∨ qq = 17 ∨ ((7 ≤ qq ∧ qq ≤ 13)) by omega) with rfl | rfl | rfl | rfl | rfl | rfl | rfl | rfl | rfl | rfl | hq7 <;> first
                   | rfl
                   | (exfalso; omega)
                   | (simp (disch := omega) only [zCnt, if_neg]))))
  · try (exfalso; omega)
    all_goals (
      refine k_aload_n C dX8_counted_186 rfl ?_
      refine k_get C (k := 1) inX8 (ci := 8) rfl (by decide) fl_X8_29 dX8_counted_187 (by repeat (first | exact hs_eq _ _ _ | refine hs_ne (by omega) ?_ | assumption)) rfl ?_
      refine k_iret C hr dX8_counted_190 ?_
      refine ⟨?_, rfl⟩
      refine congrArg (fun qq => some (aI qq)) ?_
      first
        | (have e16 : qq = 16 := by omega
           subst e16
           first
             | exact (if_pos hsi).symm
             | exact (if_neg hsi).symm)
        | (rcases (show qq = 0 ∨ qq = 1 ∨ qq = 2 ∨ qq = 3 ∨ qq = 4 ∨ qq = 5 ∨ qq = 6 ∨ qq = 14 ∨ qq = 15 ∨ qq = 17 ∨ ((7 ≤ qq ∧ qq ≤ 13)) by omega) with rfl | rfl | rfl | rfl | rfl | rfl | rfl | rfl | rfl | rfl | hq7 <;> first
             | rfl
             | (exfalso; omega)
             | (simp (disch := omega) only [zCnt, if_neg])))
  · try (exfalso; omega)
    all_goals (
      refine k_aload_n C dX8_counted_191 rfl ?_
      refine k_get C (k := 0) inX8 (ci := 8) rfl (by decide) fl_X8_7 dX8_counted_192 (by repeat (first | exact hs_eq _ _ _ | refine hs_ne (by omega) ?_ | assumption)) rfl ?_
      refine k_bipush C dX8_counted_195 (by decide +kernel) ?_
      refine k_iload_n C dX8_counted_197 rfl ?_
      refine k_iadd C dX8_counted_198 ?_
      refine k_bipush C dX8_counted_199 (by decide +kernel) ?_
      refine k_isub C dX8_counted_201 ?_
      refine k_iaload C dX8_counted_202 (by repeat (first | exact hs_eq _ _ _ | refine hs_ne (by omega) ?_ | assumption)) (by omega) (by omega) (by omega) ?_
      refine k_iret C hr dX8_counted_203 ?_
      refine ⟨?_, rfl⟩
      refine congrArg (fun qq => some (aI qq)) ?_
      first
        | (have e16 : qq = 16 := by omega
           subst e16
           first
             | exact (if_pos hsi).symm
             | exact (if_neg hsi).symm)
        | (rcases (show qq = 0 ∨ qq = 1 ∨ qq = 2 ∨ qq = 3 ∨ qq = 4 ∨ qq = 5 ∨ qq = 6 ∨ qq = 14 ∨ qq = 15 ∨ qq = 17 ∨ ((7 ≤ qq ∧ qq ≤ 13)) by omega) with rfl | rfl | rfl | rfl | rfl | rfl | rfl | rfl | rfl | rfl | hq7 <;> first
             | rfl
             | (exfalso; omega)
             | (simp (disch := omega) only [zCnt, if_neg])))

set_option maxRecDepth 20000 in
set_option maxHeartbeats 1000000 in
theorem ct_X8_count (l : Launch) (D : va_G) (tc : Nat → ClassId) (base : Nat) (oo : Nat) (zrr hhi htx has hro : Int → Int) (st ln th re du hsh : Int) (hpp : AH) (hM : MA hpp oo zrr hhi htx has hro st ln th re du hsh) (qq : Int) (hi : zInv zrr) (hm : zrr 13 ≤ 100000) (hqq : r32 qq) : CT l D tc base yX8_count cX8_count 2 (some .int) 3 [aR oo, aI qq] hpp (fun r h' => ((0 ≤ qq ∧ qq ≤ 17) ∧ r = some (aI (zCnt zrr st qq)) ∧ MA h' oo (zrr) (hhi) (htx) (has) (hro) (st) (ln) (0) (re) (du) (hsh) ∧ Fr hpp h' oo 6) ∨ (¬ (0 ≤ qq ∧ qq ≤ 17) ∧ r = some (aI (0)) ∧ MA h' oo (zrr) (hhi) (htx) (has) (hro) (st) (ln) (1) (re) (du) (hsh) ∧ Fr hpp h' oo 6)) := by
  refine CT.of [some (aR oo), some (aI qq)] (by decide +kernel) rfl (Nat.le_of_ble_eq_true rfl) ?_
  intro p e s m args below meth c C hr hnm
  obtain ⟨g0, g1, g2, g3, g4, g5⟩ := id hM
  refine k_aload_n C dX8_count_0 rfl ?_
  refine k_iload_n C dX8_count_1 rfl ?_
  refine k_iconst C dX8_count_2 ?_
  refine k_bipush C dX8_count_3 (by decide +kernel) ?_
  refine k_callS C (n := 3) (as := [_, _, _]) (ct_X8_within l D tc base _ _ _ _ hqq ⟨by omega, by omega⟩ ⟨by omega, by omega⟩) ml_X8_92 sm_X8_within ini_X8 co_X8_within ⟨by decide, by decide, by decide +kernel⟩ rfl ⟨by decide, by decide⟩ rfl (Nat.le_of_ble_eq_true rfl) ⟨Nat.zero_le _, Nat.zero_le _⟩ dX8_count_5 ?_
  rintro _ _ (⟨rfl, rfl, hq5⟩ | ⟨rfl, rfl, hq5⟩)
  · skip
    refine k_if_eq (tgt := 15) C dX8_count_8 (by decide) ⟨by omega, by omega⟩ (fun c8 => ?_) (fun c8 => ?_)
    · try (exfalso; omega)
      all_goals (
        refine k_iconst C dX8_count_15 ?_
        refine k_put C (k := 5) inX8 tyX8_ok nmX8 (ci := 8) rfl (by decide) fl_X8_25 rfl (Nat.le_of_ble_eq_true rfl) dX8_count_16 (by repeat (first | exact hs_eq _ _ _ | refine hs_ne (by omega) ?_ | assumption)) ?_
        refine k_aload_n C dX8_count_19 rfl ?_
        refine k_get C (k := 5) inX8 (ci := 8) rfl (by decide) fl_X8_25 dX8_count_20 (by repeat (first | exact hs_eq _ _ _ | refine hs_ne (by omega) ?_ | assumption)) rfl ?_
        refine k_if_le (tgt := 30) C dX8_count_23 (by decide) ⟨by omega, by omega⟩ (fun c23 => ?_) (fun c23 => ?_)
        · try (exfalso; omega)
          all_goals (
            refine k_aload_n C dX8_count_30 rfl ?_
            refine k_iload_n C dX8_count_31 rfl ?_
            refine k_callV C (n := 1) (as := [_]) (ct_X8_counted l D tc base oo zrr hhi htx has hro st ln _ re du hsh _ ⟨(by repeat (first | exact hs_eq _ _ _ | refine hs_ne (by omega) ?_ | assumption)), (by repeat (first | exact hs_eq _ _ _ | refine hs_ne (by omega) ?_ | assumption)), (by repeat (first | exact hs_eq _ _ _ | refine hs_ne (by omega) ?_ | assumption)), (by repeat (first | exact hs_eq _ _ _ | refine hs_ne (by omega) ?_ | assumption)), (by repeat (first | exact hs_eq _ _ _ | refine hs_ne (by omega) ?_ | assumption)), (by repeat (first | exact hs_eq _ _ _ | refine hs_ne (by omega) ?_ | assumption))⟩ _ hi hm (by omega)) ml_X8_152 im_X8_counted se_X8_counted ini_X8 co_X8_counted ⟨rfl, by decide, by decide, by decide +kernel⟩ rfl (ci := 8) rfl (by repeat (first | exact hs_eq _ _ _ | refine hs_ne (by omega) ?_ | assumption)) ⟨by decide, by decide⟩ rfl (Nat.le_of_ble_eq_true rfl) ⟨Nat.zero_le _, Nat.zero_le _⟩ dX8_count_32 ?_
            rintro _ _ ⟨rfl, rfl⟩
            refine k_iret C hr dX8_count_35 ?_
            first
              | exact Or.inl ⟨by omega, rfl, ⟨(by repeat (first | exact hs_eq _ _ _ | refine hs_ne (by omega) ?_ | assumption)), (by repeat (first | exact hs_eq _ _ _ | refine hs_ne (by omega) ?_ | assumption)), (by repeat (first | exact hs_eq _ _ _ | refine hs_ne (by omega) ?_ | assumption)), (by repeat (first | exact hs_eq _ _ _ | refine hs_ne (by omega) ?_ | assumption)), (by repeat (first | exact hs_eq _ _ _ | refine hs_ne (by omega) ?_ | assumption)), (by repeat (first | exact hs_eq _ _ _ | refine hs_ne (by omega) ?_ | assumption))⟩, fun aaa haa => by repeat (first | rfl | refine hs_ne (by omega) ?_)⟩
              | exact Or.inr (⟨by omega, rfl, ⟨(by repeat (first | exact hs_eq _ _ _ | refine hs_ne (by omega) ?_ | assumption)), (by repeat (first | exact hs_eq _ _ _ | refine hs_ne (by omega) ?_ | assumption)), (by repeat (first | exact hs_eq _ _ _ | refine hs_ne (by omega) ?_ | assumption)), (by repeat (first | exact hs_eq _ _ _ | refine hs_ne (by omega) ?_ | assumption)), (by repeat (first | exact hs_eq _ _ _ | refine hs_ne (by omega) ?_ | assumption)), (by repeat (first | exact hs_eq _ _ _ | refine hs_ne (by omega) ?_ | assumption))⟩, fun aaa haa => by repeat (first | rfl | refine hs_ne (by omega) ?_)⟩))
        · try (exfalso; omega)
          all_goals (
            refine k_iconst C dX8_count_26 ?_
            refine k_goto (tgt := 35) C dX8_count_27 (by decide) ?_
            refine k_iret C hr dX8_count_35 ?_
            first
              | exact Or.inl ⟨by omega, rfl, ⟨(by repeat (first | exact hs_eq _ _ _ | refine hs_ne (by omega) ?_ | assumption)), (by repeat (first | exact hs_eq _ _ _ | refine hs_ne (by omega) ?_ | assumption)), (by repeat (first | exact hs_eq _ _ _ | refine hs_ne (by omega) ?_ | assumption)), (by repeat (first | exact hs_eq _ _ _ | refine hs_ne (by omega) ?_ | assumption)), (by repeat (first | exact hs_eq _ _ _ | refine hs_ne (by omega) ?_ | assumption)), (by repeat (first | exact hs_eq _ _ _ | refine hs_ne (by omega) ?_ | assumption))⟩, fun aaa haa => by repeat (first | rfl | refine hs_ne (by omega) ?_)⟩
              | exact Or.inr (⟨by omega, rfl, ⟨(by repeat (first | exact hs_eq _ _ _ | refine hs_ne (by omega) ?_ | assumption)), (by repeat (first | exact hs_eq _ _ _ | refine hs_ne (by omega) ?_ | assumption)), (by repeat (first | exact hs_eq _ _ _ | refine hs_ne (by omega) ?_ | assumption)), (by repeat (first | exact hs_eq _ _ _ | refine hs_ne (by omega) ?_ | assumption)), (by repeat (first | exact hs_eq _ _ _ | refine hs_ne (by omega) ?_ | assumption)), (by repeat (first | exact hs_eq _ _ _ | refine hs_ne (by omega) ?_ | assumption))⟩, fun aaa haa => by repeat (first | rfl | refine hs_ne (by omega) ?_)⟩)))
    · try (exfalso; omega)
      all_goals (
        refine k_iconst C dX8_count_11 ?_
        refine k_goto (tgt := 16) C dX8_count_12 (by decide) ?_
        refine k_put C (k := 5) inX8 tyX8_ok nmX8 (ci := 8) rfl (by decide) fl_X8_25 rfl (Nat.le_of_ble_eq_true rfl) dX8_count_16 (by repeat (first | exact hs_eq _ _ _ | refine hs_ne (by omega) ?_ | assumption)) ?_
        refine k_aload_n C dX8_count_19 rfl ?_
        refine k_get C (k := 5) inX8 (ci := 8) rfl (by decide) fl_X8_25 dX8_count_20 (by repeat (first | exact hs_eq _ _ _ | refine hs_ne (by omega) ?_ | assumption)) rfl ?_
        refine k_if_le (tgt := 30) C dX8_count_23 (by decide) ⟨by omega, by omega⟩ (fun c23 => ?_) (fun c23 => ?_)
        · try (exfalso; omega)
          all_goals (
            refine k_aload_n C dX8_count_30 rfl ?_
            refine k_iload_n C dX8_count_31 rfl ?_
            refine k_callV C (n := 1) (as := [_]) (ct_X8_counted l D tc base oo zrr hhi htx has hro st ln _ re du hsh _ ⟨(by repeat (first | exact hs_eq _ _ _ | refine hs_ne (by omega) ?_ | assumption)), (by repeat (first | exact hs_eq _ _ _ | refine hs_ne (by omega) ?_ | assumption)), (by repeat (first | exact hs_eq _ _ _ | refine hs_ne (by omega) ?_ | assumption)), (by repeat (first | exact hs_eq _ _ _ | refine hs_ne (by omega) ?_ | assumption)), (by repeat (first | exact hs_eq _ _ _ | refine hs_ne (by omega) ?_ | assumption)), (by repeat (first | exact hs_eq _ _ _ | refine hs_ne (by omega) ?_ | assumption))⟩ _ hi hm (by omega)) ml_X8_152 im_X8_counted se_X8_counted ini_X8 co_X8_counted ⟨rfl, by decide, by decide, by decide +kernel⟩ rfl (ci := 8) rfl (by repeat (first | exact hs_eq _ _ _ | refine hs_ne (by omega) ?_ | assumption)) ⟨by decide, by decide⟩ rfl (Nat.le_of_ble_eq_true rfl) ⟨Nat.zero_le _, Nat.zero_le _⟩ dX8_count_32 ?_
            rintro _ _ ⟨rfl, rfl⟩
            refine k_iret C hr dX8_count_35 ?_
            first
              | exact Or.inl ⟨by omega, rfl, ⟨(by repeat (first | exact hs_eq _ _ _ | refine hs_ne (by omega) ?_ | assumption)), (by repeat (first | exact hs_eq _ _ _ | refine hs_ne (by omega) ?_ | assumption)), (by repeat (first | exact hs_eq _ _ _ | refine hs_ne (by omega) ?_ | assumption)), (by repeat (first | exact hs_eq _ _ _ | refine hs_ne (by omega) ?_ | assumption)), (by repeat (first | exact hs_eq _ _ _ | refine hs_ne (by omega) ?_ | assumption)), (by repeat (first | exact hs_eq _ _ _ | refine hs_ne (by omega) ?_ | assumption))⟩, fun aaa haa => by repeat (first | rfl | refine hs_ne (by omega) ?_)⟩
              | exact Or.inr (⟨by omega, rfl, ⟨(by repeat (first | exact hs_eq _ _ _ | refine hs_ne (by omega) ?_ | assumption)), (by repeat (first | exact hs_eq _ _ _ | refine hs_ne (by omega) ?_ | assumption)), (by repeat (first | exact hs_eq _ _ _ | refine hs_ne (by omega) ?_ | assumption)), (by repeat (first | exact hs_eq _ _ _ | refine hs_ne (by omega) ?_ | assumption)), (by repeat (first | exact hs_eq _ _ _ | refine hs_ne (by omega) ?_ | assumption)), (by repeat (first | exact hs_eq _ _ _ | refine hs_ne (by omega) ?_ | assumption))⟩, fun aaa haa => by repeat (first | rfl | refine hs_ne (by omega) ?_)⟩))
        · try (exfalso; omega)
          all_goals (
            refine k_iconst C dX8_count_26 ?_
            refine k_goto (tgt := 35) C dX8_count_27 (by decide) ?_
            refine k_iret C hr dX8_count_35 ?_
            first
              | exact Or.inl ⟨by omega, rfl, ⟨(by repeat (first | exact hs_eq _ _ _ | refine hs_ne (by omega) ?_ | assumption)), (by repeat (first | exact hs_eq _ _ _ | refine hs_ne (by omega) ?_ | assumption)), (by repeat (first | exact hs_eq _ _ _ | refine hs_ne (by omega) ?_ | assumption)), (by repeat (first | exact hs_eq _ _ _ | refine hs_ne (by omega) ?_ | assumption)), (by repeat (first | exact hs_eq _ _ _ | refine hs_ne (by omega) ?_ | assumption)), (by repeat (first | exact hs_eq _ _ _ | refine hs_ne (by omega) ?_ | assumption))⟩, fun aaa haa => by repeat (first | rfl | refine hs_ne (by omega) ?_)⟩
              | exact Or.inr (⟨by omega, rfl, ⟨(by repeat (first | exact hs_eq _ _ _ | refine hs_ne (by omega) ?_ | assumption)), (by repeat (first | exact hs_eq _ _ _ | refine hs_ne (by omega) ?_ | assumption)), (by repeat (first | exact hs_eq _ _ _ | refine hs_ne (by omega) ?_ | assumption)), (by repeat (first | exact hs_eq _ _ _ | refine hs_ne (by omega) ?_ | assumption)), (by repeat (first | exact hs_eq _ _ _ | refine hs_ne (by omega) ?_ | assumption)), (by repeat (first | exact hs_eq _ _ _ | refine hs_ne (by omega) ?_ | assumption))⟩, fun aaa haa => by repeat (first | rfl | refine hs_ne (by omega) ?_)⟩)))
  · skip
    refine k_if_eq (tgt := 15) C dX8_count_8 (by decide) ⟨by omega, by omega⟩ (fun c8 => ?_) (fun c8 => ?_)
    · try (exfalso; omega)
      all_goals (
        refine k_iconst C dX8_count_15 ?_
        refine k_put C (k := 5) inX8 tyX8_ok nmX8 (ci := 8) rfl (by decide) fl_X8_25 rfl (Nat.le_of_ble_eq_true rfl) dX8_count_16 (by repeat (first | exact hs_eq _ _ _ | refine hs_ne (by omega) ?_ | assumption)) ?_
        refine k_aload_n C dX8_count_19 rfl ?_
        refine k_get C (k := 5) inX8 (ci := 8) rfl (by decide) fl_X8_25 dX8_count_20 (by repeat (first | exact hs_eq _ _ _ | refine hs_ne (by omega) ?_ | assumption)) rfl ?_
        refine k_if_le (tgt := 30) C dX8_count_23 (by decide) ⟨by omega, by omega⟩ (fun c23 => ?_) (fun c23 => ?_)
        · try (exfalso; omega)
          all_goals (
            refine k_aload_n C dX8_count_30 rfl ?_
            refine k_iload_n C dX8_count_31 rfl ?_
            refine k_callV C (n := 1) (as := [_]) (ct_X8_counted l D tc base oo zrr hhi htx has hro st ln _ re du hsh _ ⟨(by repeat (first | exact hs_eq _ _ _ | refine hs_ne (by omega) ?_ | assumption)), (by repeat (first | exact hs_eq _ _ _ | refine hs_ne (by omega) ?_ | assumption)), (by repeat (first | exact hs_eq _ _ _ | refine hs_ne (by omega) ?_ | assumption)), (by repeat (first | exact hs_eq _ _ _ | refine hs_ne (by omega) ?_ | assumption)), (by repeat (first | exact hs_eq _ _ _ | refine hs_ne (by omega) ?_ | assumption)), (by repeat (first | exact hs_eq _ _ _ | refine hs_ne (by omega) ?_ | assumption))⟩ _ hi hm (by omega)) ml_X8_152 im_X8_counted se_X8_counted ini_X8 co_X8_counted ⟨rfl, by decide, by decide, by decide +kernel⟩ rfl (ci := 8) rfl (by repeat (first | exact hs_eq _ _ _ | refine hs_ne (by omega) ?_ | assumption)) ⟨by decide, by decide⟩ rfl (Nat.le_of_ble_eq_true rfl) ⟨Nat.zero_le _, Nat.zero_le _⟩ dX8_count_32 ?_
            rintro _ _ ⟨rfl, rfl⟩
            refine k_iret C hr dX8_count_35 ?_
            first
              | exact Or.inl ⟨by omega, rfl, ⟨(by repeat (first | exact hs_eq _ _ _ | refine hs_ne (by omega) ?_ | assumption)), (by repeat (first | exact hs_eq _ _ _ | refine hs_ne (by omega) ?_ | assumption)), (by repeat (first | exact hs_eq _ _ _ | refine hs_ne (by omega) ?_ | assumption)), (by repeat (first | exact hs_eq _ _ _ | refine hs_ne (by omega) ?_ | assumption)), (by repeat (first | exact hs_eq _ _ _ | refine hs_ne (by omega) ?_ | assumption)), (by repeat (first | exact hs_eq _ _ _ | refine hs_ne (by omega) ?_ | assumption))⟩, fun aaa haa => by repeat (first | rfl | refine hs_ne (by omega) ?_)⟩
              | exact Or.inr (⟨by omega, rfl, ⟨(by repeat (first | exact hs_eq _ _ _ | refine hs_ne (by omega) ?_ | assumption)), (by repeat (first | exact hs_eq _ _ _ | refine hs_ne (by omega) ?_ | assumption)), (by repeat (first | exact hs_eq _ _ _ | refine hs_ne (by omega) ?_ | assumption)), (by repeat (first | exact hs_eq _ _ _ | refine hs_ne (by omega) ?_ | assumption)), (by repeat (first | exact hs_eq _ _ _ | refine hs_ne (by omega) ?_ | assumption)), (by repeat (first | exact hs_eq _ _ _ | refine hs_ne (by omega) ?_ | assumption))⟩, fun aaa haa => by repeat (first | rfl | refine hs_ne (by omega) ?_)⟩))
        · try (exfalso; omega)
          all_goals (
            refine k_iconst C dX8_count_26 ?_
            refine k_goto (tgt := 35) C dX8_count_27 (by decide) ?_
            refine k_iret C hr dX8_count_35 ?_
            first
              | exact Or.inl ⟨by omega, rfl, ⟨(by repeat (first | exact hs_eq _ _ _ | refine hs_ne (by omega) ?_ | assumption)), (by repeat (first | exact hs_eq _ _ _ | refine hs_ne (by omega) ?_ | assumption)), (by repeat (first | exact hs_eq _ _ _ | refine hs_ne (by omega) ?_ | assumption)), (by repeat (first | exact hs_eq _ _ _ | refine hs_ne (by omega) ?_ | assumption)), (by repeat (first | exact hs_eq _ _ _ | refine hs_ne (by omega) ?_ | assumption)), (by repeat (first | exact hs_eq _ _ _ | refine hs_ne (by omega) ?_ | assumption))⟩, fun aaa haa => by repeat (first | rfl | refine hs_ne (by omega) ?_)⟩
              | exact Or.inr (⟨by omega, rfl, ⟨(by repeat (first | exact hs_eq _ _ _ | refine hs_ne (by omega) ?_ | assumption)), (by repeat (first | exact hs_eq _ _ _ | refine hs_ne (by omega) ?_ | assumption)), (by repeat (first | exact hs_eq _ _ _ | refine hs_ne (by omega) ?_ | assumption)), (by repeat (first | exact hs_eq _ _ _ | refine hs_ne (by omega) ?_ | assumption)), (by repeat (first | exact hs_eq _ _ _ | refine hs_ne (by omega) ?_ | assumption)), (by repeat (first | exact hs_eq _ _ _ | refine hs_ne (by omega) ?_ | assumption))⟩, fun aaa haa => by repeat (first | rfl | refine hs_ne (by omega) ?_)⟩)))
    · try (exfalso; omega)
      all_goals (
        refine k_iconst C dX8_count_11 ?_
        refine k_goto (tgt := 16) C dX8_count_12 (by decide) ?_
        refine k_put C (k := 5) inX8 tyX8_ok nmX8 (ci := 8) rfl (by decide) fl_X8_25 rfl (Nat.le_of_ble_eq_true rfl) dX8_count_16 (by repeat (first | exact hs_eq _ _ _ | refine hs_ne (by omega) ?_ | assumption)) ?_
        refine k_aload_n C dX8_count_19 rfl ?_
        refine k_get C (k := 5) inX8 (ci := 8) rfl (by decide) fl_X8_25 dX8_count_20 (by repeat (first | exact hs_eq _ _ _ | refine hs_ne (by omega) ?_ | assumption)) rfl ?_
        refine k_if_le (tgt := 30) C dX8_count_23 (by decide) ⟨by omega, by omega⟩ (fun c23 => ?_) (fun c23 => ?_)
        · try (exfalso; omega)
          all_goals (
            refine k_aload_n C dX8_count_30 rfl ?_
            refine k_iload_n C dX8_count_31 rfl ?_
            refine k_callV C (n := 1) (as := [_]) (ct_X8_counted l D tc base oo zrr hhi htx has hro st ln _ re du hsh _ ⟨(by repeat (first | exact hs_eq _ _ _ | refine hs_ne (by omega) ?_ | assumption)), (by repeat (first | exact hs_eq _ _ _ | refine hs_ne (by omega) ?_ | assumption)), (by repeat (first | exact hs_eq _ _ _ | refine hs_ne (by omega) ?_ | assumption)), (by repeat (first | exact hs_eq _ _ _ | refine hs_ne (by omega) ?_ | assumption)), (by repeat (first | exact hs_eq _ _ _ | refine hs_ne (by omega) ?_ | assumption)), (by repeat (first | exact hs_eq _ _ _ | refine hs_ne (by omega) ?_ | assumption))⟩ _ hi hm (by omega)) ml_X8_152 im_X8_counted se_X8_counted ini_X8 co_X8_counted ⟨rfl, by decide, by decide, by decide +kernel⟩ rfl (ci := 8) rfl (by repeat (first | exact hs_eq _ _ _ | refine hs_ne (by omega) ?_ | assumption)) ⟨by decide, by decide⟩ rfl (Nat.le_of_ble_eq_true rfl) ⟨Nat.zero_le _, Nat.zero_le _⟩ dX8_count_32 ?_
            rintro _ _ ⟨rfl, rfl⟩
            refine k_iret C hr dX8_count_35 ?_
            first
              | exact Or.inl ⟨by omega, rfl, ⟨(by repeat (first | exact hs_eq _ _ _ | refine hs_ne (by omega) ?_ | assumption)), (by repeat (first | exact hs_eq _ _ _ | refine hs_ne (by omega) ?_ | assumption)), (by repeat (first | exact hs_eq _ _ _ | refine hs_ne (by omega) ?_ | assumption)), (by repeat (first | exact hs_eq _ _ _ | refine hs_ne (by omega) ?_ | assumption)), (by repeat (first | exact hs_eq _ _ _ | refine hs_ne (by omega) ?_ | assumption)), (by repeat (first | exact hs_eq _ _ _ | refine hs_ne (by omega) ?_ | assumption))⟩, fun aaa haa => by repeat (first | rfl | refine hs_ne (by omega) ?_)⟩
              | exact Or.inr (⟨by omega, rfl, ⟨(by repeat (first | exact hs_eq _ _ _ | refine hs_ne (by omega) ?_ | assumption)), (by repeat (first | exact hs_eq _ _ _ | refine hs_ne (by omega) ?_ | assumption)), (by repeat (first | exact hs_eq _ _ _ | refine hs_ne (by omega) ?_ | assumption)), (by repeat (first | exact hs_eq _ _ _ | refine hs_ne (by omega) ?_ | assumption)), (by repeat (first | exact hs_eq _ _ _ | refine hs_ne (by omega) ?_ | assumption)), (by repeat (first | exact hs_eq _ _ _ | refine hs_ne (by omega) ?_ | assumption))⟩, fun aaa haa => by repeat (first | rfl | refine hs_ne (by omega) ?_)⟩))
        · try (exfalso; omega)
          all_goals (
            refine k_iconst C dX8_count_26 ?_
            refine k_goto (tgt := 35) C dX8_count_27 (by decide) ?_
            refine k_iret C hr dX8_count_35 ?_
            first
              | exact Or.inl ⟨by omega, rfl, ⟨(by repeat (first | exact hs_eq _ _ _ | refine hs_ne (by omega) ?_ | assumption)), (by repeat (first | exact hs_eq _ _ _ | refine hs_ne (by omega) ?_ | assumption)), (by repeat (first | exact hs_eq _ _ _ | refine hs_ne (by omega) ?_ | assumption)), (by repeat (first | exact hs_eq _ _ _ | refine hs_ne (by omega) ?_ | assumption)), (by repeat (first | exact hs_eq _ _ _ | refine hs_ne (by omega) ?_ | assumption)), (by repeat (first | exact hs_eq _ _ _ | refine hs_ne (by omega) ?_ | assumption))⟩, fun aaa haa => by repeat (first | rfl | refine hs_ne (by omega) ?_)⟩
              | exact Or.inr (⟨by omega, rfl, ⟨(by repeat (first | exact hs_eq _ _ _ | refine hs_ne (by omega) ?_ | assumption)), (by repeat (first | exact hs_eq _ _ _ | refine hs_ne (by omega) ?_ | assumption)), (by repeat (first | exact hs_eq _ _ _ | refine hs_ne (by omega) ?_ | assumption)), (by repeat (first | exact hs_eq _ _ _ | refine hs_ne (by omega) ?_ | assumption)), (by repeat (first | exact hs_eq _ _ _ | refine hs_ne (by omega) ?_ | assumption)), (by repeat (first | exact hs_eq _ _ _ | refine hs_ne (by omega) ?_ | assumption))⟩, fun aaa haa => by repeat (first | rfl | refine hs_ne (by omega) ?_)⟩)))
