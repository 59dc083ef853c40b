set_option maxRecDepth 20000 in
set_option maxHeartbeats 1000000 in
theorem ct_L_told (l : Launch) (D : va_G) (tc : Nat → ClassId) (base : Nat) (rc an : Nat) (zrr hhi htx : Int → Int) (st ln : Int) (hpp : AH) (hX : XA hpp rc zrr hhi htx st ln) (hA : LA hpp an zrr st) : CT l D tc base yL_told cL_told 10 (some .boolean) 3 [aR rc, aR an, aR (an + 1), aR (an + 2), aR (an + 3), aR (an + 4)] hpp (fun r h' => r = some (aI 1) ∧ hpp = h') := by
  refine CT.of [some (aR rc), some (aR an), some (aR (an + 1)), some (aR (an + 2)), some (aR (an + 3)), some (aR (an + 4)), none, none, none, none] (by decide +kernel) rfl (Nat.le_of_ble_eq_true rfl) ?_
  intro p e s m args below meth c C hr hnm
  obtain ⟨⟨xfs, x0⟩, hok, h13x, hst⟩ := hX.fx
  have hi := hok.1
  obtain ⟨nu, hh, se, wi, de, ⟨y0, y1, y2, y3, y4⟩, hLR⟩ := id hA
  obtain ⟨⟨e0, e1, e2, e3, e4, e5, e6, e7, e8, e9, e10, e11, e12, e13, e14⟩, eh, es, ew, ed⟩ := id hLR
  obtain ⟨⟨g0, g1, g2, g9, g10, g11, g12, g13, g21, g52, g61, g62, g63, g64, g65, g66⟩, hwi, hde⟩ := id hi
  obtain ⟨cx5, cx6, cx14, cx15, cx16, cx17⟩ := zCnt_x zrr st
  have h1 : hh 1 = zrr 1 := eh 1 (by omega) (by omega)
  refine k_iconst C dL_told_0 ?_
  refine k_istore C dL_told_1 (by decide) rfl ?_
  have loop3 : ∀ (n : Nat) (kk : Int), 0 ≤ kk → kk ≤ 5 → 5 - kk < (n : Int) → Wk D tc base 10 p l e (lvR 3) s m args below meth c 0 0 (MQ below (Qx D tc base (fun r h' => r = some (aI 1) ∧ hpp = h')) args s 0 0 (fun q => base ≤ q)) 3 [some (aR rc), some (aR an), some (aR (an + 1)), some (aR (an + 2)), some (aR (an + 3)), some (aR (an + 4)), some (aI kk), none, none, none] [] hpp := by
    intro n
    induction n with
    | zero =>
      intro kk k0 k1 hmu
      exfalso
      omega
    | succ n ih =>
      intro kk k0 k1 hmu
      refine k_iload C dL_told_3 rfl ?_
      refine k_iconst C dL_told_5 ?_
      refine k_icmp_ge (tgt := 30) C dL_told_6 (by decide) ⟨by omega, by omega⟩ ⟨by omega, by omega⟩ (fun c6 => ?_) (fun c6 => ?_)
      · try (exfalso; omega)
        all_goals (
          refine k_iconst C dL_told_30 ?_
          refine k_istore C dL_told_31 (by decide) rfl ?_
          have loop33 : ∀ (n : Nat) (kk : Int), 5 ≤ kk → kk ≤ 12 → 12 - kk < (n : Int) → Wk D tc base 10 p l e (lvR 3) s m args below meth c 0 0 (MQ below (Qx D tc base (fun r h' => r = some (aI 1) ∧ hpp = h')) args s 0 0 (fun q => base ≤ q)) 33 [some (aR rc), some (aR an), some (aR (an + 1)), some (aR (an + 2)), some (aR (an + 3)), some (aR (an + 4)), some (aI kk), none, none, none] [] hpp := by
            intro n
            induction n with
            | zero =>
              intro kk k0 k1 hmu
              exfalso
              omega
            | succ n ih =>
              intro kk k0 k1 hmu
              refine k_iload C dL_told_33 rfl ?_
              refine k_bipush C dL_told_35 (by decide +kernel) ?_
              refine k_icmp_ge (tgt := 63) C dL_told_37 (by decide) ⟨by omega, by omega⟩ ⟨by omega, by omega⟩ (fun c37 => ?_) (fun c37 => ?_)
              · try (exfalso; omega)
                all_goals (
                  refine k_iconst C dL_told_63 ?_
                  refine k_istore C dL_told_64 (by decide) rfl ?_
                  have loop66 : ∀ (n : Nat) (kk : Int), 0 ≤ kk → kk ≤ 9 → 9 - kk < (n : Int) → Wk D tc base 10 p l e (lvR 3) s m args below meth c 0 0 (MQ below (Qx D tc base (fun r h' => r = some (aI 1) ∧ hpp = h')) args s 0 0 (fun q => base ≤ q)) 66 [some (aR rc), some (aR an), some (aR (an + 1)), some (aR (an + 2)), some (aR (an + 3)), some (aR (an + 4)), some (aI kk), none, none, none] [] hpp := by
                    intro n
                    induction n with
                    | zero =>
                      intro kk k0 k1 hmu
                      exfalso
                      omega
                    | succ n ih =>
                      intro kk k0 k1 hmu
                      refine k_iload C dL_told_66 rfl ?_
                      refine k_bipush C dL_told_68 (by decide +kernel) ?_
                      refine k_icmp_ge (tgt := 100) C dL_told_70 (by decide) ⟨by omega, by omega⟩ ⟨by omega, by omega⟩ (fun c70 => ?_) (fun c70 => ?_)
                      · try (exfalso; omega)
                        all_goals (
                          refine k_iconst C dL_told_100 ?_
                          refine k_istore C dL_told_101 (by decide) rfl ?_
                          have loop103 : ∀ (n : Nat) (kk : Int), 0 ≤ kk → kk ≤ 6 → 6 - kk < (n : Int) → Wk D tc base 10 p l e (lvR 3) s m args below meth c 0 0 (MQ below (Qx D tc base (fun r h' => r = some (aI 1) ∧ hpp = h')) args s 0 0 (fun q => base ≤ q)) 103 [some (aR rc), some (aR an), some (aR (an + 1)), some (aR (an + 2)), some (aR (an + 3)), some (aR (an + 4)), some (aI kk), none, none, none] [] hpp := by
                            intro n
                            induction n with
                            | zero =>
                              intro kk k0 k1 hmu
                              exfalso
                              omega
                            | succ n ih =>
                              intro kk k0 k1 hmu
                              refine k_iload C dL_told_103 rfl ?_
                              refine k_bipush C dL_told_105 (by decide +kernel) ?_
                              refine k_icmp_ge (tgt := 131) C dL_told_107 (by decide) ⟨by omega, by omega⟩ ⟨by omega, by omega⟩ (fun c107 => ?_) (fun c107 => ?_)
                              · try (exfalso; omega)
                                all_goals (
                                  refine k_iconst C dL_told_131 ?_
                                  refine k_istore C dL_told_132 (by decide) rfl ?_
                                  refine k_iconst C dL_told_134 ?_
                                  refine k_istore C dL_told_135 (by decide) rfl ?_
                                  have loop137 : ∀ (n : Nat) (kk : Nat), (kk : Int) ≤ zrr 52 → zrr 52 - kk < (n : Int) → Wk D tc base 10 p l e (lvR 3) s m args below meth c 0 0 (MQ below (Qx D tc base (fun r h' => r = some (aI 1) ∧ hpp = h')) args s 0 0 (fun q => base ≤ q)) 137 [some (aR rc), some (aR an), some (aR (an + 1)), some (aR (an + 2)), some (aR (an + 3)), some (aR (an + 4)), some (aI (zOwedN zrr kk)), some (aI kk), none, none] [] hpp := by
                                    intro n
                                    induction n with
                                    | zero =>
                                      intro kk hk hmu
                                      exfalso
                                      omega
                                    | succ n ih =>
                                      intro kk hk hmu
                                      refine k_iload C dL_told_137 rfl ?_
                                      refine k_aload_n C dL_told_139 rfl ?_
                                      refine k_bipush C dL_told_140 (by decide +kernel) ?_
                                      refine k_iaload C dL_told_142 (by repeat (first | exact hs_eq _ _ _ | refine hs_ne (by omega) ?_ | assumption)) (by omega) (by omega) (by omega) ?_
                                      refine k_icmp_ge (tgt := 204) C dL_told_143 (by decide) ⟨by omega, by omega⟩ ⟨by omega, by omega⟩ (fun c143 => ?_) (fun c143 => ?_)
                                      · try (exfalso; omega)
                                        all_goals (
                                          have eow : zOwedN zrr kk = zOwed zrr := by
                                            unfold zOwed
                                            rw [show (zrr 52).toNat = kk by omega]
                                          rw [eow]
                                          refine k_iconst C dL_told_204 ?_
                                          refine k_istore C dL_told_205 (by decide) rfl ?_
                                          have loop207 : ∀ (n : Nat) (jj : Int), 0 ≤ jj → jj ≤ zrr 21 → zrr 21 - jj < (n : Int) → Wk D tc base 10 p l e (lvR 3) s m args below meth c 0 0 (MQ below (Qx D tc base (fun r h' => r = some (aI 1) ∧ hpp = h')) args s 0 0 (fun q => base ≤ q)) 207 [some (aR rc), some (aR an), some (aR (an + 1)), some (aR (an + 2)), some (aR (an + 3)), some (aR (an + 4)), some (aI (zOwed zrr)), some (aI jj), none, none] [] hpp := by
                                            intro n
                                            induction n with
                                            | zero =>
                                              intro jj j0 j1 hmu
                                              exfalso
                                              omega
                                            | succ n ih =>
                                              intro jj j0 j1 hmu
                                              refine k_iload C dL_told_207 rfl ?_
                                              refine k_aload_n C dL_told_209 rfl ?_
                                              refine k_bipush C dL_told_210 (by decide +kernel) ?_
                                              refine k_iaload C dL_told_212 (by repeat (first | exact hs_eq _ _ _ | refine hs_ne (by omega) ?_ | assumption)) (by omega) (by omega) (by omega) ?_
                                              refine k_icmp_ge (tgt := 392) C dL_told_213 (by decide) ⟨by omega, by omega⟩ ⟨by omega, by omega⟩ (fun c213 => ?_) (fun c213 => ?_)
                                              · try (exfalso; omega)
                                                all_goals (
                                                  refine k_aload_n C dL_told_392 rfl ?_
                                                  refine k_iconst C dL_told_393 ?_
                                                  refine k_iaload C dL_told_394 (by repeat (first | exact hs_eq _ _ _ | refine hs_ne (by omega) ?_ | assumption)) (by omega) (by omega) (by omega) ?_
                                                  refine k_sipush C dL_told_395 (by decide +kernel) ?_
                                                  refine k_irem C dL_told_398 (by omega) (by omega) (by omega) (by omega) ?_
                                                  refine k_aload_n C dL_told_399 rfl ?_
                                                  refine k_iconst C dL_told_400 ?_
                                                  refine k_iaload C dL_told_401 (by repeat (first | exact hs_eq _ _ _ | refine hs_ne (by omega) ?_ | assumption)) (by omega) (by omega) (by omega) ?_
                                                  refine k_isub C dL_told_402 ?_
                                                  refine k_istore C dL_told_403 (by decide) rfl ?_
                                                  refine k_aload_n C dL_told_405 rfl ?_
                                                  refine k_iconst C dL_told_406 ?_
                                                  refine k_callV C (n := 1) (as := [_]) (ct_X7_count l D tc base rc _ _ _ _ _ _ hX _ (by omega)) ml_L_65 im_X7_count se_X7_count ini_X7 co_X7_count ⟨rfl, by decide, by decide, by decide +kernel⟩ rfl (ci := 7) rfl (by repeat (first | exact hs_eq _ _ _ | refine hs_ne (by omega) ?_ | assumption)) ⟨by decide, by decide⟩ rfl (Nat.le_of_ble_eq_true rfl) ⟨Nat.zero_le _, Nat.zero_le _⟩ dL_told_407 ?_
                                                  rintro _ _ ⟨rfl, rfl⟩
                                                  refine k_aload_n C dL_told_410 rfl ?_
                                                  refine k_bipush C dL_told_411 (by decide +kernel) ?_
                                                  refine k_iaload C dL_told_413 (by repeat (first | exact hs_eq _ _ _ | refine hs_ne (by omega) ?_ | assumption)) (by omega) (by omega) (by omega) ?_
                                                  refine k_icmp_neE (tgt := 505) C dL_told_414 (by decide) (cx5.trans e13.symm) ?_
                                                  refine k_aload_n C dL_told_417 rfl ?_
                                                  refine k_bipush C dL_told_418 (by decide +kernel) ?_
                                                  refine k_callV C (n := 1) (as := [_]) (ct_X7_count l D tc base rc _ _ _ _ _ _ hX _ (by omega)) ml_L_65 im_X7_count se_X7_count ini_X7 co_X7_count ⟨rfl, by decide, by decide, by decide +kernel⟩ rfl (ci := 7) rfl (by repeat (first | exact hs_eq _ _ _ | refine hs_ne (by omega) ?_ | assumption)) ⟨by decide, by decide⟩ rfl (Nat.le_of_ble_eq_true rfl) ⟨Nat.zero_le _, Nat.zero_le _⟩ dL_told_420 ?_
                                                  rintro _ _ ⟨rfl, rfl⟩
                                                  refine k_iload C dL_told_423 rfl ?_
                                                  refine k_icmp_neE (tgt := 505) C dL_told_425 (by decide) cx6 ?_
                                                  refine k_aload_n C dL_told_428 rfl ?_
                                                  refine k_bipush C dL_told_429 (by decide +kernel) ?_
                                                  refine k_callV C (n := 1) (as := [_]) (ct_X7_count l D tc base rc _ _ _ _ _ _ hX _ (by omega)) ml_L_65 im_X7_count se_X7_count ini_X7 co_X7_count ⟨rfl, by decide, by decide, by decide +kernel⟩ rfl (ci := 7) rfl (by repeat (first | exact hs_eq _ _ _ | refine hs_ne (by omega) ?_ | assumption)) ⟨by decide, by decide⟩ rfl (Nat.le_of_ble_eq_true rfl) ⟨Nat.zero_le _, Nat.zero_le _⟩ dL_told_431 ?_
                                                  rintro _ _ ⟨rfl, rfl⟩
                                                  refine k_aload_n C dL_told_434 rfl ?_
                                                  refine k_bipush C dL_told_435 (by decide +kernel) ?_
                                                  refine k_iaload C dL_told_437 (by repeat (first | exact hs_eq _ _ _ | refine hs_ne (by omega) ?_ | assumption)) (by omega) (by omega) (by omega) ?_
                                                  refine k_icmp_neE (tgt := 505) C dL_told_438 (by decide) (cx14.trans e12.symm) ?_
                                                  refine k_aload_n C dL_told_441 rfl ?_
                                                  refine k_bipush C dL_told_442 (by decide +kernel) ?_
                                                  refine k_callV C (n := 1) (as := [_]) (ct_X7_count l D tc base rc _ _ _ _ _ _ hX _ (by omega)) ml_L_65 im_X7_count se_X7_count ini_X7 co_X7_count ⟨rfl, by decide, by decide, by decide +kernel⟩ rfl (ci := 7) rfl (by repeat (first | exact hs_eq _ _ _ | refine hs_ne (by omega) ?_ | assumption)) ⟨by decide, by decide⟩ rfl (Nat.le_of_ble_eq_true rfl) ⟨Nat.zero_le _, Nat.zero_le _⟩ dL_told_444 ?_
                                                  rintro _ _ ⟨rfl, rfl⟩
                                                  refine k_iload C dL_told_447 rfl ?_
                                                  refine k_if_ge (tgt := 461) C dL_told_449 (by decide) ⟨by omega, by omega⟩ (fun c449 => ?_) (fun c449 => ?_)
                                                  · try (exfalso; omega)
                                                    all_goals (
                                                      refine k_iload C dL_told_461 rfl ?_
                                                      refine k_icmp_neE (tgt := 505) C dL_told_463 (by decide) (by rw [cx15]; omega) ?_
                                                      refine k_aload_n C dL_told_466 rfl ?_
                                                      refine k_bipush C dL_told_467 (by decide +kernel) ?_
                                                      refine k_callV C (n := 1) (as := [_]) (ct_X7_count l D tc base rc _ _ _ _ _ _ hX _ (by omega)) ml_L_65 im_X7_count se_X7_count ini_X7 co_X7_count ⟨rfl, by decide, by decide, by decide +kernel⟩ rfl (ci := 7) rfl (by repeat (first | exact hs_eq _ _ _ | refine hs_ne (by omega) ?_ | assumption)) ⟨by decide, by decide⟩ rfl (Nat.le_of_ble_eq_true rfl) ⟨Nat.zero_le _, Nat.zero_le _⟩ dL_told_469 ?_
                                                      rintro _ _ ⟨rfl, rfl⟩
                                                      refine k_aload_n C dL_told_472 rfl ?_
                                                      refine k_aload_n C dL_told_473 rfl ?_
                                                      refine k_callS C (n := 2) (as := [_, _]) (ct_L_silent l D tc base an zrr nu se _ y0 y2 hi e1 (es 4 (by omega) (by omega)) (es 5 (by omega) (by omega))) ml_L_18 sm_L_silent ini_L co_L_silent ⟨by decide, by decide, by decide +kernel⟩ rfl ⟨by decide, by decide⟩ rfl (Nat.le_of_ble_eq_true rfl) ⟨Nat.zero_le _, Nat.zero_le _⟩ dL_told_474 ?_
                                                      rintro _ _ (⟨rfl, rfl, hq⟩ | ⟨rfl, rfl, hq⟩)
                                                      · skip
                                                        refine k_if_eq (tgt := 484) C dL_told_477 (by decide) ⟨by omega, by omega⟩ (fun c477 => ?_) (fun c477 => ?_)
                                                        · try (exfalso; omega)
                                                          all_goals (
                                                            refine k_iconst C dL_told_484 ?_
                                                            refine k_icmp_neE (tgt := 505) C dL_told_485 (by decide) (by rw [cx16]; first | exact if_pos hq | exact if_neg hq) ?_
                                                            refine k_aload_n C dL_told_488 rfl ?_
                                                            refine k_bipush C dL_told_489 (by decide +kernel) ?_
                                                            refine k_callV C (n := 1) (as := [_]) (ct_X7_count l D tc base rc _ _ _ _ _ _ hX _ (by omega)) ml_L_65 im_X7_count se_X7_count ini_X7 co_X7_count ⟨rfl, by decide, by decide, by decide +kernel⟩ rfl (ci := 7) rfl (by repeat (first | exact hs_eq _ _ _ | refine hs_ne (by omega) ?_ | assumption)) ⟨by decide, by decide⟩ rfl (Nat.le_of_ble_eq_true rfl) ⟨Nat.zero_le _, Nat.zero_le _⟩ dL_told_491 ?_
                                                            rintro _ _ ⟨rfl, rfl⟩
                                                            refine k_aload_n C dL_told_494 rfl ?_
                                                            refine k_bipush C dL_told_495 (by decide +kernel) ?_
                                                            refine k_iaload C dL_told_497 (by repeat (first | exact hs_eq _ _ _ | refine hs_ne (by omega) ?_ | assumption)) (by omega) (by omega) (by omega) ?_
                                                            refine k_icmp_neE (tgt := 505) C dL_told_498 (by decide) (cx17.trans e14.symm) ?_
                                                            refine k_iconst C dL_told_501 ?_
                                                            refine k_goto (tgt := 506) C dL_told_502 (by decide) ?_
                                                            refine k_zret C hr dL_told_506 (by omega) ?_
                                                            exact ⟨rfl, rfl⟩)
                                                        · try (exfalso; omega)
                                                          all_goals (
                                                            refine k_iconst C dL_told_480 ?_
                                                            refine k_goto (tgt := 485) C dL_told_481 (by decide) ?_
                                                            refine k_icmp_neE (tgt := 505) C dL_told_485 (by decide) (by rw [cx16]; first | exact if_pos hq | exact if_neg hq) ?_
                                                            refine k_aload_n C dL_told_488 rfl ?_
                                                            refine k_bipush C dL_told_489 (by decide +kernel) ?_
                                                            refine k_callV C (n := 1) (as := [_]) (ct_X7_count l D tc base rc _ _ _ _ _ _ hX _ (by omega)) ml_L_65 im_X7_count se_X7_count ini_X7 co_X7_count ⟨rfl, by decide, by decide, by decide +kernel⟩ rfl (ci := 7) rfl (by repeat (first | exact hs_eq _ _ _ | refine hs_ne (by omega) ?_ | assumption)) ⟨by decide, by decide⟩ rfl (Nat.le_of_ble_eq_true rfl) ⟨Nat.zero_le _, Nat.zero_le _⟩ dL_told_491 ?_
                                                            rintro _ _ ⟨rfl, rfl⟩
                                                            refine k_aload_n C dL_told_494 rfl ?_
                                                            refine k_bipush C dL_told_495 (by decide +kernel) ?_
                                                            refine k_iaload C dL_told_497 (by repeat (first | exact hs_eq _ _ _ | refine hs_ne (by omega) ?_ | assumption)) (by omega) (by omega) (by omega) ?_
                                                            refine k_icmp_neE (tgt := 505) C dL_told_498 (by decide) (cx17.trans e14.symm) ?_
                                                            refine k_iconst C dL_told_501 ?_
                                                            refine k_goto (tgt := 506) C dL_told_502 (by decide) ?_
                                                            refine k_zret C hr dL_told_506 (by omega) ?_
                                                            exact ⟨rfl, rfl⟩)
                                                      · skip
                                                        refine k_if_eq (tgt := 484) C dL_told_477 (by decide) ⟨by omega, by omega⟩ (fun c477 => ?_) (fun c477 => ?_)
                                                        · try (exfalso; omega)
                                                          all_goals (
                                                            refine k_iconst C dL_told_484 ?_
                                                            refine k_icmp_neE (tgt := 505) C dL_told_485 (by decide) (by rw [cx16]; first | exact if_pos hq | exact if_neg hq) ?_
                                                            refine k_aload_n C dL_told_488 rfl ?_
                                                            refine k_bipush C dL_told_489 (by decide +kernel) ?_
                                                            refine k_callV C (n := 1) (as := [_]) (ct_X7_count l D tc base rc _ _ _ _ _ _ hX _ (by omega)) ml_L_65 im_X7_count se_X7_count ini_X7 co_X7_count ⟨rfl, by decide, by decide, by decide +kernel⟩ rfl (ci := 7) rfl (by repeat (first | exact hs_eq _ _ _ | refine hs_ne (by omega) ?_ | assumption)) ⟨by decide, by decide⟩ rfl (Nat.le_of_ble_eq_true rfl) ⟨Nat.zero_le _, Nat.zero_le _⟩ dL_told_491 ?_
                                                            rintro _ _ ⟨rfl, rfl⟩
                                                            refine k_aload_n C dL_told_494 rfl ?_
                                                            refine k_bipush C dL_told_495 (by decide +kernel) ?_
                                                            refine k_iaload C dL_told_497 (by repeat (first | exact hs_eq _ _ _ | refine hs_ne (by omega) ?_ | assumption)) (by omega) (by omega) (by omega) ?_
                                                            refine k_icmp_neE (tgt := 505) C dL_told_498 (by decide) (cx17.trans e14.symm) ?_
                                                            refine k_iconst C dL_told_501 ?_
                                                            refine k_goto (tgt := 506) C dL_told_502 (by decide) ?_
                                                            refine k_zret C hr dL_told_506 (by omega) ?_
                                                            exact ⟨rfl, rfl⟩)
                                                        · try (exfalso; omega)
                                                          all_goals (
                                                            refine k_iconst C dL_told_480 ?_
                                                            refine k_goto (tgt := 485) C dL_told_481 (by decide) ?_
                                                            refine k_icmp_neE (tgt := 505) C dL_told_485 (by decide) (by rw [cx16]; first | exact if_pos hq | exact if_neg hq) ?_
                                                            refine k_aload_n C dL_told_488 rfl ?_
                                                            refine k_bipush C dL_told_489 (by decide +kernel) ?_
                                                            refine k_callV C (n := 1) (as := [_]) (ct_X7_count l D tc base rc _ _ _ _ _ _ hX _ (by omega)) ml_L_65 im_X7_count se_X7_count ini_X7 co_X7_count ⟨rfl, by decide, by decide, by decide +kernel⟩ rfl (ci := 7) rfl (by repeat (first | exact hs_eq _ _ _ | refine hs_ne (by omega) ?_ | assumption)) ⟨by decide, by decide⟩ rfl (Nat.le_of_ble_eq_true rfl) ⟨Nat.zero_le _, Nat.zero_le _⟩ dL_told_491 ?_
                                                            rintro _ _ ⟨rfl, rfl⟩
                                                            refine k_aload_n C dL_told_494 rfl ?_
                                                            refine k_bipush C dL_told_495 (by decide +kernel) ?_
                                                            refine k_iaload C dL_told_497 (by repeat (first | exact hs_eq _ _ _ | refine hs_ne (by omega) ?_ | assumption)) (by omega) (by omega) (by omega) ?_
                                                            refine k_icmp_neE (tgt := 505) C dL_told_498 (by decide) (cx17.trans e14.symm) ?_
                                                            refine k_iconst C dL_told_501 ?_
                                                            refine k_goto (tgt := 506) C dL_told_502 (by decide) ?_
                                                            refine k_zret C hr dL_told_506 (by omega) ?_
                                                            exact ⟨rfl, rfl⟩))
                                                  · try (exfalso; omega)
                                                    all_goals (
                                                      refine k_iload C dL_told_452 rfl ?_
                                                      refine k_sipush C dL_told_454 (by decide +kernel) ?_
                                                      refine k_iadd C dL_told_457 ?_
                                                      refine k_goto (tgt := 463) C dL_told_458 (by decide) ?_
                                                      refine k_icmp_neE (tgt := 505) C dL_told_463 (by decide) (by rw [cx15]; omega) ?_
                                                      refine k_aload_n C dL_told_466 rfl ?_
                                                      refine k_bipush C dL_told_467 (by decide +kernel) ?_
                                                      refine k_callV C (n := 1) (as := [_]) (ct_X7_count l D tc base rc _ _ _ _ _ _ hX _ (by omega)) ml_L_65 im_X7_count se_X7_count ini_X7 co_X7_count ⟨rfl, by decide, by decide, by decide +kernel⟩ rfl (ci := 7) rfl (by repeat (first | exact hs_eq _ _ _ | refine hs_ne (by omega) ?_ | assumption)) ⟨by decide, by decide⟩ rfl (Nat.le_of_ble_eq_true rfl) ⟨Nat.zero_le _, Nat.zero_le _⟩ dL_told_469 ?_
                                                      rintro _ _ ⟨rfl, rfl⟩
                                                      refine k_aload_n C dL_told_472 rfl ?_
                                                      refine k_aload_n C dL_told_473 rfl ?_
                                                      refine k_callS C (n := 2) (as := [_, _]) (ct_L_silent l D tc base an zrr nu se _ y0 y2 hi e1 (es 4 (by omega) (by omega)) (es 5 (by omega) (by omega))) ml_L_18 sm_L_silent ini_L co_L_silent ⟨by decide, by decide, by decide +kernel⟩ rfl ⟨by decide, by decide⟩ rfl (Nat.le_of_ble_eq_true rfl) ⟨Nat.zero_le _, Nat.zero_le _⟩ dL_told_474 ?_
                                                      rintro _ _ (⟨rfl, rfl, hq⟩ | ⟨rfl, rfl, hq⟩)
                                                      · skip
                                                        refine k_if_eq (tgt := 484) C dL_told_477 (by decide) ⟨by omega, by omega⟩ (fun c477 => ?_) (fun c477 => ?_)
                                                        · try (exfalso; omega)
                                                          all_goals (
                                                            refine k_iconst C dL_told_484 ?_
                                                            refine k_icmp_neE (tgt := 505) C dL_told_485 (by decide) (by rw [cx16]; first | exact if_pos hq | exact if_neg hq) ?_
                                                            refine k_aload_n C dL_told_488 rfl ?_
                                                            refine k_bipush C dL_told_489 (by decide +kernel) ?_
                                                            refine k_callV C (n := 1) (as := [_]) (ct_X7_count l D tc base rc _ _ _ _ _ _ hX _ (by omega)) ml_L_65 im_X7_count se_X7_count ini_X7 co_X7_count ⟨rfl, by decide, by decide, by decide +kernel⟩ rfl (ci := 7) rfl (by repeat (first | exact hs_eq _ _ _ | refine hs_ne (by omega) ?_ | assumption)) ⟨by decide, by decide⟩ rfl (Nat.le_of_ble_eq_true rfl) ⟨Nat.zero_le _, Nat.zero_le _⟩ dL_told_491 ?_
                                                            rintro _ _ ⟨rfl, rfl⟩
                                                            refine k_aload_n C dL_told_494 rfl ?_
                                                            refine k_bipush C dL_told_495 (by decide +kernel) ?_
                                                            refine k_iaload C dL_told_497 (by repeat (first | exact hs_eq _ _ _ | refine hs_ne (by omega) ?_ | assumption)) (by omega) (by omega) (by omega) ?_
                                                            refine k_icmp_neE (tgt := 505) C dL_told_498 (by decide) (cx17.trans e14.symm) ?_
                                                            refine k_iconst C dL_told_501 ?_
                                                            refine k_goto (tgt := 506) C dL_told_502 (by decide) ?_
                                                            refine k_zret C hr dL_told_506 (by omega) ?_
                                                            exact ⟨rfl, rfl⟩)
                                                        · try (exfalso; omega)
                                                          all_goals (
                                                            refine k_iconst C dL_told_480 ?_
                                                            refine k_goto (tgt := 485) C dL_told_481 (by decide) ?_
                                                            refine k_icmp_neE (tgt := 505) C dL_told_485 (by decide) (by rw [cx16]; first | exact if_pos hq | exact if_neg hq) ?_
                                                            refine k_aload_n C dL_told_488 rfl ?_
                                                            refine k_bipush C dL_told_489 (by decide +kernel) ?_
                                                            refine k_callV C (n := 1) (as := [_]) (ct_X7_count l D tc base rc _ _ _ _ _ _ hX _ (by omega)) ml_L_65 im_X7_count se_X7_count ini_X7 co_X7_count ⟨rfl, by decide, by decide, by decide +kernel⟩ rfl (ci := 7) rfl (by repeat (first | exact hs_eq _ _ _ | refine hs_ne (by omega) ?_ | assumption)) ⟨by decide, by decide⟩ rfl (Nat.le_of_ble_eq_true rfl) ⟨Nat.zero_le _, Nat.zero_le _⟩ dL_told_491 ?_
                                                            rintro _ _ ⟨rfl, rfl⟩
                                                            refine k_aload_n C dL_told_494 rfl ?_
                                                            refine k_bipush C dL_told_495 (by decide +kernel) ?_
                                                            refine k_iaload C dL_told_497 (by repeat (first | exact hs_eq _ _ _ | refine hs_ne (by omega) ?_ | assumption)) (by omega) (by omega) (by omega) ?_
                                                            refine k_icmp_neE (tgt := 505) C dL_told_498 (by decide) (cx17.trans e14.symm) ?_
                                                            refine k_iconst C dL_told_501 ?_
                                                            refine k_goto (tgt := 506) C dL_told_502 (by decide) ?_
                                                            refine k_zret C hr dL_told_506 (by omega) ?_
                                                            exact ⟨rfl, rfl⟩)
                                                      · skip
                                                        refine k_if_eq (tgt := 484) C dL_told_477 (by decide) ⟨by omega, by omega⟩ (fun c477 => ?_) (fun c477 => ?_)
                                                        · try (exfalso; omega)
                                                          all_goals (
                                                            refine k_iconst C dL_told_484 ?_
                                                            refine k_icmp_neE (tgt := 505) C dL_told_485 (by decide) (by rw [cx16]; first | exact if_pos hq | exact if_neg hq) ?_
                                                            refine k_aload_n C dL_told_488 rfl ?_
                                                            refine k_bipush C dL_told_489 (by decide +kernel) ?_
                                                            refine k_callV C (n := 1) (as := [_]) (ct_X7_count l D tc base rc _ _ _ _ _ _ hX _ (by omega)) ml_L_65 im_X7_count se_X7_count ini_X7 co_X7_count ⟨rfl, by decide, by decide, by decide +kernel⟩ rfl (ci := 7) rfl (by repeat (first | exact hs_eq _ _ _ | refine hs_ne (by omega) ?_ | assumption)) ⟨by decide, by decide⟩ rfl (Nat.le_of_ble_eq_true rfl) ⟨Nat.zero_le _, Nat.zero_le _⟩ dL_told_491 ?_
                                                            rintro _ _ ⟨rfl, rfl⟩
                                                            refine k_aload_n C dL_told_494 rfl ?_
                                                            refine k_bipush C dL_told_495 (by decide +kernel) ?_
                                                            refine k_iaload C dL_told_497 (by repeat (first | exact hs_eq _ _ _ | refine hs_ne (by omega) ?_ | assumption)) (by omega) (by omega) (by omega) ?_
                                                            refine k_icmp_neE (tgt := 505) C dL_told_498 (by decide) (cx17.trans e14.symm) ?_
                                                            refine k_iconst C dL_told_501 ?_
                                                            refine k_goto (tgt := 506) C dL_told_502 (by decide) ?_
                                                            refine k_zret C hr dL_told_506 (by omega) ?_
                                                            exact ⟨rfl, rfl⟩)
                                                        · try (exfalso; omega)
                                                          all_goals (
                                                            refine k_iconst C dL_told_480 ?_
                                                            refine k_goto (tgt := 485) C dL_told_481 (by decide) ?_
                                                            refine k_icmp_neE (tgt := 505) C dL_told_485 (by decide) (by rw [cx16]; first | exact if_pos hq | exact if_neg hq) ?_
                                                            refine k_aload_n C dL_told_488 rfl ?_
                                                            refine k_bipush C dL_told_489 (by decide +kernel) ?_
                                                            refine k_callV C (n := 1) (as := [_]) (ct_X7_count l D tc base rc _ _ _ _ _ _ hX _ (by omega)) ml_L_65 im_X7_count se_X7_count ini_X7 co_X7_count ⟨rfl, by decide, by decide, by decide +kernel⟩ rfl (ci := 7) rfl (by repeat (first | exact hs_eq _ _ _ | refine hs_ne (by omega) ?_ | assumption)) ⟨by decide, by decide⟩ rfl (Nat.le_of_ble_eq_true rfl) ⟨Nat.zero_le _, Nat.zero_le _⟩ dL_told_491 ?_
                                                            rintro _ _ ⟨rfl, rfl⟩
                                                            refine k_aload_n C dL_told_494 rfl ?_
                                                            refine k_bipush C dL_told_495 (by decide +kernel) ?_
                                                            refine k_iaload C dL_told_497 (by repeat (first | exact hs_eq _ _ _ | refine hs_ne (by omega) ?_ | assumption)) (by omega) (by omega) (by omega) ?_
                                                            refine k_icmp_neE (tgt := 505) C dL_told_498 (by decide) (cx17.trans e14.symm) ?_
                                                            refine k_iconst C dL_told_501 ?_
                                                            refine k_goto (tgt := 506) C dL_told_502 (by decide) ?_
                                                            refine k_zret C hr dL_told_506 (by omega) ?_
                                                            exact ⟨rfl, rfl⟩)))
                                              · try (exfalso; omega)
                                                all_goals (
                                                  have w0 : wi (5 * jj) = zrr (22 + 5 * jj) := ew (5 * jj) (by omega) (by omega)
                                                  have w1 : wi (5 * jj + 1) = zrr (22 + 5 * jj + 1) := by
                                                    have := ew (5 * jj + 1) (by omega) (by omega)
                                                    rw [← Int.add_assoc] at this
                                                    exact this
                                                  have w2 : wi (5 * jj + 2) = zrr (22 + 5 * jj + 2) := by
                                                    have := ew (5 * jj + 2) (by omega) (by omega)
                                                    rw [← Int.add_assoc] at this
                                                    exact this
                                                  have w3 : wi (5 * jj + 3) = zrr (22 + 5 * jj + 3) := by
                                                    have := ew (5 * jj + 3) (by omega) (by omega)
                                                    rw [← Int.add_assoc] at this
                                                    exact this
                                                  have w4 : wi (5 * jj + 4) = zrr (22 + 5 * jj + 4) := by
                                                    have := ew (5 * jj + 4) (by omega) (by omega)
                                                    rw [← Int.add_assoc] at this
                                                    exact this
                                                  have hwj := hwi jj (by omega) (by omega)
                                                  obtain ⟨x0w, x1w, x2w, x3w, x4w, x5w⟩ := zWin_x zrr jj
                                                  refine k_aload C dL_told_216 rfl ?_
                                                  refine k_iconst C dL_told_218 ?_
                                                  refine k_iload C dL_told_219 rfl ?_
                                                  refine k_imul C dL_told_221 ?_
                                                  refine k_iconst C dL_told_222 ?_
                                                  refine k_iadd C dL_told_223 ?_
                                                  refine k_iaload C dL_told_224 (by repeat (first | exact hs_eq _ _ _ | refine hs_ne (by omega) ?_ | assumption)) (by omega) (by omega) (by omega) ?_
                                                  refine k_aload_n C dL_told_225 rfl ?_
                                                  refine k_iconst C dL_told_226 ?_
                                                  refine k_iaload C dL_told_227 (by repeat (first | exact hs_eq _ _ _ | refine hs_ne (by omega) ?_ | assumption)) (by omega) (by omega) (by omega) ?_
                                                  refine k_isub C dL_told_228 ?_
                                                  refine k_istore C dL_told_229 (by decide) rfl ?_
                                                  refine k_iload C dL_told_231 rfl ?_
                                                  refine k_if_gt (tgt := 264) C dL_told_233 (by decide) ⟨by omega, by omega⟩ (fun c233 => ?_) (fun c233 => ?_)
                                                  · try (exfalso; omega)
                                                    all_goals (
                                                      refine k_iconst C dL_told_264 ?_
                                                      refine k_istore C dL_told_265 (by decide) rfl ?_
                                                      refine k_aload_n C dL_told_267 rfl ?_
                                                      refine k_iload C dL_told_268 rfl ?_
                                                      refine k_iconst C dL_told_270 ?_
                                                      refine k_callV C (n := 2) (as := [_, _]) (ct_X7_winder l D tc base rc _ _ _ _ _ _ hX _ _ (by omega) (by omega)) ml_L_77 im_X7_winder se_X7_winder ini_X7 co_X7_winder ⟨rfl, by decide, by decide, by decide +kernel⟩ rfl (ci := 7) rfl (by repeat (first | exact hs_eq _ _ _ | refine hs_ne (by omega) ?_ | assumption)) ⟨by decide, by decide⟩ rfl (Nat.le_of_ble_eq_true rfl) ⟨Nat.zero_le _, Nat.zero_le _⟩ dL_told_271 ?_
                                                      rintro _ _ ⟨rfl, rfl⟩
                                                      refine k_aload C dL_told_274 rfl ?_
                                                      refine k_iconst C dL_told_276 ?_
                                                      refine k_iload C dL_told_277 rfl ?_
                                                      refine k_imul C dL_told_279 ?_
                                                      refine k_iaload C dL_told_280 (by repeat (first | exact hs_eq _ _ _ | refine hs_ne (by omega) ?_ | assumption)) (by omega) (by omega) (by omega) ?_
                                                      refine k_icmp_neE (tgt := 322) C dL_told_281 (by decide) (x0w.trans w0.symm) ?_
                                                      refine k_aload_n C dL_told_284 rfl ?_
                                                      refine k_iload C dL_told_285 rfl ?_
                                                      refine k_iconst C dL_told_287 ?_
                                                      refine k_callV C (n := 2) (as := [_, _]) (ct_X7_winder l D tc base rc _ _ _ _ _ _ hX _ _ (by omega) (by omega)) ml_L_77 im_X7_winder se_X7_winder ini_X7 co_X7_winder ⟨rfl, by decide, by decide, by decide +kernel⟩ rfl (ci := 7) rfl (by repeat (first | exact hs_eq _ _ _ | refine hs_ne (by omega) ?_ | assumption)) ⟨by decide, by decide⟩ rfl (Nat.le_of_ble_eq_true rfl) ⟨Nat.zero_le _, Nat.zero_le _⟩ dL_told_288 ?_
                                                      rintro _ _ ⟨rfl, rfl⟩
                                                      refine k_aload C dL_told_291 rfl ?_
                                                      refine k_iconst C dL_told_293 ?_
                                                      refine k_iload C dL_told_294 rfl ?_
                                                      refine k_imul C dL_told_296 ?_
                                                      refine k_iconst C dL_told_297 ?_
                                                      refine k_iadd C dL_told_298 ?_
                                                      refine k_iaload C dL_told_299 (by repeat (first | exact hs_eq _ _ _ | refine hs_ne (by omega) ?_ | assumption)) (by omega) (by omega) (by omega) ?_
                                                      refine k_icmp_neE (tgt := 322) C dL_told_300 (by decide) (x1w.trans w1.symm) ?_
                                                      refine k_aload_n C dL_told_303 rfl ?_
                                                      refine k_iload C dL_told_304 rfl ?_
                                                      refine k_iconst C dL_told_306 ?_
                                                      refine k_callV C (n := 2) (as := [_, _]) (ct_X7_winder l D tc base rc _ _ _ _ _ _ hX _ _ (by omega) (by omega)) ml_L_77 im_X7_winder se_X7_winder ini_X7 co_X7_winder ⟨rfl, by decide, by decide, by decide +kernel⟩ rfl (ci := 7) rfl (by repeat (first | exact hs_eq _ _ _ | refine hs_ne (by omega) ?_ | assumption)) ⟨by decide, by decide⟩ rfl (Nat.le_of_ble_eq_true rfl) ⟨Nat.zero_le _, Nat.zero_le _⟩ dL_told_307 ?_
                                                      rintro _ _ ⟨rfl, rfl⟩
                                                      refine k_aload C dL_told_310 rfl ?_
                                                      refine k_iconst C dL_told_312 ?_
                                                      refine k_iload C dL_told_313 rfl ?_
                                                      refine k_imul C dL_told_315 ?_
                                                      refine k_iconst C dL_told_316 ?_
                                                      refine k_iadd C dL_told_317 ?_
                                                      refine k_iaload C dL_told_318 (by repeat (first | exact hs_eq _ _ _ | refine hs_ne (by omega) ?_ | assumption)) (by omega) (by omega) (by omega) ?_
                                                      refine k_icmp_eqE (tgt := 324) C dL_told_319 (by decide) (x2w.trans w2.symm) ?_
                                                      refine k_aload_n C dL_told_324 rfl ?_
                                                      refine k_iload C dL_told_325 rfl ?_
                                                      refine k_iconst C dL_told_327 ?_
                                                      refine k_callV C (n := 2) (as := [_, _]) (ct_X7_winder l D tc base rc _ _ _ _ _ _ hX _ _ (by omega) (by omega)) ml_L_77 im_X7_winder se_X7_winder ini_X7 co_X7_winder ⟨rfl, by decide, by decide, by decide +kernel⟩ rfl (ci := 7) rfl (by repeat (first | exact hs_eq _ _ _ | refine hs_ne (by omega) ?_ | assumption)) ⟨by decide, by decide⟩ rfl (Nat.le_of_ble_eq_true rfl) ⟨Nat.zero_le _, Nat.zero_le _⟩ dL_told_328 ?_
                                                      rintro _ _ ⟨rfl, rfl⟩
                                                      refine k_iload C dL_told_331 rfl ?_
                                                      refine k_if_le (tgt := 341) C dL_told_333 (by decide) ⟨by omega, by omega⟩ (fun c333 => ?_) (fun c333 => ?_)
                                                      · try (exfalso; omega)
                                                        all_goals (
                                                          refine k_iconst C dL_told_341 ?_
                                                          refine k_icmp_neE (tgt := 384) C dL_told_342 (by decide) (by rw [x3w]; split <;> omega) ?_
                                                          refine k_aload_n C dL_told_345 rfl ?_
                                                          refine k_iload C dL_told_346 rfl ?_
                                                          refine k_iconst C dL_told_348 ?_
                                                          refine k_callV C (n := 2) (as := [_, _]) (ct_X7_winder l D tc base rc _ _ _ _ _ _ hX _ _ (by omega) (by omega)) ml_L_77 im_X7_winder se_X7_winder ini_X7 co_X7_winder ⟨rfl, by decide, by decide, by decide +kernel⟩ rfl (ci := 7) rfl (by repeat (first | exact hs_eq _ _ _ | refine hs_ne (by omega) ?_ | assumption)) ⟨by decide, by decide⟩ rfl (Nat.le_of_ble_eq_true rfl) ⟨Nat.zero_le _, Nat.zero_le _⟩ dL_told_349 ?_
                                                          rintro _ _ ⟨rfl, rfl⟩
                                                          refine k_aload C dL_told_352 rfl ?_
                                                          refine k_iconst C dL_told_354 ?_
                                                          refine k_iload C dL_told_355 rfl ?_
                                                          refine k_imul C dL_told_357 ?_
                                                          refine k_iconst C dL_told_358 ?_
                                                          refine k_iadd C dL_told_359 ?_
                                                          refine k_iaload C dL_told_360 (by repeat (first | exact hs_eq _ _ _ | refine hs_ne (by omega) ?_ | assumption)) (by omega) (by omega) (by omega) ?_
                                                          refine k_icmp_neE (tgt := 384) C dL_told_361 (by decide) (x4w.trans w4.symm) ?_
                                                          refine k_aload_n C dL_told_364 rfl ?_
                                                          refine k_iload C dL_told_365 rfl ?_
                                                          refine k_iconst C dL_told_367 ?_
                                                          refine k_callV C (n := 2) (as := [_, _]) (ct_X7_winder l D tc base rc _ _ _ _ _ _ hX _ _ (by omega) (by omega)) ml_L_77 im_X7_winder se_X7_winder ini_X7 co_X7_winder ⟨rfl, by decide, by decide, by decide +kernel⟩ rfl (ci := 7) rfl (by repeat (first | exact hs_eq _ _ _ | refine hs_ne (by omega) ?_ | assumption)) ⟨by decide, by decide⟩ rfl (Nat.le_of_ble_eq_true rfl) ⟨Nat.zero_le _, Nat.zero_le _⟩ dL_told_368 ?_
                                                          rintro _ _ ⟨rfl, rfl⟩
                                                          refine k_iload C dL_told_371 rfl ?_
                                                          refine k_if_eq (tgt := 380) C dL_told_373 (by decide) ⟨by omega, by omega⟩ (fun c373 => ?_) (fun c373 => ?_)
                                                          · try (exfalso; omega)
                                                            all_goals (
                                                              refine k_iconst C dL_told_380 ?_
                                                              refine k_icmp_eqE (tgt := 386) C dL_told_381 (by decide) (by rw [x5w]; split <;> omega) ?_
                                                              refine k_iinc C dL_told_386 rfl (by decide) rfl ?_
                                                              refine k_goto (tgt := 207) C dL_told_389 (by decide) ?_
                                                              have q1 := ih (jj + 1) (by omega) (by omega) (by omega)
                                                              exact k_sub q1 (And.intro rfl (And.intro rfl (And.intro rfl (And.intro rfl (And.intro rfl (And.intro rfl (And.intro rfl (And.intro rfl trivial)))))))))
                                                          · try (exfalso; omega)
                                                            all_goals (
                                                              refine k_iconst C dL_told_376 ?_
                                                              refine k_goto (tgt := 381) C dL_told_377 (by decide) ?_
                                                              refine k_icmp_eqE (tgt := 386) C dL_told_381 (by decide) (by rw [x5w]; split <;> omega) ?_
                                                              refine k_iinc C dL_told_386 rfl (by decide) rfl ?_
                                                              refine k_goto (tgt := 207) C dL_told_389 (by decide) ?_
                                                              have q1 := ih (jj + 1) (by omega) (by omega) (by omega)
                                                              exact k_sub q1 (And.intro rfl (And.intro rfl (And.intro rfl (And.intro rfl (And.intro rfl (And.intro rfl (And.intro rfl (And.intro rfl trivial))))))))))
                                                      · try (exfalso; omega)
                                                        all_goals (
                                                          refine k_iload C dL_told_336 rfl ?_
                                                          refine k_goto (tgt := 342) C dL_told_338 (by decide) ?_
                                                          refine k_icmp_neE (tgt := 384) C dL_told_342 (by decide) (by rw [x3w]; split <;> omega) ?_
                                                          refine k_aload_n C dL_told_345 rfl ?_
                                                          refine k_iload C dL_told_346 rfl ?_
                                                          refine k_iconst C dL_told_348 ?_
                                                          refine k_callV C (n := 2) (as := [_, _]) (ct_X7_winder l D tc base rc _ _ _ _ _ _ hX _ _ (by omega) (by omega)) ml_L_77 im_X7_winder se_X7_winder ini_X7 co_X7_winder ⟨rfl, by decide, by decide, by decide +kernel⟩ rfl (ci := 7) rfl (by repeat (first | exact hs_eq _ _ _ | refine hs_ne (by omega) ?_ | assumption)) ⟨by decide, by decide⟩ rfl (Nat.le_of_ble_eq_true rfl) ⟨Nat.zero_le _, Nat.zero_le _⟩ dL_told_349 ?_
                                                          rintro _ _ ⟨rfl, rfl⟩
                                                          refine k_aload C dL_told_352 rfl ?_
                                                          refine k_iconst C dL_told_354 ?_
                                                          refine k_iload C dL_told_355 rfl ?_
                                                          refine k_imul C dL_told_357 ?_
                                                          refine k_iconst C dL_told_358 ?_
                                                          refine k_iadd C dL_told_359 ?_
                                                          refine k_iaload C dL_told_360 (by repeat (first | exact hs_eq _ _ _ | refine hs_ne (by omega) ?_ | assumption)) (by omega) (by omega) (by omega) ?_
                                                          refine k_icmp_neE (tgt := 384) C dL_told_361 (by decide) (x4w.trans w4.symm) ?_
                                                          refine k_aload_n C dL_told_364 rfl ?_
                                                          refine k_iload C dL_told_365 rfl ?_
                                                          refine k_iconst C dL_told_367 ?_
                                                          refine k_callV C (n := 2) (as := [_, _]) (ct_X7_winder l D tc base rc _ _ _ _ _ _ hX _ _ (by omega) (by omega)) ml_L_77 im_X7_winder se_X7_winder ini_X7 co_X7_winder ⟨rfl, by decide, by decide, by decide +kernel⟩ rfl (ci := 7) rfl (by repeat (first | exact hs_eq _ _ _ | refine hs_ne (by omega) ?_ | assumption)) ⟨by decide, by decide⟩ rfl (Nat.le_of_ble_eq_true rfl) ⟨Nat.zero_le _, Nat.zero_le _⟩ dL_told_368 ?_
                                                          rintro _ _ ⟨rfl, rfl⟩
                                                          refine k_iload C dL_told_371 rfl ?_
                                                          refine k_if_eq (tgt := 380) C dL_told_373 (by decide) ⟨by omega, by omega⟩ (fun c373 => ?_) (fun c373 => ?_)
                                                          · try (exfalso; omega)
                                                            all_goals (
                                                              refine k_iconst C dL_told_380 ?_
                                                              refine k_icmp_eqE (tgt := 386) C dL_told_381 (by decide) (by rw [x5w]; split <;> omega) ?_
                                                              refine k_iinc C dL_told_386 rfl (by decide) rfl ?_
                                                              refine k_goto (tgt := 207) C dL_told_389 (by decide) ?_
                                                              have q1 := ih (jj + 1) (by omega) (by omega) (by omega)
                                                              exact k_sub q1 (And.intro rfl (And.intro rfl (And.intro rfl (And.intro rfl (And.intro rfl (And.intro rfl (And.intro rfl (And.intro rfl trivial)))))))))
                                                          · try (exfalso; omega)
                                                            all_goals (
                                                              refine k_iconst C dL_told_376 ?_
                                                              refine k_goto (tgt := 381) C dL_told_377 (by decide) ?_
                                                              refine k_icmp_eqE (tgt := 386) C dL_told_381 (by decide) (by rw [x5w]; split <;> omega) ?_
                                                              refine k_iinc C dL_told_386 rfl (by decide) rfl ?_
                                                              refine k_goto (tgt := 207) C dL_told_389 (by decide) ?_
                                                              have q1 := ih (jj + 1) (by omega) (by omega) (by omega)
                                                              exact k_sub q1 (And.intro rfl (And.intro rfl (And.intro rfl (And.intro rfl (And.intro rfl (And.intro rfl (And.intro rfl (And.intro rfl trivial)))))))))))
                                                  · try (exfalso; omega)
                                                    all_goals (
                                                      refine k_aload C dL_told_236 rfl ?_
                                                      refine k_iconst C dL_told_238 ?_
                                                      refine k_iload C dL_told_239 rfl ?_
                                                      refine k_imul C dL_told_241 ?_
                                                      refine k_iaload C dL_told_242 (by repeat (first | exact hs_eq _ _ _ | refine hs_ne (by omega) ?_ | assumption)) (by omega) (by omega) (by omega) ?_
                                                      refine k_iconst C dL_told_243 ?_
                                                      refine k_icmp_ne (tgt := 264) C dL_told_244 (by decide) ⟨by omega, by omega⟩ ⟨by omega, by omega⟩ (fun c244 => ?_) (fun c244 => ?_)
                                                      · try (exfalso; omega)
                                                        all_goals (
                                                          refine k_iconst C dL_told_264 ?_
                                                          refine k_istore C dL_told_265 (by decide) rfl ?_
                                                          refine k_aload_n C dL_told_267 rfl ?_
                                                          refine k_iload C dL_told_268 rfl ?_
                                                          refine k_iconst C dL_told_270 ?_
                                                          refine k_callV C (n := 2) (as := [_, _]) (ct_X7_winder l D tc base rc _ _ _ _ _ _ hX _ _ (by omega) (by omega)) ml_L_77 im_X7_winder se_X7_winder ini_X7 co_X7_winder ⟨rfl, by decide, by decide, by decide +kernel⟩ rfl (ci := 7) rfl (by repeat (first | exact hs_eq _ _ _ | refine hs_ne (by omega) ?_ | assumption)) ⟨by decide, by decide⟩ rfl (Nat.le_of_ble_eq_true rfl) ⟨Nat.zero_le _, Nat.zero_le _⟩ dL_told_271 ?_
                                                          rintro _ _ ⟨rfl, rfl⟩
                                                          refine k_aload C dL_told_274 rfl ?_
                                                          refine k_iconst C dL_told_276 ?_
                                                          refine k_iload C dL_told_277 rfl ?_
                                                          refine k_imul C dL_told_279 ?_
                                                          refine k_iaload C dL_told_280 (by repeat (first | exact hs_eq _ _ _ | refine hs_ne (by omega) ?_ | assumption)) (by omega) (by omega) (by omega) ?_
                                                          refine k_icmp_neE (tgt := 322) C dL_told_281 (by decide) (x0w.trans w0.symm) ?_
                                                          refine k_aload_n C dL_told_284 rfl ?_
                                                          refine k_iload C dL_told_285 rfl ?_
                                                          refine k_iconst C dL_told_287 ?_
                                                          refine k_callV C (n := 2) (as := [_, _]) (ct_X7_winder l D tc base rc _ _ _ _ _ _ hX _ _ (by omega) (by omega)) ml_L_77 im_X7_winder se_X7_winder ini_X7 co_X7_winder ⟨rfl, by decide, by decide, by decide +kernel⟩ rfl (ci := 7) rfl (by repeat (first | exact hs_eq _ _ _ | refine hs_ne (by omega) ?_ | assumption)) ⟨by decide, by decide⟩ rfl (Nat.le_of_ble_eq_true rfl) ⟨Nat.zero_le _, Nat.zero_le _⟩ dL_told_288 ?_
                                                          rintro _ _ ⟨rfl, rfl⟩
                                                          refine k_aload C dL_told_291 rfl ?_
                                                          refine k_iconst C dL_told_293 ?_
                                                          refine k_iload C dL_told_294 rfl ?_
                                                          refine k_imul C dL_told_296 ?_
                                                          refine k_iconst C dL_told_297 ?_
                                                          refine k_iadd C dL_told_298 ?_
                                                          refine k_iaload C dL_told_299 (by repeat (first | exact hs_eq _ _ _ | refine hs_ne (by omega) ?_ | assumption)) (by omega) (by omega) (by omega) ?_
                                                          refine k_icmp_neE (tgt := 322) C dL_told_300 (by decide) (x1w.trans w1.symm) ?_
                                                          refine k_aload_n C dL_told_303 rfl ?_
                                                          refine k_iload C dL_told_304 rfl ?_
                                                          refine k_iconst C dL_told_306 ?_
                                                          refine k_callV C (n := 2) (as := [_, _]) (ct_X7_winder l D tc base rc _ _ _ _ _ _ hX _ _ (by omega) (by omega)) ml_L_77 im_X7_winder se_X7_winder ini_X7 co_X7_winder ⟨rfl, by decide, by decide, by decide +kernel⟩ rfl (ci := 7) rfl (by repeat (first | exact hs_eq _ _ _ | refine hs_ne (by omega) ?_ | assumption)) ⟨by decide, by decide⟩ rfl (Nat.le_of_ble_eq_true rfl) ⟨Nat.zero_le _, Nat.zero_le _⟩ dL_told_307 ?_
                                                          rintro _ _ ⟨rfl, rfl⟩
                                                          refine k_aload C dL_told_310 rfl ?_
                                                          refine k_iconst C dL_told_312 ?_
                                                          refine k_iload C dL_told_313 rfl ?_
                                                          refine k_imul C dL_told_315 ?_
                                                          refine k_iconst C dL_told_316 ?_
                                                          refine k_iadd C dL_told_317 ?_
                                                          refine k_iaload C dL_told_318 (by repeat (first | exact hs_eq _ _ _ | refine hs_ne (by omega) ?_ | assumption)) (by omega) (by omega) (by omega) ?_
                                                          refine k_icmp_eqE (tgt := 324) C dL_told_319 (by decide) (x2w.trans w2.symm) ?_
                                                          refine k_aload_n C dL_told_324 rfl ?_
                                                          refine k_iload C dL_told_325 rfl ?_
                                                          refine k_iconst C dL_told_327 ?_
                                                          refine k_callV C (n := 2) (as := [_, _]) (ct_X7_winder l D tc base rc _ _ _ _ _ _ hX _ _ (by omega) (by omega)) ml_L_77 im_X7_winder se_X7_winder ini_X7 co_X7_winder ⟨rfl, by decide, by decide, by decide +kernel⟩ rfl (ci := 7) rfl (by repeat (first | exact hs_eq _ _ _ | refine hs_ne (by omega) ?_ | assumption)) ⟨by decide, by decide⟩ rfl (Nat.le_of_ble_eq_true rfl) ⟨Nat.zero_le _, Nat.zero_le _⟩ dL_told_328 ?_
                                                          rintro _ _ ⟨rfl, rfl⟩
                                                          refine k_iload C dL_told_331 rfl ?_
                                                          refine k_if_le (tgt := 341) C dL_told_333 (by decide) ⟨by omega, by omega⟩ (fun c333 => ?_) (fun c333 => ?_)
                                                          · try (exfalso; omega)
                                                            all_goals (
                                                              refine k_iconst C dL_told_341 ?_
                                                              refine k_icmp_neE (tgt := 384) C dL_told_342 (by decide) (by rw [x3w]; split <;> omega) ?_
                                                              refine k_aload_n C dL_told_345 rfl ?_
                                                              refine k_iload C dL_told_346 rfl ?_
                                                              refine k_iconst C dL_told_348 ?_
                                                              refine k_callV C (n := 2) (as := [_, _]) (ct_X7_winder l D tc base rc _ _ _ _ _ _ hX _ _ (by omega) (by omega)) ml_L_77 im_X7_winder se_X7_winder ini_X7 co_X7_winder ⟨rfl, by decide, by decide, by decide +kernel⟩ rfl (ci := 7) rfl (by repeat (first | exact hs_eq _ _ _ | refine hs_ne (by omega) ?_ | assumption)) ⟨by decide, by decide⟩ rfl (Nat.le_of_ble_eq_true rfl) ⟨Nat.zero_le _, Nat.zero_le _⟩ dL_told_349 ?_
                                                              rintro _ _ ⟨rfl, rfl⟩
                                                              refine k_aload C dL_told_352 rfl ?_
                                                              refine k_iconst C dL_told_354 ?_
                                                              refine k_iload C dL_told_355 rfl ?_
                                                              refine k_imul C dL_told_357 ?_
                                                              refine k_iconst C dL_told_358 ?_
                                                              refine k_iadd C dL_told_359 ?_
                                                              refine k_iaload C dL_told_360 (by repeat (first | exact hs_eq _ _ _ | refine hs_ne (by omega) ?_ | assumption)) (by omega) (by omega) (by omega) ?_
                                                              refine k_icmp_neE (tgt := 384) C dL_told_361 (by decide) (x4w.trans w4.symm) ?_
                                                              refine k_aload_n C dL_told_364 rfl ?_
                                                              refine k_iload C dL_told_365 rfl ?_
                                                              refine k_iconst C dL_told_367 ?_
                                                              refine k_callV C (n := 2) (as := [_, _]) (ct_X7_winder l D tc base rc _ _ _ _ _ _ hX _ _ (by omega) (by omega)) ml_L_77 im_X7_winder se_X7_winder ini_X7 co_X7_winder ⟨rfl, by decide, by decide, by decide +kernel⟩ rfl (ci := 7) rfl (by repeat (first | exact hs_eq _ _ _ | refine hs_ne (by omega) ?_ | assumption)) ⟨by decide, by decide⟩ rfl (Nat.le_of_ble_eq_true rfl) ⟨Nat.zero_le _, Nat.zero_le _⟩ dL_told_368 ?_
                                                              rintro _ _ ⟨rfl, rfl⟩
                                                              refine k_iload C dL_told_371 rfl ?_
                                                              refine k_if_eq (tgt := 380) C dL_told_373 (by decide) ⟨by omega, by omega⟩ (fun c373 => ?_) (fun c373 => ?_)
                                                              · try (exfalso; omega)
                                                                all_goals (
                                                                  refine k_iconst C dL_told_380 ?_
                                                                  refine k_icmp_eqE (tgt := 386) C dL_told_381 (by decide) (by rw [x5w]; split <;> omega) ?_
                                                                  refine k_iinc C dL_told_386 rfl (by decide) rfl ?_
                                                                  refine k_goto (tgt := 207) C dL_told_389 (by decide) ?_
                                                                  have q1 := ih (jj + 1) (by omega) (by omega) (by omega)
                                                                  exact k_sub q1 (And.intro rfl (And.intro rfl (And.intro rfl (And.intro rfl (And.intro rfl (And.intro rfl (And.intro rfl (And.intro rfl trivial)))))))))
                                                              · try (exfalso; omega)
                                                                all_goals (
                                                                  refine k_iconst C dL_told_376 ?_
                                                                  refine k_goto (tgt := 381) C dL_told_377 (by decide) ?_
                                                                  refine k_icmp_eqE (tgt := 386) C dL_told_381 (by decide) (by rw [x5w]; split <;> omega) ?_
                                                                  refine k_iinc C dL_told_386 rfl (by decide) rfl ?_
                                                                  refine k_goto (tgt := 207) C dL_told_389 (by decide) ?_
                                                                  have q1 := ih (jj + 1) (by omega) (by omega) (by omega)
                                                                  exact k_sub q1 (And.intro rfl (And.intro rfl (And.intro rfl (And.intro rfl (And.intro rfl (And.intro rfl (And.intro rfl (And.intro rfl trivial))))))))))
                                                          · try (exfalso; omega)
                                                            all_goals (
                                                              refine k_iload C dL_told_336 rfl ?_
                                                              refine k_goto (tgt := 342) C dL_told_338 (by decide) ?_
                                                              refine k_icmp_neE (tgt := 384) C dL_told_342 (by decide) (by rw [x3w]; split <;> omega) ?_
                                                              refine k_aload_n C dL_told_345 rfl ?_
                                                              refine k_iload C dL_told_346 rfl ?_
                                                              refine k_iconst C dL_told_348 ?_
                                                              refine k_callV C (n := 2) (as := [_, _]) (ct_X7_winder l D tc base rc _ _ _ _ _ _ hX _ _ (by omega) (by omega)) ml_L_77 im_X7_winder se_X7_winder ini_X7 co_X7_winder ⟨rfl, by decide, by decide, by decide +kernel⟩ rfl (ci := 7) rfl (by repeat (first | exact hs_eq _ _ _ | refine hs_ne (by omega) ?_ | assumption)) ⟨by decide, by decide⟩ rfl (Nat.le_of_ble_eq_true rfl) ⟨Nat.zero_le _, Nat.zero_le _⟩ dL_told_349 ?_
                                                              rintro _ _ ⟨rfl, rfl⟩
                                                              refine k_aload C dL_told_352 rfl ?_
                                                              refine k_iconst C dL_told_354 ?_
                                                              refine k_iload C dL_told_355 rfl ?_
                                                              refine k_imul C dL_told_357 ?_
                                                              refine k_iconst C dL_told_358 ?_
                                                              refine k_iadd C dL_told_359 ?_
                                                              refine k_iaload C dL_told_360 (by repeat (first | exact hs_eq _ _ _ | refine hs_ne (by omega) ?_ | assumption)) (by omega) (by omega) (by omega) ?_
                                                              refine k_icmp_neE (tgt := 384) C dL_told_361 (by decide) (x4w.trans w4.symm) ?_
                                                              refine k_aload_n C dL_told_364 rfl ?_
                                                              refine k_iload C dL_told_365 rfl ?_
                                                              refine k_iconst C dL_told_367 ?_
                                                              refine k_callV C (n := 2) (as := [_, _]) (ct_X7_winder l D tc base rc _ _ _ _ _ _ hX _ _ (by omega) (by omega)) ml_L_77 im_X7_winder se_X7_winder ini_X7 co_X7_winder ⟨rfl, by decide, by decide, by decide +kernel⟩ rfl (ci := 7) rfl (by repeat (first | exact hs_eq _ _ _ | refine hs_ne (by omega) ?_ | assumption)) ⟨by decide, by decide⟩ rfl (Nat.le_of_ble_eq_true rfl) ⟨Nat.zero_le _, Nat.zero_le _⟩ dL_told_368 ?_
                                                              rintro _ _ ⟨rfl, rfl⟩
                                                              refine k_iload C dL_told_371 rfl ?_
                                                              refine k_if_eq (tgt := 380) C dL_told_373 (by decide) ⟨by omega, by omega⟩ (fun c373 => ?_) (fun c373 => ?_)
                                                              · try (exfalso; omega)
                                                                all_goals (
                                                                  refine k_iconst C dL_told_380 ?_
                                                                  refine k_icmp_eqE (tgt := 386) C dL_told_381 (by decide) (by rw [x5w]; split <;> omega) ?_
                                                                  refine k_iinc C dL_told_386 rfl (by decide) rfl ?_
                                                                  refine k_goto (tgt := 207) C dL_told_389 (by decide) ?_
                                                                  have q1 := ih (jj + 1) (by omega) (by omega) (by omega)
                                                                  exact k_sub q1 (And.intro rfl (And.intro rfl (And.intro rfl (And.intro rfl (And.intro rfl (And.intro rfl (And.intro rfl (And.intro rfl trivial)))))))))
                                                              · try (exfalso; omega)
                                                                all_goals (
                                                                  refine k_iconst C dL_told_376 ?_
                                                                  refine k_goto (tgt := 381) C dL_told_377 (by decide) ?_
                                                                  refine k_icmp_eqE (tgt := 386) C dL_told_381 (by decide) (by rw [x5w]; split <;> omega) ?_
                                                                  refine k_iinc C dL_told_386 rfl (by decide) rfl ?_
                                                                  refine k_goto (tgt := 207) C dL_told_389 (by decide) ?_
                                                                  have q1 := ih (jj + 1) (by omega) (by omega) (by omega)
                                                                  exact k_sub q1 (And.intro rfl (And.intro rfl (And.intro rfl (And.intro rfl (And.intro rfl (And.intro rfl (And.intro rfl (And.intro rfl trivial)))))))))))
                                                      · try (exfalso; omega)
                                                        all_goals (
                                                          refine k_aload_n C dL_told_247 rfl ?_
                                                          refine k_bipush C dL_told_248 (by decide +kernel) ?_
                                                          refine k_iaload C dL_told_250 (by repeat (first | exact hs_eq _ _ _ | refine hs_ne (by omega) ?_ | assumption)) (by omega) (by omega) (by omega) ?_
                                                          refine k_if_le (tgt := 264) C dL_told_251 (by decide) ⟨by omega, by omega⟩ (fun c251 => ?_) (fun c251 => ?_)
                                                          · try (exfalso; omega)
                                                            all_goals (
                                                              refine k_iconst C dL_told_264 ?_
                                                              refine k_istore C dL_told_265 (by decide) rfl ?_
                                                              refine k_aload_n C dL_told_267 rfl ?_
                                                              refine k_iload C dL_told_268 rfl ?_
                                                              refine k_iconst C dL_told_270 ?_
                                                              refine k_callV C (n := 2) (as := [_, _]) (ct_X7_winder l D tc base rc _ _ _ _ _ _ hX _ _ (by omega) (by omega)) ml_L_77 im_X7_winder se_X7_winder ini_X7 co_X7_winder ⟨rfl, by decide, by decide, by decide +kernel⟩ rfl (ci := 7) rfl (by repeat (first | exact hs_eq _ _ _ | refine hs_ne (by omega) ?_ | assumption)) ⟨by decide, by decide⟩ rfl (Nat.le_of_ble_eq_true rfl) ⟨Nat.zero_le _, Nat.zero_le _⟩ dL_told_271 ?_
                                                              rintro _ _ ⟨rfl, rfl⟩
                                                              refine k_aload C dL_told_274 rfl ?_
                                                              refine k_iconst C dL_told_276 ?_
                                                              refine k_iload C dL_told_277 rfl ?_
                                                              refine k_imul C dL_told_279 ?_
                                                              refine k_iaload C dL_told_280 (by repeat (first | exact hs_eq _ _ _ | refine hs_ne (by omega) ?_ | assumption)) (by omega) (by omega) (by omega) ?_
                                                              refine k_icmp_neE (tgt := 322) C dL_told_281 (by decide) (x0w.trans w0.symm) ?_
                                                              refine k_aload_n C dL_told_284 rfl ?_
                                                              refine k_iload C dL_told_285 rfl ?_
                                                              refine k_iconst C dL_told_287 ?_
                                                              refine k_callV C (n := 2) (as := [_, _]) (ct_X7_winder l D tc base rc _ _ _ _ _ _ hX _ _ (by omega) (by omega)) ml_L_77 im_X7_winder se_X7_winder ini_X7 co_X7_winder ⟨rfl, by decide, by decide, by decide +kernel⟩ rfl (ci := 7) rfl (by repeat (first | exact hs_eq _ _ _ | refine hs_ne (by omega) ?_ | assumption)) ⟨by decide, by decide⟩ rfl (Nat.le_of_ble_eq_true rfl) ⟨Nat.zero_le _, Nat.zero_le _⟩ dL_told_288 ?_
                                                              rintro _ _ ⟨rfl, rfl⟩
                                                              refine k_aload C dL_told_291 rfl ?_
                                                              refine k_iconst C dL_told_293 ?_
                                                              refine k_iload C dL_told_294 rfl ?_
                                                              refine k_imul C dL_told_296 ?_
                                                              refine k_iconst C dL_told_297 ?_
                                                              refine k_iadd C dL_told_298 ?_
                                                              refine k_iaload C dL_told_299 (by repeat (first | exact hs_eq _ _ _ | refine hs_ne (by omega) ?_ | assumption)) (by omega) (by omega) (by omega) ?_
                                                              refine k_icmp_neE (tgt := 322) C dL_told_300 (by decide) (x1w.trans w1.symm) ?_
                                                              refine k_aload_n C dL_told_303 rfl ?_
                                                              refine k_iload C dL_told_304 rfl ?_
                                                              refine k_iconst C dL_told_306 ?_
                                                              refine k_callV C (n := 2) (as := [_, _]) (ct_X7_winder l D tc base rc _ _ _ _ _ _ hX _ _ (by omega) (by omega)) ml_L_77 im_X7_winder se_X7_winder ini_X7 co_X7_winder ⟨rfl, by decide, by decide, by decide +kernel⟩ rfl (ci := 7) rfl (by repeat (first | exact hs_eq _ _ _ | refine hs_ne (by omega) ?_ | assumption)) ⟨by decide, by decide⟩ rfl (Nat.le_of_ble_eq_true rfl) ⟨Nat.zero_le _, Nat.zero_le _⟩ dL_told_307 ?_
                                                              rintro _ _ ⟨rfl, rfl⟩
                                                              refine k_aload C dL_told_310 rfl ?_
                                                              refine k_iconst C dL_told_312 ?_
                                                              refine k_iload C dL_told_313 rfl ?_
                                                              refine k_imul C dL_told_315 ?_
                                                              refine k_iconst C dL_told_316 ?_
                                                              refine k_iadd C dL_told_317 ?_
                                                              refine k_iaload C dL_told_318 (by repeat (first | exact hs_eq _ _ _ | refine hs_ne (by omega) ?_ | assumption)) (by omega) (by omega) (by omega) ?_
                                                              refine k_icmp_eqE (tgt := 324) C dL_told_319 (by decide) (x2w.trans w2.symm) ?_
                                                              refine k_aload_n C dL_told_324 rfl ?_
                                                              refine k_iload C dL_told_325 rfl ?_
                                                              refine k_iconst C dL_told_327 ?_
                                                              refine k_callV C (n := 2) (as := [_, _]) (ct_X7_winder l D tc base rc _ _ _ _ _ _ hX _ _ (by omega) (by omega)) ml_L_77 im_X7_winder se_X7_winder ini_X7 co_X7_winder ⟨rfl, by decide, by decide, by decide +kernel⟩ rfl (ci := 7) rfl (by repeat (first | exact hs_eq _ _ _ | refine hs_ne (by omega) ?_ | assumption)) ⟨by decide, by decide⟩ rfl (Nat.le_of_ble_eq_true rfl) ⟨Nat.zero_le _, Nat.zero_le _⟩ dL_told_328 ?_
                                                              rintro _ _ ⟨rfl, rfl⟩
                                                              refine k_iload C dL_told_331 rfl ?_
                                                              refine k_if_le (tgt := 341) C dL_told_333 (by decide) ⟨by omega, by omega⟩ (fun c333 => ?_) (fun c333 => ?_)
                                                              · try (exfalso; omega)
                                                                all_goals (
                                                                  refine k_iconst C dL_told_341 ?_
                                                                  refine k_icmp_neE (tgt := 384) C dL_told_342 (by decide) (by rw [x3w]; split <;> omega) ?_
                                                                  refine k_aload_n C dL_told_345 rfl ?_
                                                                  refine k_iload C dL_told_346 rfl ?_
                                                                  refine k_iconst C dL_told_348 ?_
                                                                  refine k_callV C (n := 2) (as := [_, _]) (ct_X7_winder l D tc base rc _ _ _ _ _ _ hX _ _ (by omega) (by omega)) ml_L_77 im_X7_winder se_X7_winder ini_X7 co_X7_winder ⟨rfl, by decide, by decide, by decide +kernel⟩ rfl (ci := 7) rfl (by repeat (first | exact hs_eq _ _ _ | refine hs_ne (by omega) ?_ | assumption)) ⟨by decide, by decide⟩ rfl (Nat.le_of_ble_eq_true rfl) ⟨Nat.zero_le _, Nat.zero_le _⟩ dL_told_349 ?_
                                                                  rintro _ _ ⟨rfl, rfl⟩
                                                                  refine k_aload C dL_told_352 rfl ?_
                                                                  refine k_iconst C dL_told_354 ?_
                                                                  refine k_iload C dL_told_355 rfl ?_
                                                                  refine k_imul C dL_told_357 ?_
                                                                  refine k_iconst C dL_told_358 ?_
                                                                  refine k_iadd C dL_told_359 ?_
                                                                  refine k_iaload C dL_told_360 (by repeat (first | exact hs_eq _ _ _ | refine hs_ne (by omega) ?_ | assumption)) (by omega) (by omega) (by omega) ?_
                                                                  refine k_icmp_neE (tgt := 384) C dL_told_361 (by decide) (x4w.trans w4.symm) ?_
                                                                  refine k_aload_n C dL_told_364 rfl ?_
                                                                  refine k_iload C dL_told_365 rfl ?_
                                                                  refine k_iconst C dL_told_367 ?_
                                                                  refine k_callV C (n := 2) (as := [_, _]) (ct_X7_winder l D tc base rc _ _ _ _ _ _ hX _ _ (by omega) (by omega)) ml_L_77 im_X7_winder se_X7_winder ini_X7 co_X7_winder ⟨rfl, by decide, by decide, by decide +kernel⟩ rfl (ci := 7) rfl (by repeat (first | exact hs_eq _ _ _ | refine hs_ne (by omega) ?_ | assumption)) ⟨by decide, by decide⟩ rfl (Nat.le_of_ble_eq_true rfl) ⟨Nat.zero_le _, Nat.zero_le _⟩ dL_told_368 ?_
                                                                  rintro _ _ ⟨rfl, rfl⟩
                                                                  refine k_iload C dL_told_371 rfl ?_
                                                                  refine k_if_eq (tgt := 380) C dL_told_373 (by decide) ⟨by omega, by omega⟩ (fun c373 => ?_) (fun c373 => ?_)
                                                                  · try (exfalso; omega)
                                                                    all_goals (
                                                                      refine k_iconst C dL_told_380 ?_
                                                                      refine k_icmp_eqE (tgt := 386) C dL_told_381 (by decide) (by rw [x5w]; split <;> omega) ?_
                                                                      refine k_iinc C dL_told_386 rfl (by decide) rfl ?_
                                                                      refine k_goto (tgt := 207) C dL_told_389 (by decide) ?_
                                                                      have q1 := ih (jj + 1) (by omega) (by omega) (by omega)
                                                                      exact k_sub q1 (And.intro rfl (And.intro rfl (And.intro rfl (And.intro rfl (And.intro rfl (And.intro rfl (And.intro rfl (And.intro rfl trivial)))))))))
                                                                  · try (exfalso; omega)
                                                                    all_goals (
                                                                      refine k_iconst C dL_told_376 ?_
                                                                      refine k_goto (tgt := 381) C dL_told_377 (by decide) ?_
                                                                      refine k_icmp_eqE (tgt := 386) C dL_told_381 (by decide) (by rw [x5w]; split <;> omega) ?_
                                                                      refine k_iinc C dL_told_386 rfl (by decide) rfl ?_
                                                                      refine k_goto (tgt := 207) C dL_told_389 (by decide) ?_
                                                                      have q1 := ih (jj + 1) (by omega) (by omega) (by omega)
                                                                      exact k_sub q1 (And.intro rfl (And.intro rfl (And.intro rfl (And.intro rfl (And.intro rfl (And.intro rfl (And.intro rfl (And.intro rfl trivial))))))))))
                                                              · try (exfalso; omega)
                                                                all_goals (
                                                                  refine k_iload C dL_told_336 rfl ?_
                                                                  refine k_goto (tgt := 342) C dL_told_338 (by decide) ?_
                                                                  refine k_icmp_neE (tgt := 384) C dL_told_342 (by decide) (by rw [x3w]; split <;> omega) ?_
                                                                  refine k_aload_n C dL_told_345 rfl ?_
                                                                  refine k_iload C dL_told_346 rfl ?_
                                                                  refine k_iconst C dL_told_348 ?_
                                                                  refine k_callV C (n := 2) (as := [_, _]) (ct_X7_winder l D tc base rc _ _ _ _ _ _ hX _ _ (by omega) (by omega)) ml_L_77 im_X7_winder se_X7_winder ini_X7 co_X7_winder ⟨rfl, by decide, by decide, by decide +kernel⟩ rfl (ci := 7) rfl (by repeat (first | exact hs_eq _ _ _ | refine hs_ne (by omega) ?_ | assumption)) ⟨by decide, by decide⟩ rfl (Nat.le_of_ble_eq_true rfl) ⟨Nat.zero_le _, Nat.zero_le _⟩ dL_told_349 ?_
                                                                  rintro _ _ ⟨rfl, rfl⟩
                                                                  refine k_aload C dL_told_352 rfl ?_
                                                                  refine k_iconst C dL_told_354 ?_
                                                                  refine k_iload C dL_told_355 rfl ?_
                                                                  refine k_imul C dL_told_357 ?_
                                                                  refine k_iconst C dL_told_358 ?_
                                                                  refine k_iadd C dL_told_359 ?_
                                                                  refine k_iaload C dL_told_360 (by repeat (first | exact hs_eq _ _ _ | refine hs_ne (by omega) ?_ | assumption)) (by omega) (by omega) (by omega) ?_
                                                                  refine k_icmp_neE (tgt := 384) C dL_told_361 (by decide) (x4w.trans w4.symm) ?_
                                                                  refine k_aload_n C dL_told_364 rfl ?_
                                                                  refine k_iload C dL_told_365 rfl ?_
                                                                  refine k_iconst C dL_told_367 ?_
                                                                  refine k_callV C (n := 2) (as := [_, _]) (ct_X7_winder l D tc base rc _ _ _ _ _ _ hX _ _ (by omega) (by omega)) ml_L_77 im_X7_winder se_X7_winder ini_X7 co_X7_winder ⟨rfl, by decide, by decide, by decide +kernel⟩ rfl (ci := 7) rfl (by repeat (first | exact hs_eq _ _ _ | refine hs_ne (by omega) ?_ | assumption)) ⟨by decide, by decide⟩ rfl (Nat.le_of_ble_eq_true rfl) ⟨Nat.zero_le _, Nat.zero_le _⟩ dL_told_368 ?_
                                                                  rintro _ _ ⟨rfl, rfl⟩
                                                                  refine k_iload C dL_told_371 rfl ?_
                                                                  refine k_if_eq (tgt := 380) C dL_told_373 (by decide) ⟨by omega, by omega⟩ (fun c373 => ?_) (fun c373 => ?_)
                                                                  · try (exfalso; omega)
                                                                    all_goals (
                                                                      refine k_iconst C dL_told_380 ?_
                                                                      refine k_icmp_eqE (tgt := 386) C dL_told_381 (by decide) (by rw [x5w]; split <;> omega) ?_
                                                                      refine k_iinc C dL_told_386 rfl (by decide) rfl ?_
                                                                      refine k_goto (tgt := 207) C dL_told_389 (by decide) ?_
                                                                      have q1 := ih (jj + 1) (by omega) (by omega) (by omega)
                                                                      exact k_sub q1 (And.intro rfl (And.intro rfl (And.intro rfl (And.intro rfl (And.intro rfl (And.intro rfl (And.intro rfl (And.intro rfl trivial)))))))))
                                                                  · try (exfalso; omega)
                                                                    all_goals (
                                                                      refine k_iconst C dL_told_376 ?_
                                                                      refine k_goto (tgt := 381) C dL_told_377 (by decide) ?_
                                                                      refine k_icmp_eqE (tgt := 386) C dL_told_381 (by decide) (by rw [x5w]; split <;> omega) ?_
                                                                      refine k_iinc C dL_told_386 rfl (by decide) rfl ?_
                                                                      refine k_goto (tgt := 207) C dL_told_389 (by decide) ?_
                                                                      have q1 := ih (jj + 1) (by omega) (by omega) (by omega)
                                                                      exact k_sub q1 (And.intro rfl (And.intro rfl (And.intro rfl (And.intro rfl (And.intro rfl (And.intro rfl (And.intro rfl (And.intro rfl trivial)))))))))))
                                                          · try (exfalso; omega)
                                                            all_goals (
                                                              refine k_aload_n C dL_told_254 rfl ?_
                                                              refine k_iconst C dL_told_255 ?_
                                                              refine k_iaload C dL_told_256 (by repeat (first | exact hs_eq _ _ _ | refine hs_ne (by omega) ?_ | assumption)) (by omega) (by omega) (by omega) ?_
                                                              refine k_if_le (tgt := 264) C dL_told_257 (by decide) ⟨by omega, by omega⟩ (fun c257 => ?_) (fun c257 => ?_)
                                                              · try (exfalso; omega)
                                                                all_goals (
                                                                  refine k_iconst C dL_told_264 ?_
                                                                  refine k_istore C dL_told_265 (by decide) rfl ?_
                                                                  refine k_aload_n C dL_told_267 rfl ?_
                                                                  refine k_iload C dL_told_268 rfl ?_
                                                                  refine k_iconst C dL_told_270 ?_
                                                                  refine k_callV C (n := 2) (as := [_, _]) (ct_X7_winder l D tc base rc _ _ _ _ _ _ hX _ _ (by omega) (by omega)) ml_L_77 im_X7_winder se_X7_winder ini_X7 co_X7_winder ⟨rfl, by decide, by decide, by decide +kernel⟩ rfl (ci := 7) rfl (by repeat (first | exact hs_eq _ _ _ | refine hs_ne (by omega) ?_ | assumption)) ⟨by decide, by decide⟩ rfl (Nat.le_of_ble_eq_true rfl) ⟨Nat.zero_le _, Nat.zero_le _⟩ dL_told_271 ?_
                                                                  rintro _ _ ⟨rfl, rfl⟩
                                                                  refine k_aload C dL_told_274 rfl ?_
                                                                  refine k_iconst C dL_told_276 ?_
                                                                  refine k_iload C dL_told_277 rfl ?_
                                                                  refine k_imul C dL_told_279 ?_
                                                                  refine k_iaload C dL_told_280 (by repeat (first | exact hs_eq _ _ _ | refine hs_ne (by omega) ?_ | assumption)) (by omega) (by omega) (by omega) ?_
                                                                  refine k_icmp_neE (tgt := 322) C dL_told_281 (by decide) (x0w.trans w0.symm) ?_
                                                                  refine k_aload_n C dL_told_284 rfl ?_
                                                                  refine k_iload C dL_told_285 rfl ?_
                                                                  refine k_iconst C dL_told_287 ?_
                                                                  refine k_callV C (n := 2) (as := [_, _]) (ct_X7_winder l D tc base rc _ _ _ _ _ _ hX _ _ (by omega) (by omega)) ml_L_77 im_X7_winder se_X7_winder ini_X7 co_X7_winder ⟨rfl, by decide, by decide, by decide +kernel⟩ rfl (ci := 7) rfl (by repeat (first | exact hs_eq _ _ _ | refine hs_ne (by omega) ?_ | assumption)) ⟨by decide, by decide⟩ rfl (Nat.le_of_ble_eq_true rfl) ⟨Nat.zero_le _, Nat.zero_le _⟩ dL_told_288 ?_
                                                                  rintro _ _ ⟨rfl, rfl⟩
                                                                  refine k_aload C dL_told_291 rfl ?_
                                                                  refine k_iconst C dL_told_293 ?_
                                                                  refine k_iload C dL_told_294 rfl ?_
                                                                  refine k_imul C dL_told_296 ?_
                                                                  refine k_iconst C dL_told_297 ?_
                                                                  refine k_iadd C dL_told_298 ?_
                                                                  refine k_iaload C dL_told_299 (by repeat (first | exact hs_eq _ _ _ | refine hs_ne (by omega) ?_ | assumption)) (by omega) (by omega) (by omega) ?_
                                                                  refine k_icmp_neE (tgt := 322) C dL_told_300 (by decide) (x1w.trans w1.symm) ?_
                                                                  refine k_aload_n C dL_told_303 rfl ?_
                                                                  refine k_iload C dL_told_304 rfl ?_
                                                                  refine k_iconst C dL_told_306 ?_
                                                                  refine k_callV C (n := 2) (as := [_, _]) (ct_X7_winder l D tc base rc _ _ _ _ _ _ hX _ _ (by omega) (by omega)) ml_L_77 im_X7_winder se_X7_winder ini_X7 co_X7_winder ⟨rfl, by decide, by decide, by decide +kernel⟩ rfl (ci := 7) rfl (by repeat (first | exact hs_eq _ _ _ | refine hs_ne (by omega) ?_ | assumption)) ⟨by decide, by decide⟩ rfl (Nat.le_of_ble_eq_true rfl) ⟨Nat.zero_le _, Nat.zero_le _⟩ dL_told_307 ?_
                                                                  rintro _ _ ⟨rfl, rfl⟩
                                                                  refine k_aload C dL_told_310 rfl ?_
                                                                  refine k_iconst C dL_told_312 ?_
                                                                  refine k_iload C dL_told_313 rfl ?_
                                                                  refine k_imul C dL_told_315 ?_
                                                                  refine k_iconst C dL_told_316 ?_
                                                                  refine k_iadd C dL_told_317 ?_
                                                                  refine k_iaload C dL_told_318 (by repeat (first | exact hs_eq _ _ _ | refine hs_ne (by omega) ?_ | assumption)) (by omega) (by omega) (by omega) ?_
                                                                  refine k_icmp_eqE (tgt := 324) C dL_told_319 (by decide) (x2w.trans w2.symm) ?_
                                                                  refine k_aload_n C dL_told_324 rfl ?_
                                                                  refine k_iload C dL_told_325 rfl ?_
                                                                  refine k_iconst C dL_told_327 ?_
                                                                  refine k_callV C (n := 2) (as := [_, _]) (ct_X7_winder l D tc base rc _ _ _ _ _ _ hX _ _ (by omega) (by omega)) ml_L_77 im_X7_winder se_X7_winder ini_X7 co_X7_winder ⟨rfl, by decide, by decide, by decide +kernel⟩ rfl (ci := 7) rfl (by repeat (first | exact hs_eq _ _ _ | refine hs_ne (by omega) ?_ | assumption)) ⟨by decide, by decide⟩ rfl (Nat.le_of_ble_eq_true rfl) ⟨Nat.zero_le _, Nat.zero_le _⟩ dL_told_328 ?_
                                                                  rintro _ _ ⟨rfl, rfl⟩
                                                                  refine k_iload C dL_told_331 rfl ?_
                                                                  refine k_if_le (tgt := 341) C dL_told_333 (by decide) ⟨by omega, by omega⟩ (fun c333 => ?_) (fun c333 => ?_)
                                                                  · try (exfalso; omega)
                                                                    all_goals (
                                                                      refine k_iconst C dL_told_341 ?_
                                                                      refine k_icmp_neE (tgt := 384) C dL_told_342 (by decide) (by rw [x3w]; split <;> omega) ?_
                                                                      refine k_aload_n C dL_told_345 rfl ?_
                                                                      refine k_iload C dL_told_346 rfl ?_
                                                                      refine k_iconst C dL_told_348 ?_
                                                                      refine k_callV C (n := 2) (as := [_, _]) (ct_X7_winder l D tc base rc _ _ _ _ _ _ hX _ _ (by omega) (by omega)) ml_L_77 im_X7_winder se_X7_winder ini_X7 co_X7_winder ⟨rfl, by decide, by decide, by decide +kernel⟩ rfl (ci := 7) rfl (by repeat (first | exact hs_eq _ _ _ | refine hs_ne (by omega) ?_ | assumption)) ⟨by decide, by decide⟩ rfl (Nat.le_of_ble_eq_true rfl) ⟨Nat.zero_le _, Nat.zero_le _⟩ dL_told_349 ?_
                                                                      rintro _ _ ⟨rfl, rfl⟩
                                                                      refine k_aload C dL_told_352 rfl ?_
                                                                      refine k_iconst C dL_told_354 ?_
                                                                      refine k_iload C dL_told_355 rfl ?_
                                                                      refine k_imul C dL_told_357 ?_
                                                                      refine k_iconst C dL_told_358 ?_
                                                                      refine k_iadd C dL_told_359 ?_
                                                                      refine k_iaload C dL_told_360 (by repeat (first | exact hs_eq _ _ _ | refine hs_ne (by omega) ?_ | assumption)) (by omega) (by omega) (by omega) ?_
                                                                      refine k_icmp_neE (tgt := 384) C dL_told_361 (by decide) (x4w.trans w4.symm) ?_
                                                                      refine k_aload_n C dL_told_364 rfl ?_
                                                                      refine k_iload C dL_told_365 rfl ?_
                                                                      refine k_iconst C dL_told_367 ?_
                                                                      refine k_callV C (n := 2) (as := [_, _]) (ct_X7_winder l D tc base rc _ _ _ _ _ _ hX _ _ (by omega) (by omega)) ml_L_77 im_X7_winder se_X7_winder ini_X7 co_X7_winder ⟨rfl, by decide, by decide, by decide +kernel⟩ rfl (ci := 7) rfl (by repeat (first | exact hs_eq _ _ _ | refine hs_ne (by omega) ?_ | assumption)) ⟨by decide, by decide⟩ rfl (Nat.le_of_ble_eq_true rfl) ⟨Nat.zero_le _, Nat.zero_le _⟩ dL_told_368 ?_
                                                                      rintro _ _ ⟨rfl, rfl⟩
                                                                      refine k_iload C dL_told_371 rfl ?_
                                                                      refine k_if_eq (tgt := 380) C dL_told_373 (by decide) ⟨by omega, by omega⟩ (fun c373 => ?_) (fun c373 => ?_)
                                                                      · try (exfalso; omega)
                                                                        all_goals (
                                                                          refine k_iconst C dL_told_380 ?_
                                                                          refine k_icmp_eqE (tgt := 386) C dL_told_381 (by decide) (by rw [x5w]; split <;> omega) ?_
                                                                          refine k_iinc C dL_told_386 rfl (by decide) rfl ?_
                                                                          refine k_goto (tgt := 207) C dL_told_389 (by decide) ?_
                                                                          have q1 := ih (jj + 1) (by omega) (by omega) (by omega)
                                                                          exact k_sub q1 (And.intro rfl (And.intro rfl (And.intro rfl (And.intro rfl (And.intro rfl (And.intro rfl (And.intro rfl (And.intro rfl trivial)))))))))
                                                                      · try (exfalso; omega)
                                                                        all_goals (
                                                                          refine k_iconst C dL_told_376 ?_
                                                                          refine k_goto (tgt := 381) C dL_told_377 (by decide) ?_
                                                                          refine k_icmp_eqE (tgt := 386) C dL_told_381 (by decide) (by rw [x5w]; split <;> omega) ?_
                                                                          refine k_iinc C dL_told_386 rfl (by decide) rfl ?_
                                                                          refine k_goto (tgt := 207) C dL_told_389 (by decide) ?_
                                                                          have q1 := ih (jj + 1) (by omega) (by omega) (by omega)
                                                                          exact k_sub q1 (And.intro rfl (And.intro rfl (And.intro rfl (And.intro rfl (And.intro rfl (And.intro rfl (And.intro rfl (And.intro rfl trivial))))))))))
                                                                  · try (exfalso; omega)
                                                                    all_goals (
                                                                      refine k_iload C dL_told_336 rfl ?_
                                                                      refine k_goto (tgt := 342) C dL_told_338 (by decide) ?_
                                                                      refine k_icmp_neE (tgt := 384) C dL_told_342 (by decide) (by rw [x3w]; split <;> omega) ?_
                                                                      refine k_aload_n C dL_told_345 rfl ?_
                                                                      refine k_iload C dL_told_346 rfl ?_
                                                                      refine k_iconst C dL_told_348 ?_
                                                                      refine k_callV C (n := 2) (as := [_, _]) (ct_X7_winder l D tc base rc _ _ _ _ _ _ hX _ _ (by omega) (by omega)) ml_L_77 im_X7_winder se_X7_winder ini_X7 co_X7_winder ⟨rfl, by decide, by decide, by decide +kernel⟩ rfl (ci := 7) rfl (by repeat (first | exact hs_eq _ _ _ | refine hs_ne (by omega) ?_ | assumption)) ⟨by decide, by decide⟩ rfl (Nat.le_of_ble_eq_true rfl) ⟨Nat.zero_le _, Nat.zero_le _⟩ dL_told_349 ?_
                                                                      rintro _ _ ⟨rfl, rfl⟩
                                                                      refine k_aload C dL_told_352 rfl ?_
                                                                      refine k_iconst C dL_told_354 ?_
                                                                      refine k_iload C dL_told_355 rfl ?_
                                                                      refine k_imul C dL_told_357 ?_
                                                                      refine k_iconst C dL_told_358 ?_
                                                                      refine k_iadd C dL_told_359 ?_
                                                                      refine k_iaload C dL_told_360 (by repeat (first | exact hs_eq _ _ _ | refine hs_ne (by omega) ?_ | assumption)) (by omega) (by omega) (by omega) ?_
                                                                      refine k_icmp_neE (tgt := 384) C dL_told_361 (by decide) (x4w.trans w4.symm) ?_
                                                                      refine k_aload_n C dL_told_364 rfl ?_
                                                                      refine k_iload C dL_told_365 rfl ?_
                                                                      refine k_iconst C dL_told_367 ?_
                                                                      refine k_callV C (n := 2) (as := [_, _]) (ct_X7_winder l D tc base rc _ _ _ _ _ _ hX _ _ (by omega) (by omega)) ml_L_77 im_X7_winder se_X7_winder ini_X7 co_X7_winder ⟨rfl, by decide, by decide, by decide +kernel⟩ rfl (ci := 7) rfl (by repeat (first | exact hs_eq _ _ _ | refine hs_ne (by omega) ?_ | assumption)) ⟨by decide, by decide⟩ rfl (Nat.le_of_ble_eq_true rfl) ⟨Nat.zero_le _, Nat.zero_le _⟩ dL_told_368 ?_
                                                                      rintro _ _ ⟨rfl, rfl⟩
                                                                      refine k_iload C dL_told_371 rfl ?_
                                                                      refine k_if_eq (tgt := 380) C dL_told_373 (by decide) ⟨by omega, by omega⟩ (fun c373 => ?_) (fun c373 => ?_)
                                                                      · try (exfalso; omega)
                                                                        all_goals (
                                                                          refine k_iconst C dL_told_380 ?_
                                                                          refine k_icmp_eqE (tgt := 386) C dL_told_381 (by decide) (by rw [x5w]; split <;> omega) ?_
                                                                          refine k_iinc C dL_told_386 rfl (by decide) rfl ?_
                                                                          refine k_goto (tgt := 207) C dL_told_389 (by decide) ?_
                                                                          have q1 := ih (jj + 1) (by omega) (by omega) (by omega)
                                                                          exact k_sub q1 (And.intro rfl (And.intro rfl (And.intro rfl (And.intro rfl (And.intro rfl (And.intro rfl (And.intro rfl (And.intro rfl trivial)))))))))
                                                                      · try (exfalso; omega)
                                                                        all_goals (
                                                                          refine k_iconst C dL_told_376 ?_
                                                                          refine k_goto (tgt := 381) C dL_told_377 (by decide) ?_
                                                                          refine k_icmp_eqE (tgt := 386) C dL_told_381 (by decide) (by rw [x5w]; split <;> omega) ?_
                                                                          refine k_iinc C dL_told_386 rfl (by decide) rfl ?_
                                                                          refine k_goto (tgt := 207) C dL_told_389 (by decide) ?_
                                                                          have q1 := ih (jj + 1) (by omega) (by omega) (by omega)
                                                                          exact k_sub q1 (And.intro rfl (And.intro rfl (And.intro rfl (And.intro rfl (And.intro rfl (And.intro rfl (And.intro rfl (And.intro rfl trivial)))))))))))
                                                              · try (exfalso; omega)
                                                                all_goals (
                                                                  refine k_iconst C dL_told_260 ?_
                                                                  refine k_goto (tgt := 265) C dL_told_261 (by decide) ?_
                                                                  refine k_istore C dL_told_265 (by decide) rfl ?_
                                                                  refine k_aload_n C dL_told_267 rfl ?_
                                                                  refine k_iload C dL_told_268 rfl ?_
                                                                  refine k_iconst C dL_told_270 ?_
                                                                  refine k_callV C (n := 2) (as := [_, _]) (ct_X7_winder l D tc base rc _ _ _ _ _ _ hX _ _ (by omega) (by omega)) ml_L_77 im_X7_winder se_X7_winder ini_X7 co_X7_winder ⟨rfl, by decide, by decide, by decide +kernel⟩ rfl (ci := 7) rfl (by repeat (first | exact hs_eq _ _ _ | refine hs_ne (by omega) ?_ | assumption)) ⟨by decide, by decide⟩ rfl (Nat.le_of_ble_eq_true rfl) ⟨Nat.zero_le _, Nat.zero_le _⟩ dL_told_271 ?_
                                                                  rintro _ _ ⟨rfl, rfl⟩
                                                                  refine k_aload C dL_told_274 rfl ?_
                                                                  refine k_iconst C dL_told_276 ?_
                                                                  refine k_iload C dL_told_277 rfl ?_
                                                                  refine k_imul C dL_told_279 ?_
                                                                  refine k_iaload C dL_told_280 (by repeat (first | exact hs_eq _ _ _ | refine hs_ne (by omega) ?_ | assumption)) (by omega) (by omega) (by omega) ?_
                                                                  refine k_icmp_neE (tgt := 322) C dL_told_281 (by decide) (x0w.trans w0.symm) ?_
                                                                  refine k_aload_n C dL_told_284 rfl ?_
                                                                  refine k_iload C dL_told_285 rfl ?_
                                                                  refine k_iconst C dL_told_287 ?_
                                                                  refine k_callV C (n := 2) (as := [_, _]) (ct_X7_winder l D tc base rc _ _ _ _ _ _ hX _ _ (by omega) (by omega)) ml_L_77 im_X7_winder se_X7_winder ini_X7 co_X7_winder ⟨rfl, by decide, by decide, by decide +kernel⟩ rfl (ci := 7) rfl (by repeat (first | exact hs_eq _ _ _ | refine hs_ne (by omega) ?_ | assumption)) ⟨by decide, by decide⟩ rfl (Nat.le_of_ble_eq_true rfl) ⟨Nat.zero_le _, Nat.zero_le _⟩ dL_told_288 ?_
                                                                  rintro _ _ ⟨rfl, rfl⟩
                                                                  refine k_aload C dL_told_291 rfl ?_
                                                                  refine k_iconst C dL_told_293 ?_
                                                                  refine k_iload C dL_told_294 rfl ?_
                                                                  refine k_imul C dL_told_296 ?_
                                                                  refine k_iconst C dL_told_297 ?_
                                                                  refine k_iadd C dL_told_298 ?_
                                                                  refine k_iaload C dL_told_299 (by repeat (first | exact hs_eq _ _ _ | refine hs_ne (by omega) ?_ | assumption)) (by omega) (by omega) (by omega) ?_
                                                                  refine k_icmp_neE (tgt := 322) C dL_told_300 (by decide) (x1w.trans w1.symm) ?_
                                                                  refine k_aload_n C dL_told_303 rfl ?_
                                                                  refine k_iload C dL_told_304 rfl ?_
                                                                  refine k_iconst C dL_told_306 ?_
                                                                  refine k_callV C (n := 2) (as := [_, _]) (ct_X7_winder l D tc base rc _ _ _ _ _ _ hX _ _ (by omega) (by omega)) ml_L_77 im_X7_winder se_X7_winder ini_X7 co_X7_winder ⟨rfl, by decide, by decide, by decide +kernel⟩ rfl (ci := 7) rfl (by repeat (first | exact hs_eq _ _ _ | refine hs_ne (by omega) ?_ | assumption)) ⟨by decide, by decide⟩ rfl (Nat.le_of_ble_eq_true rfl) ⟨Nat.zero_le _, Nat.zero_le _⟩ dL_told_307 ?_
                                                                  rintro _ _ ⟨rfl, rfl⟩
                                                                  refine k_aload C dL_told_310 rfl ?_
                                                                  refine k_iconst C dL_told_312 ?_
                                                                  refine k_iload C dL_told_313 rfl ?_
                                                                  refine k_imul C dL_told_315 ?_
                                                                  refine k_iconst C dL_told_316 ?_
                                                                  refine k_iadd C dL_told_317 ?_
                                                                  refine k_iaload C dL_told_318 (by repeat (first | exact hs_eq _ _ _ | refine hs_ne (by omega) ?_ | assumption)) (by omega) (by omega) (by omega) ?_
                                                                  refine k_icmp_eqE (tgt := 324) C dL_told_319 (by decide) (x2w.trans w2.symm) ?_
                                                                  refine k_aload_n C dL_told_324 rfl ?_
                                                                  refine k_iload C dL_told_325 rfl ?_
                                                                  refine k_iconst C dL_told_327 ?_
                                                                  refine k_callV C (n := 2) (as := [_, _]) (ct_X7_winder l D tc base rc _ _ _ _ _ _ hX _ _ (by omega) (by omega)) ml_L_77 im_X7_winder se_X7_winder ini_X7 co_X7_winder ⟨rfl, by decide, by decide, by decide +kernel⟩ rfl (ci := 7) rfl (by repeat (first | exact hs_eq _ _ _ | refine hs_ne (by omega) ?_ | assumption)) ⟨by decide, by decide⟩ rfl (Nat.le_of_ble_eq_true rfl) ⟨Nat.zero_le _, Nat.zero_le _⟩ dL_told_328 ?_
                                                                  rintro _ _ ⟨rfl, rfl⟩
                                                                  refine k_iload C dL_told_331 rfl ?_
                                                                  refine k_if_le (tgt := 341) C dL_told_333 (by decide) ⟨by omega, by omega⟩ (fun c333 => ?_) (fun c333 => ?_)
                                                                  · try (exfalso; omega)
                                                                    all_goals (
                                                                      refine k_iconst C dL_told_341 ?_
                                                                      refine k_icmp_neE (tgt := 384) C dL_told_342 (by decide) (by rw [x3w]; split <;> omega) ?_
                                                                      refine k_aload_n C dL_told_345 rfl ?_
                                                                      refine k_iload C dL_told_346 rfl ?_
                                                                      refine k_iconst C dL_told_348 ?_
                                                                      refine k_callV C (n := 2) (as := [_, _]) (ct_X7_winder l D tc base rc _ _ _ _ _ _ hX _ _ (by omega) (by omega)) ml_L_77 im_X7_winder se_X7_winder ini_X7 co_X7_winder ⟨rfl, by decide, by decide, by decide +kernel⟩ rfl (ci := 7) rfl (by repeat (first | exact hs_eq _ _ _ | refine hs_ne (by omega) ?_ | assumption)) ⟨by decide, by decide⟩ rfl (Nat.le_of_ble_eq_true rfl) ⟨Nat.zero_le _, Nat.zero_le _⟩ dL_told_349 ?_
                                                                      rintro _ _ ⟨rfl, rfl⟩
                                                                      refine k_aload C dL_told_352 rfl ?_
                                                                      refine k_iconst C dL_told_354 ?_
                                                                      refine k_iload C dL_told_355 rfl ?_
                                                                      refine k_imul C dL_told_357 ?_
                                                                      refine k_iconst C dL_told_358 ?_
                                                                      refine k_iadd C dL_told_359 ?_
                                                                      refine k_iaload C dL_told_360 (by repeat (first | exact hs_eq _ _ _ | refine hs_ne (by omega) ?_ | assumption)) (by omega) (by omega) (by omega) ?_
                                                                      refine k_icmp_neE (tgt := 384) C dL_told_361 (by decide) (x4w.trans w4.symm) ?_
                                                                      refine k_aload_n C dL_told_364 rfl ?_
                                                                      refine k_iload C dL_told_365 rfl ?_
                                                                      refine k_iconst C dL_told_367 ?_
                                                                      refine k_callV C (n := 2) (as := [_, _]) (ct_X7_winder l D tc base rc _ _ _ _ _ _ hX _ _ (by omega) (by omega)) ml_L_77 im_X7_winder se_X7_winder ini_X7 co_X7_winder ⟨rfl, by decide, by decide, by decide +kernel⟩ rfl (ci := 7) rfl (by repeat (first | exact hs_eq _ _ _ | refine hs_ne (by omega) ?_ | assumption)) ⟨by decide, by decide⟩ rfl (Nat.le_of_ble_eq_true rfl) ⟨Nat.zero_le _, Nat.zero_le _⟩ dL_told_368 ?_
                                                                      rintro _ _ ⟨rfl, rfl⟩
                                                                      refine k_iload C dL_told_371 rfl ?_
                                                                      refine k_if_eq (tgt := 380) C dL_told_373 (by decide) ⟨by omega, by omega⟩ (fun c373 => ?_) (fun c373 => ?_)
                                                                      · try (exfalso; omega)
                                                                        all_goals (
                                                                          refine k_iconst C dL_told_380 ?_
                                                                          refine k_icmp_eqE (tgt := 386) C dL_told_381 (by decide) (by rw [x5w]; split <;> omega) ?_
                                                                          refine k_iinc C dL_told_386 rfl (by decide) rfl ?_
                                                                          refine k_goto (tgt := 207) C dL_told_389 (by decide) ?_
                                                                          have q1 := ih (jj + 1) (by omega) (by omega) (by omega)
                                                                          exact k_sub q1 (And.intro rfl (And.intro rfl (And.intro rfl (And.intro rfl (And.intro rfl (And.intro rfl (And.intro rfl (And.intro rfl trivial)))))))))
                                                                      · try (exfalso; omega)
                                                                        all_goals (
                                                                          refine k_iconst C dL_told_376 ?_
                                                                          refine k_goto (tgt := 381) C dL_told_377 (by decide) ?_
                                                                          refine k_icmp_eqE (tgt := 386) C dL_told_381 (by decide) (by rw [x5w]; split <;> omega) ?_
                                                                          refine k_iinc C dL_told_386 rfl (by decide) rfl ?_
                                                                          refine k_goto (tgt := 207) C dL_told_389 (by decide) ?_
                                                                          have q1 := ih (jj + 1) (by omega) (by omega) (by omega)
                                                                          exact k_sub q1 (And.intro rfl (And.intro rfl (And.intro rfl (And.intro rfl (And.intro rfl (And.intro rfl (And.intro rfl (And.intro rfl trivial))))))))))
                                                                  · try (exfalso; omega)
                                                                    all_goals (
                                                                      refine k_iload C dL_told_336 rfl ?_
                                                                      refine k_goto (tgt := 342) C dL_told_338 (by decide) ?_
                                                                      refine k_icmp_neE (tgt := 384) C dL_told_342 (by decide) (by rw [x3w]; split <;> omega) ?_
                                                                      refine k_aload_n C dL_told_345 rfl ?_
                                                                      refine k_iload C dL_told_346 rfl ?_
                                                                      refine k_iconst C dL_told_348 ?_
                                                                      refine k_callV C (n := 2) (as := [_, _]) (ct_X7_winder l D tc base rc _ _ _ _ _ _ hX _ _ (by omega) (by omega)) ml_L_77 im_X7_winder se_X7_winder ini_X7 co_X7_winder ⟨rfl, by decide, by decide, by decide +kernel⟩ rfl (ci := 7) rfl (by repeat (first | exact hs_eq _ _ _ | refine hs_ne (by omega) ?_ | assumption)) ⟨by decide, by decide⟩ rfl (Nat.le_of_ble_eq_true rfl) ⟨Nat.zero_le _, Nat.zero_le _⟩ dL_told_349 ?_
                                                                      rintro _ _ ⟨rfl, rfl⟩
                                                                      refine k_aload C dL_told_352 rfl ?_
                                                                      refine k_iconst C dL_told_354 ?_
                                                                      refine k_iload C dL_told_355 rfl ?_
                                                                      refine k_imul C dL_told_357 ?_
                                                                      refine k_iconst C dL_told_358 ?_
                                                                      refine k_iadd C dL_told_359 ?_
                                                                      refine k_iaload C dL_told_360 (by repeat (first | exact hs_eq _ _ _ | refine hs_ne (by omega) ?_ | assumption)) (by omega) (by omega) (by omega) ?_
                                                                      refine k_icmp_neE (tgt := 384) C dL_told_361 (by decide) (x4w.trans w4.symm) ?_
                                                                      refine k_aload_n C dL_told_364 rfl ?_
                                                                      refine k_iload C dL_told_365 rfl ?_
                                                                      refine k_iconst C dL_told_367 ?_
                                                                      refine k_callV C (n := 2) (as := [_, _]) (ct_X7_winder l D tc base rc _ _ _ _ _ _ hX _ _ (by omega) (by omega)) ml_L_77 im_X7_winder se_X7_winder ini_X7 co_X7_winder ⟨rfl, by decide, by decide, by decide +kernel⟩ rfl (ci := 7) rfl (by repeat (first | exact hs_eq _ _ _ | refine hs_ne (by omega) ?_ | assumption)) ⟨by decide, by decide⟩ rfl (Nat.le_of_ble_eq_true rfl) ⟨Nat.zero_le _, Nat.zero_le _⟩ dL_told_368 ?_
                                                                      rintro _ _ ⟨rfl, rfl⟩
                                                                      refine k_iload C dL_told_371 rfl ?_
                                                                      refine k_if_eq (tgt := 380) C dL_told_373 (by decide) ⟨by omega, by omega⟩ (fun c373 => ?_) (fun c373 => ?_)
                                                                      · try (exfalso; omega)
                                                                        all_goals (
                                                                          refine k_iconst C dL_told_380 ?_
                                                                          refine k_icmp_eqE (tgt := 386) C dL_told_381 (by decide) (by rw [x5w]; split <;> omega) ?_
                                                                          refine k_iinc C dL_told_386 rfl (by decide) rfl ?_
                                                                          refine k_goto (tgt := 207) C dL_told_389 (by decide) ?_
                                                                          have q1 := ih (jj + 1) (by omega) (by omega) (by omega)
                                                                          exact k_sub q1 (And.intro rfl (And.intro rfl (And.intro rfl (And.intro rfl (And.intro rfl (And.intro rfl (And.intro rfl (And.intro rfl trivial)))))))))
                                                                      · try (exfalso; omega)
                                                                        all_goals (
                                                                          refine k_iconst C dL_told_376 ?_
                                                                          refine k_goto (tgt := 381) C dL_told_377 (by decide) ?_
                                                                          refine k_icmp_eqE (tgt := 386) C dL_told_381 (by decide) (by rw [x5w]; split <;> omega) ?_
                                                                          refine k_iinc C dL_told_386 rfl (by decide) rfl ?_
                                                                          refine k_goto (tgt := 207) C dL_told_389 (by decide) ?_
                                                                          have q1 := ih (jj + 1) (by omega) (by omega) (by omega)
                                                                          exact k_sub q1 (And.intro rfl (And.intro rfl (And.intro rfl (And.intro rfl (And.intro rfl (And.intro rfl (And.intro rfl (And.intro rfl trivial)))))))))))))))
                                          exact k_sub (loop207 (zrr 21 + 1).toNat 0 (by omega) (by omega) (by omega)) ((And.intro rfl (And.intro rfl (And.intro rfl (And.intro rfl (And.intro rfl (And.intro rfl (And.intro rfl (And.intro rfl trivial))))))))))
                                      · try (exfalso; omega)
                                        all_goals (
                                          have ed0 : de (2 * (kk : Int)) = zrr (53 + 2 * (kk : Int)) := ed (2 * (kk : Int)) (by omega) (by omega)
                                          have ed1 : de (2 * (kk : Int) + 1) = zrr (53 + 2 * (kk : Int) + 1) := by
                                            have := ed (2 * (kk : Int) + 1) (by omega) (by omega)
                                            rw [← Int.add_assoc] at this
                                            exact this
                                          refine k_iload C dL_told_146 rfl ?_
                                          refine k_aload C dL_told_148 rfl ?_
                                          refine k_iconst C dL_told_150 ?_
                                          refine k_iload C dL_told_151 rfl ?_
                                          refine k_imul C dL_told_153 ?_
                                          refine k_iconst C dL_told_154 ?_
                                          refine k_iadd C dL_told_155 ?_
                                          refine k_iaload C dL_told_156 (by repeat (first | exact hs_eq _ _ _ | refine hs_ne (by omega) ?_ | assumption)) (by omega) (by omega) (by omega) ?_
                                          refine k_iadd C dL_told_157 ?_
                                          refine k_istore C dL_told_158 (by decide) rfl ?_
                                          refine k_aload_n C dL_told_160 rfl ?_
                                          refine k_iload C dL_told_161 rfl ?_
                                          refine k_iconst C dL_told_163 ?_
                                          refine k_callV C (n := 2) (as := [_, _]) (ct_X7_debt l D tc base rc _ _ _ _ _ _ hX _ _ (by omega) (by omega)) ml_L_74 im_X7_debt se_X7_debt ini_X7 co_X7_debt ⟨rfl, by decide, by decide, by decide +kernel⟩ rfl (ci := 7) rfl (by repeat (first | exact hs_eq _ _ _ | refine hs_ne (by omega) ?_ | assumption)) ⟨by decide, by decide⟩ rfl (Nat.le_of_ble_eq_true rfl) ⟨Nat.zero_le _, Nat.zero_le _⟩ dL_told_164 ?_
                                          rintro _ _ ⟨rfl, rfl⟩
                                          refine k_aload C dL_told_167 rfl ?_
                                          refine k_iconst C dL_told_169 ?_
                                          refine k_iload C dL_told_170 rfl ?_
                                          refine k_imul C dL_told_172 ?_
                                          refine k_iaload C dL_told_173 (by repeat (first | exact hs_eq _ _ _ | refine hs_ne (by omega) ?_ | assumption)) (by omega) (by omega) (by omega) ?_
                                          refine k_icmp_neE (tgt := 196) C dL_told_174 (by decide) (by rw [Int.add_zero]; exact ed0.symm) ?_
                                          refine k_aload_n C dL_told_177 rfl ?_
                                          refine k_iload C dL_told_178 rfl ?_
                                          refine k_iconst C dL_told_180 ?_
                                          refine k_callV C (n := 2) (as := [_, _]) (ct_X7_debt l D tc base rc _ _ _ _ _ _ hX _ _ (by omega) (by omega)) ml_L_74 im_X7_debt se_X7_debt ini_X7 co_X7_debt ⟨rfl, by decide, by decide, by decide +kernel⟩ rfl (ci := 7) rfl (by repeat (first | exact hs_eq _ _ _ | refine hs_ne (by omega) ?_ | assumption)) ⟨by decide, by decide⟩ rfl (Nat.le_of_ble_eq_true rfl) ⟨Nat.zero_le _, Nat.zero_le _⟩ dL_told_181 ?_
                                          rintro _ _ ⟨rfl, rfl⟩
                                          refine k_aload C dL_told_184 rfl ?_
                                          refine k_iconst C dL_told_186 ?_
                                          refine k_iload C dL_told_187 rfl ?_
                                          refine k_imul C dL_told_189 ?_
                                          refine k_iconst C dL_told_190 ?_
                                          refine k_iadd C dL_told_191 ?_
                                          refine k_iaload C dL_told_192 (by repeat (first | exact hs_eq _ _ _ | refine hs_ne (by omega) ?_ | assumption)) (by omega) (by omega) (by omega) ?_
                                          refine k_icmp_eqE (tgt := 198) C dL_told_193 (by decide) ed1.symm ?_
                                          refine k_iinc C dL_told_198 rfl (by decide) rfl ?_
                                          refine k_goto (tgt := 137) C dL_told_201 (by decide) ?_
                                          have e1k : zOwedN zrr (kk + 1) = zOwedN zrr kk + zrr (53 + 2 * (kk : Int) + 1) := rfl
                                          have e2k : ((kk + 1 : Nat) : Int) = (kk : Int) + 1 := by omega
                                          have q1 := ih (kk + 1) (by omega) (by omega)
                                          rw [e1k, e2k, ← ed1] at q1
                                          exact k_sub q1 (And.intro rfl (And.intro rfl (And.intro rfl (And.intro rfl (And.intro rfl (And.intro rfl (And.intro rfl (And.intro rfl trivial)))))))))
                                  exact k_sub (loop137 (zrr 52 + 1).toNat 0 (by omega) (by omega)) ((And.intro rfl (And.intro rfl (And.intro rfl (And.intro rfl (And.intro rfl (And.intro rfl (And.intro rfl (And.intro rfl trivial))))))))))
                              · try (exfalso; omega)
                                all_goals (
                                  refine k_aload_n C dL_told_110 rfl ?_
                                  refine k_iload C dL_told_111 rfl ?_
                                  refine k_callV C (n := 1) (as := [_]) (ct_X7_setting l D tc base rc _ _ _ _ _ _ hX _ (by omega)) ml_L_71 im_X7_setting se_X7_setting ini_X7 co_X7_setting ⟨rfl, by decide, by decide, by decide +kernel⟩ rfl (ci := 7) rfl (by repeat (first | exact hs_eq _ _ _ | refine hs_ne (by omega) ?_ | assumption)) ⟨by decide, by decide⟩ rfl (Nat.le_of_ble_eq_true rfl) ⟨Nat.zero_le _, Nat.zero_le _⟩ dL_told_113 ?_
                                  rintro _ _ ⟨rfl, rfl⟩
                                  refine k_aload_n C dL_told_116 rfl ?_
                                  refine k_iload C dL_told_117 rfl ?_
                                  refine k_iaload C dL_told_119 (by repeat (first | exact hs_eq _ _ _ | refine hs_ne (by omega) ?_ | assumption)) (by omega) (by omega) (by omega) ?_
                                  refine k_icmp_eqE (tgt := 125) C dL_told_120 (by decide) (es kk (by omega) (by omega)).symm ?_
                                  refine k_iinc C dL_told_125 rfl (by decide) rfl ?_
                                  refine k_goto (tgt := 103) C dL_told_128 (by decide) ?_
                                  have q1 := ih (kk + 1) (by omega) (by omega) (by omega)
                                  exact k_sub q1 (And.intro rfl (And.intro rfl (And.intro rfl (And.intro rfl (And.intro rfl (And.intro rfl (And.intro rfl trivial))))))))
                          exact k_sub (loop103 7 0 (by omega) (by omega) (by omega)) ((And.intro rfl (And.intro rfl (And.intro rfl (And.intro rfl (And.intro rfl (And.intro rfl (And.intro rfl trivial)))))))))
                      · try (exfalso; omega)
                        all_goals (
                          refine k_aload_n C dL_told_73 rfl ?_
                          refine k_iload C dL_told_74 rfl ?_
                          refine k_iconst C dL_told_76 ?_
                          refine k_irem C dL_told_77 (by omega) (by omega) (by omega) (by omega) ?_
                          refine k_iload C dL_told_78 rfl ?_
                          refine k_iconst C dL_told_80 ?_
                          refine k_idiv C dL_told_81 (by omega) (by omega) (by omega) (by omega) ?_
                          refine k_callV C (n := 2) (as := [_, _]) (ct_X7_weight l D tc base rc _ _ _ _ _ _ hX _ _ (by omega) (by omega)) ml_L_68 im_X7_weight se_X7_weight ini_X7 co_X7_weight ⟨rfl, by decide, by decide, by decide +kernel⟩ rfl (ci := 7) rfl (by repeat (first | exact hs_eq _ _ _ | refine hs_ne (by omega) ?_ | assumption)) ⟨by decide, by decide⟩ rfl (Nat.le_of_ble_eq_true rfl) ⟨Nat.zero_le _, Nat.zero_le _⟩ dL_told_82 ?_
                          rintro _ _ ⟨rfl, rfl⟩
                          refine k_aload_n C dL_told_85 rfl ?_
                          refine k_iload C dL_told_86 rfl ?_
                          refine k_iaload C dL_told_88 (by repeat (first | exact hs_eq _ _ _ | refine hs_ne (by omega) ?_ | assumption)) (by omega) (by omega) (by omega) ?_
                          refine k_icmp_eqE (tgt := 94) C dL_told_89 (by decide) (by rw [show 3 * (kk / 3) + kk % 3 = kk by omega]; exact (eh kk (by omega) (by omega)).symm) ?_
                          refine k_iinc C dL_told_94 rfl (by decide) rfl ?_
                          refine k_goto (tgt := 66) C dL_told_97 (by decide) ?_
                          have q1 := ih (kk + 1) (by omega) (by omega) (by omega)
                          exact k_sub q1 (And.intro rfl (And.intro rfl (And.intro rfl (And.intro rfl (And.intro rfl (And.intro rfl (And.intro rfl trivial))))))))
                  exact k_sub (loop66 10 0 (by omega) (by omega) (by omega)) ((And.intro rfl (And.intro rfl (And.intro rfl (And.intro rfl (And.intro rfl (And.intro rfl (And.intro rfl trivial)))))))))
              · try (exfalso; omega)
                all_goals (
                  refine k_aload_n C dL_told_40 rfl ?_
                  refine k_iload C dL_told_41 rfl ?_
                  refine k_iconst C dL_told_43 ?_
                  refine k_iadd C dL_told_44 ?_
                  refine k_callV C (n := 1) (as := [_]) (ct_X7_count l D tc base rc _ _ _ _ _ _ hX _ (by omega)) ml_L_65 im_X7_count se_X7_count ini_X7 co_X7_count ⟨rfl, by decide, by decide, by decide +kernel⟩ rfl (ci := 7) rfl (by repeat (first | exact hs_eq _ _ _ | refine hs_ne (by omega) ?_ | assumption)) ⟨by decide, by decide⟩ rfl (Nat.le_of_ble_eq_true rfl) ⟨Nat.zero_le _, Nat.zero_le _⟩ dL_told_45 ?_
                  rintro _ _ ⟨rfl, rfl⟩
                  refine k_aload_n C dL_told_48 rfl ?_
                  refine k_iload C dL_told_49 rfl ?_
                  refine k_iaload C dL_told_51 (by repeat (first | exact hs_eq _ _ _ | refine hs_ne (by omega) ?_ | assumption)) (by omega) (by omega) (by omega) ?_
                  refine k_icmp_eqE (tgt := 57) C dL_told_52 (by decide) (zCnt_hi hLR (by omega) (by omega)) ?_
                  refine k_iinc C dL_told_57 rfl (by decide) rfl ?_
                  refine k_goto (tgt := 33) C dL_told_60 (by decide) ?_
                  have q1 := ih (kk + 1) (by omega) (by omega) (by omega)
                  exact k_sub q1 (And.intro rfl (And.intro rfl (And.intro rfl (And.intro rfl (And.intro rfl (And.intro rfl (And.intro rfl trivial))))))))
          exact k_sub (loop33 8 5 (by omega) (by omega) (by omega)) ((And.intro rfl (And.intro rfl (And.intro rfl (And.intro rfl (And.intro rfl (And.intro rfl (And.intro rfl trivial)))))))))
      · try (exfalso; omega)
        all_goals (
          refine k_aload_n C dL_told_9 rfl ?_
          refine k_iload C dL_told_10 rfl ?_
          refine k_callV C (n := 1) (as := [_]) (ct_X7_count l D tc base rc _ _ _ _ _ _ hX _ (by omega)) ml_L_65 im_X7_count se_X7_count ini_X7 co_X7_count ⟨rfl, by decide, by decide, by decide +kernel⟩ rfl (ci := 7) rfl (by repeat (first | exact hs_eq _ _ _ | refine hs_ne (by omega) ?_ | assumption)) ⟨by decide, by decide⟩ rfl (Nat.le_of_ble_eq_true rfl) ⟨Nat.zero_le _, Nat.zero_le _⟩ dL_told_12 ?_
          rintro _ _ ⟨rfl, rfl⟩
          refine k_aload_n C dL_told_15 rfl ?_
          refine k_iload C dL_told_16 rfl ?_
          refine k_iaload C dL_told_18 (by repeat (first | exact hs_eq _ _ _ | refine hs_ne (by omega) ?_ | assumption)) (by omega) (by omega) (by omega) ?_
          refine k_icmp_eqE (tgt := 24) C dL_told_19 (by decide) (zCnt_lo hLR (by omega) (by omega)) ?_
          refine k_iinc C dL_told_24 rfl (by decide) rfl ?_
          refine k_goto (tgt := 3) C dL_told_27 (by decide) ?_
          have q1 := ih (kk + 1) (by omega) (by omega) (by omega)
          exact k_sub q1 (And.intro rfl (And.intro rfl (And.intro rfl (And.intro rfl (And.intro rfl (And.intro rfl (And.intro rfl trivial))))))))
  exact k_sub (loop3 6 0 (by omega) (by omega) (by omega)) ((And.intro rfl (And.intro rfl (And.intro rfl (And.intro rfl (And.intro rfl (And.intro rfl (And.intro rfl trivial))))))))
