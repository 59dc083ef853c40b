set_option maxRecDepth 20000 in
set_option maxHeartbeats 1000000 in
theorem ct_X8_digest (l : Launch) (D : va_G) (tc : Nat → ClassId) (base : Nat) (oo : Nat) (zrr hhi htx has hro : Int → Int) (st ln th re du hsh : Int) (hpp : AH) (hM : MA hpp oo zrr hhi htx has hro st ln th re du hsh) (hok : zOk zrr) (h13 : zrr 13 ≤ 20000) (hln : 0 ≤ ln ∧ ln ≤ 60) (hst : 0 ≤ st ∧ st ≤ 6) : CT l D tc base yX8_digest cX8_digest 2 (some .long) 8 [aR oo] hpp (fun r h' => ∃ lt : Int, zLeast zrr 240 lt ∧ r = some (aL (hDig zrr htx st ln lt)) ∧ (∃ (hax : Int → Int) (hsh2 : Int), MA h' oo zrr hhi htx hax hro st ln 0 re du hsh2) ∧ Fr hpp h' oo 6) := by
  refine CT.of [some (aR oo), none] (by decide +kernel) rfl (Nat.le_of_ble_eq_true rfl) ?_
  intro p e s m args below meth c C hr hnm
  obtain ⟨g0, g1, g2, g3, g4, g5⟩ := id hM
  have hi := hok.1
  have hsh := shOk_nn (shOk_z hok h13)
  obtain ⟨⟨v0, v1, v2, v9, v10, v11, v12, v13, v21, v52, v61, v62, v63, v64, v65, v66⟩, hwi, hde⟩ := id hi
  refine k_aload_n C dX8_digest_0 rfl ?_
  refine k_iconst C dX8_digest_1 ?_
  refine k_put C (k := 5) inX8 tyX8_ok nmX8 (ci := 8) rfl (by decide) fl_X8_25 rfl (Nat.le_of_ble_eq_true rfl) dX8_digest_2 (by repeat (first | exact hs_eq _ _ _ | refine hs_ne (by omega) ?_ | assumption)) ?_
  refine k_aload_n C dX8_digest_5 rfl ?_
  refine k_ldc2l C (z := 2311) kn_X8_204 (by decide +kernel) dX8_digest_6 ?_
  refine k_putG C (k := 10) inX8 tyX8_ok nmX8 (ci := 8) rfl (by decide) fl_X8_200 rfl (ty := .long) (by decide +kernel) rfl rfl (Nat.le_of_ble_eq_true rfl) dX8_digest_9 (by repeat (first | exact hs_eq _ _ _ | refine hs_ne (by omega) ?_ | assumption)) ?_
  refine k_iconst C dX8_digest_12 ?_
  refine k_istore_n C dX8_digest_13 (by decide) rfl ?_
  have loop14 : ∀ (n : Nat) (kk : Nat) (hkk : AH) (hax : Int → Int), (kk : Int) ≤ 18 → MA hkk oo zrr hhi htx hax hro st ln 0 re du (hF 2311 (fun k : Nat => sx (zCnt zrr st k)) kk) → Fr hpp hkk oo 6 → (18) - kk < (n : Int) → Wk D tc base 2 p l e (lvR 8) s m args below meth c 0 0 (MQ below (Qx D tc base (fun r h' => ∃ lt : Int, zLeast zrr 240 lt ∧ r = some (aL (hDig zrr htx st ln lt)) ∧ (∃ (hax : Int → Int) (hsh2 : Int), MA h' oo zrr hhi htx hax hro st ln 0 re du hsh2) ∧ Fr hpp h' oo 6)) args s 0 0 (fun q => base ≤ q)) 14 [some (aR oo), some (aI kk)] [] hkk := by
    intro n
    induction n with
    | zero =>
      intro kk hkk hax hk hMk hFk hmu
      exfalso
      omega
    | succ n ih =>
      intro kk hkk hax hk hMk hFk hmu
      obtain ⟨k0, k1, k2, k3, k4, k5⟩ := id hMk
      refine k_iload_n C dX8_digest_14 rfl ?_
      refine k_bipush C dX8_digest_15 (by decide +kernel) ?_
      refine k_icmp_ge (tgt := 36) C dX8_digest_17 (by decide) ⟨by omega, by omega⟩ ⟨by omega, by omega⟩ (fun c17 => ?_) (fun c17 => ?_)
      · try (exfalso; omega)
        all_goals (
          refine k_iconst C dX8_digest_36 ?_
          refine k_istore_n C dX8_digest_37 (by decide) rfl ?_
          have loop38 : ∀ (n : Nat) (kk : Nat) (hkk : AH) (hax : Int → Int), (kk : Int) ≤ 6 → MA hkk oo zrr hhi htx hax hro st ln 0 re du (hF (hF 2311 (fun k : Nat => sx (zCnt zrr st k)) 18) (fun k : Nat => sx (zrr (61 + k))) kk) → Fr hpp hkk oo 6 → (6) - kk < (n : Int) → Wk D tc base 2 p l e (lvR 8) s m args below meth c 0 0 (MQ below (Qx D tc base (fun r h' => ∃ lt : Int, zLeast zrr 240 lt ∧ r = some (aL (hDig zrr htx st ln lt)) ∧ (∃ (hax : Int → Int) (hsh2 : Int), MA h' oo zrr hhi htx hax hro st ln 0 re du hsh2) ∧ Fr hpp h' oo 6)) args s 0 0 (fun q => base ≤ q)) 38 [some (aR oo), some (aI kk)] [] hkk := by
            intro n
            induction n with
            | zero =>
              intro kk hkk hax hk hMk hFk hmu
              exfalso
              omega
            | succ n ih =>
              intro kk hkk hax hk hMk hFk hmu
              obtain ⟨k0, k1, k2, k3, k4, k5⟩ := id hMk
              refine k_iload_n C dX8_digest_38 rfl ?_
              refine k_bipush C dX8_digest_39 (by decide +kernel) ?_
              refine k_icmp_ge (tgt := 64) C dX8_digest_41 (by decide) ⟨by omega, by omega⟩ ⟨by omega, by omega⟩ (fun c41 => ?_) (fun c41 => ?_)
              · try (exfalso; omega)
                all_goals (
                  refine k_iconst C dX8_digest_64 ?_
                  refine k_istore_n C dX8_digest_65 (by decide) rfl ?_
                  have loop66 : ∀ (n : Nat) (kk : Nat) (hkk : AH) (hax : Int → Int), (kk : Int) ≤ 9 → MA hkk oo zrr hhi htx hax hro st ln 0 re du (hF (hF (hF 2311 (fun k : Nat => sx (zCnt zrr st k)) 18) (fun k : Nat => sx (zrr (61 + k))) 6) (fun k : Nat => sx (zrr (3 * ((k : Int) % 3) + (k : Int) / 3))) kk) → Fr hpp hkk oo 6 → (9) - kk < (n : Int) → Wk D tc base 2 p l e (lvR 8) s m args below meth c 0 0 (MQ below (Qx D tc base (fun r h' => ∃ lt : Int, zLeast zrr 240 lt ∧ r = some (aL (hDig zrr htx st ln lt)) ∧ (∃ (hax : Int → Int) (hsh2 : Int), MA h' oo zrr hhi htx hax hro st ln 0 re du hsh2) ∧ Fr hpp h' oo 6)) args s 0 0 (fun q => base ≤ q)) 66 [some (aR oo), some (aI kk)] [] hkk := by
                    intro n
                    induction n with
                    | zero =>
                      intro kk hkk hax hk hMk hFk hmu
                      exfalso
                      omega
                    | succ n ih =>
                      intro kk hkk hax hk hMk hFk hmu
                      obtain ⟨k0, k1, k2, k3, k4, k5⟩ := id hMk
                      refine k_iload_n C dX8_digest_66 rfl ?_
                      refine k_bipush C dX8_digest_67 (by decide +kernel) ?_
                      refine k_icmp_ge (tgt := 93) C dX8_digest_69 (by decide) ⟨by omega, by omega⟩ ⟨by omega, by omega⟩ (fun c69 => ?_) (fun c69 => ?_)
                      · try (exfalso; omega)
                        all_goals (
                          refine k_iconst C dX8_digest_93 ?_
                          refine k_istore_n C dX8_digest_94 (by decide) rfl ?_
                          have loop95 : ∀ (n : Nat) (kk : Nat) (hkk : AH) (hax : Int → Int), (kk : Int) ≤ 6 * zrr 21 → MA hkk oo zrr hhi htx hax hro st ln 0 re du (hF (hF (hF (hF 2311 (fun k : Nat => sx (zCnt zrr st k)) 18) (fun k : Nat => sx (zrr (61 + k))) 6) (fun k : Nat => sx (zrr (3 * ((k : Int) % 3) + (k : Int) / 3))) 9) (fun k : Nat => sx (zWin zrr ((k : Int) / 6) ((k : Int) % 6))) kk) → Fr hpp hkk oo 6 → (6 * zrr 21) - kk < (n : Int) → Wk D tc base 2 p l e (lvR 8) s m args below meth c 0 0 (MQ below (Qx D tc base (fun r h' => ∃ lt : Int, zLeast zrr 240 lt ∧ r = some (aL (hDig zrr htx st ln lt)) ∧ (∃ (hax : Int → Int) (hsh2 : Int), MA h' oo zrr hhi htx hax hro st ln 0 re du hsh2) ∧ Fr hpp h' oo 6)) args s 0 0 (fun q => base ≤ q)) 95 [some (aR oo), some (aI kk)] [] hkk := by
                            intro n
                            induction n with
                            | zero =>
                              intro kk hkk hax hk hMk hFk hmu
                              exfalso
                              omega
                            | succ n ih =>
                              intro kk hkk hax hk hMk hFk hmu
                              obtain ⟨k0, k1, k2, k3, k4, k5⟩ := id hMk
                              refine k_iload_n C dX8_digest_95 rfl ?_
                              refine k_bipush C dX8_digest_96 (by decide +kernel) ?_
                              refine k_aload_n C dX8_digest_98 rfl ?_
                              refine k_get C (k := 0) inX8 (ci := 8) rfl (by decide) fl_X8_7 dX8_digest_99 (by repeat (first | exact hs_eq _ _ _ | refine hs_ne (by omega) ?_ | assumption)) rfl ?_
                              refine k_bipush C dX8_digest_102 (by decide +kernel) ?_
                              refine k_iaload C dX8_digest_104 (by repeat (first | exact hs_eq _ _ _ | refine hs_ne (by omega) ?_ | assumption)) (by omega) (by omega) (by omega) ?_
                              refine k_imul C dX8_digest_105 ?_
                              refine k_icmp_ge (tgt := 132) C dX8_digest_106 (by decide) ⟨by omega, by omega⟩ ⟨by omega, by omega⟩ (fun c106 => ?_) (fun c106 => ?_)
                              · try (exfalso; omega)
                                all_goals (
                                  refine k_iconst C dX8_digest_132 ?_
                                  refine k_istore_n C dX8_digest_133 (by decide) rfl ?_
                                  have loop134 : ∀ (n : Nat) (kk : Nat) (hkk : AH) (hax : Int → Int), (kk : Int) ≤ 2 * zrr 52 → MA hkk oo zrr hhi htx hax hro st ln 0 re du (hF (hF (hF (hF (hF 2311 (fun k : Nat => sx (zCnt zrr st k)) 18) (fun k : Nat => sx (zrr (61 + k))) 6) (fun k : Nat => sx (zrr (3 * ((k : Int) % 3) + (k : Int) / 3))) 9) (fun k : Nat => sx (zWin zrr ((k : Int) / 6) ((k : Int) % 6))) (6 * (zrr 21).toNat)) (fun k : Nat => sx (zrr (53 + k))) kk) → Fr hpp hkk oo 6 → (2 * zrr 52) - kk < (n : Int) → Wk D tc base 2 p l e (lvR 8) s m args below meth c 0 0 (MQ below (Qx D tc base (fun r h' => ∃ lt : Int, zLeast zrr 240 lt ∧ r = some (aL (hDig zrr htx st ln lt)) ∧ (∃ (hax : Int → Int) (hsh2 : Int), MA h' oo zrr hhi htx hax hro st ln 0 re du hsh2) ∧ Fr hpp h' oo 6)) args s 0 0 (fun q => base ≤ q)) 134 [some (aR oo), some (aI kk)] [] hkk := by
                                    intro n
                                    induction n with
                                    | zero =>
                                      intro kk hkk hax hk hMk hFk hmu
                                      exfalso
                                      omega
                                    | succ n ih =>
                                      intro kk hkk hax hk hMk hFk hmu
                                      obtain ⟨k0, k1, k2, k3, k4, k5⟩ := id hMk
                                      refine k_iload_n C dX8_digest_134 rfl ?_
                                      refine k_iconst C dX8_digest_135 ?_
                                      refine k_aload_n C dX8_digest_136 rfl ?_
                                      refine k_get C (k := 0) inX8 (ci := 8) rfl (by decide) fl_X8_7 dX8_digest_137 (by repeat (first | exact hs_eq _ _ _ | refine hs_ne (by omega) ?_ | assumption)) rfl ?_
                                      refine k_bipush C dX8_digest_140 (by decide +kernel) ?_
                                      refine k_iaload C dX8_digest_142 (by repeat (first | exact hs_eq _ _ _ | refine hs_ne (by omega) ?_ | assumption)) (by omega) (by omega) (by omega) ?_
                                      refine k_imul C dX8_digest_143 ?_
                                      refine k_icmp_ge (tgt := 167) C dX8_digest_144 (by decide) ⟨by omega, by omega⟩ ⟨by omega, by omega⟩ (fun c144 => ?_) (fun c144 => ?_)
                                      · try (exfalso; omega)
                                        all_goals (
                                          refine k_iconst C dX8_digest_167 ?_
                                          refine k_istore_n C dX8_digest_168 (by decide) rfl ?_
                                          have loop169 : ∀ (n : Nat) (kk : Nat) (hkk : AH) (hax : Int → Int), (kk : Int) ≤ 3 → MA hkk oo zrr hhi htx hax hro st ln 0 re du (hF (hF (hF (hF (hF (hF 2311 (fun k : Nat => sx (zCnt zrr st k)) 18) (fun k : Nat => sx (zrr (61 + k))) 6) (fun k : Nat => sx (zrr (3 * ((k : Int) % 3) + (k : Int) / 3))) 9) (fun k : Nat => sx (zWin zrr ((k : Int) / 6) ((k : Int) % 6))) (6 * (zrr 21).toNat)) (fun k : Nat => sx (zrr (53 + k))) (2 * (zrr 52).toNat)) (fun k : Nat => sx (zWhy zrr k)) kk) → Fr hpp hkk oo 6 → (3) - kk < (n : Int) → Wk D tc base 2 p l e (lvR 8) s m args below meth c 0 0 (MQ below (Qx D tc base (fun r h' => ∃ lt : Int, zLeast zrr 240 lt ∧ r = some (aL (hDig zrr htx st ln lt)) ∧ (∃ (hax : Int → Int) (hsh2 : Int), MA h' oo zrr hhi htx hax hro st ln 0 re du hsh2) ∧ Fr hpp h' oo 6)) args s 0 0 (fun q => base ≤ q)) 169 [some (aR oo), some (aI kk)] [] hkk := by
                                            intro n
                                            induction n with
                                            | zero =>
                                              intro kk hkk hax hk hMk hFk hmu
                                              exfalso
                                              omega
                                            | succ n ih =>
                                              intro kk hkk hax hk hMk hFk hmu
                                              obtain ⟨k0, k1, k2, k3, k4, k5⟩ := id hMk
                                              refine k_iload_n C dX8_digest_169 rfl ?_
                                              refine k_iconst C dX8_digest_170 ?_
                                              refine k_icmp_ge (tgt := 190) C dX8_digest_171 (by decide) ⟨by omega, by omega⟩ ⟨by omega, by omega⟩ (fun c171 => ?_) (fun c171 => ?_)
                                              · try (exfalso; omega)
                                                all_goals (
                                                  refine k_iconst C dX8_digest_190 ?_
                                                  refine k_istore_n C dX8_digest_191 (by decide) rfl ?_
                                                  have loop192 : ∀ (n : Nat) (kk : Nat) (hkk : AH) (hax : Int → Int), (kk : Int) ≤ 10 → MA hkk oo zrr hhi htx hax hro st ln 0 re du (hF (hF (hF (hF (hF (hF (hF 2311 (fun k : Nat => sx (zCnt zrr st k)) 18) (fun k : Nat => sx (zrr (61 + k))) 6) (fun k : Nat => sx (zrr (3 * ((k : Int) % 3) + (k : Int) / 3))) 9) (fun k : Nat => sx (zWin zrr ((k : Int) / 6) ((k : Int) % 6))) (6 * (zrr 21).toNat)) (fun k : Nat => sx (zrr (53 + k))) (2 * (zrr 52).toNat)) (fun k : Nat => sx (zWhy zrr k)) 3) (fun k : Nat => sx (zOut (zGo zrr 60) k)) kk) → Fr hpp hkk oo 6 → (10) - kk < (n : Int) → Wk D tc base 2 p l e (lvR 8) s m args below meth c 0 0 (MQ below (Qx D tc base (fun r h' => ∃ lt : Int, zLeast zrr 240 lt ∧ r = some (aL (hDig zrr htx st ln lt)) ∧ (∃ (hax : Int → Int) (hsh2 : Int), MA h' oo zrr hhi htx hax hro st ln 0 re du hsh2) ∧ Fr hpp h' oo 6)) args s 0 0 (fun q => base ≤ q)) 192 [some (aR oo), some (aI kk)] [] hkk := by
                                                    intro n
                                                    induction n with
                                                    | zero =>
                                                      intro kk hkk hax hk hMk hFk hmu
                                                      exfalso
                                                      omega
                                                    | succ n ih =>
                                                      intro kk hkk hax hk hMk hFk hmu
                                                      obtain ⟨k0, k1, k2, k3, k4, k5⟩ := id hMk
                                                      refine k_iload_n C dX8_digest_192 rfl ?_
                                                      refine k_bipush C dX8_digest_193 (by decide +kernel) ?_
                                                      refine k_icmp_ge (tgt := 216) C dX8_digest_195 (by decide) ⟨by omega, by omega⟩ ⟨by omega, by omega⟩ (fun c195 => ?_) (fun c195 => ?_)
                                                      · try (exfalso; omega)
                                                        all_goals (
                                                          have e1 : kk = 10 := by omega
                                                          subst e1
                                                          refine k_aload_n C dX8_digest_216 rfl ?_
                                                          refine k_aload_n C dX8_digest_217 rfl ?_
                                                          refine k_callV C (n := 0) (as := []) (ct_X8_standing l D tc base oo zrr hhi htx hax hro st ln 0 re du _ _ hMk hi hok.2 h13) ml_X8_176 im_X8_standing se_X8_standing ini_X8 co_X8_standing ⟨rfl, by decide, by decide, by decide +kernel⟩ rfl (ci := 8) rfl (by repeat (first | exact hs_eq _ _ _ | refine hs_ne (by omega) ?_ | assumption)) ⟨by decide, by decide⟩ rfl (Nat.le_of_ble_eq_true rfl) ⟨Nat.zero_le _, Nat.zero_le _⟩ dX8_digest_218 ?_
                                                          rintro _ hv1 ⟨rfl, ⟨hay1, hMv1⟩, hFv1⟩
                                                          obtain ⟨k0, k1, k2, k3, k4, k5⟩ := id hMv1
                                                          refine k_i2l C dX8_digest_221 ?_
                                                          refine k_callV C (n := 1) (as := [_]) (ct_X8_mix l D tc base oo zrr hhi htx hay1 hro st ln 0 re du _ _ hMv1 _) ml_X8_206 im_X8_mix se_X8_mix ini_X8 co_X8_mix ⟨rfl, by decide, by decide, by decide +kernel⟩ rfl (ci := 8) rfl (by repeat (first | exact hs_eq _ _ _ | refine hs_ne (by omega) ?_ | assumption)) ⟨by decide, by decide⟩ rfl (Nat.le_of_ble_eq_true rfl) ⟨Nat.zero_le _, Nat.zero_le _⟩ dX8_digest_222 ?_
                                                          rintro _ hmx2 ⟨rfl, hMm2, hFm2⟩
                                                          obtain ⟨k0, k1, k2, k3, k4, k5⟩ := id hMm2
                                                          refine k_aload_n C dX8_digest_225 rfl ?_
                                                          refine k_aload_n C dX8_digest_226 rfl ?_
                                                          refine k_callV C (n := 0) (as := []) (ct_X8_paid l D tc base oo zrr hhi htx hay1 hro st ln 0 re du _ _ hMm2 hi hok.2 h13) ml_X8_179 im_X8_paid se_X8_paid ini_X8 co_X8_paid ⟨rfl, by decide, by decide, by decide +kernel⟩ rfl (ci := 8) rfl (by repeat (first | exact hs_eq _ _ _ | refine hs_ne (by omega) ?_ | assumption)) ⟨by decide, by decide⟩ rfl (Nat.le_of_ble_eq_true rfl) ⟨Nat.zero_le _, Nat.zero_le _⟩ dX8_digest_227 ?_
                                                          rintro _ hv3 ⟨rfl, ⟨hay3, hMv3⟩, hFv3⟩
                                                          obtain ⟨k0, k1, k2, k3, k4, k5⟩ := id hMv3
                                                          refine k_i2l C dX8_digest_230 ?_
                                                          refine k_callV C (n := 1) (as := [_]) (ct_X8_mix l D tc base oo zrr hhi htx hay3 hro st ln 0 re du _ _ hMv3 _) ml_X8_206 im_X8_mix se_X8_mix ini_X8 co_X8_mix ⟨rfl, by decide, by decide, by decide +kernel⟩ rfl (ci := 8) rfl (by repeat (first | exact hs_eq _ _ _ | refine hs_ne (by omega) ?_ | assumption)) ⟨by decide, by decide⟩ rfl (Nat.le_of_ble_eq_true rfl) ⟨Nat.zero_le _, Nat.zero_le _⟩ dX8_digest_231 ?_
                                                          rintro _ hmx4 ⟨rfl, hMm4, hFm4⟩
                                                          obtain ⟨k0, k1, k2, k3, k4, k5⟩ := id hMm4
                                                          refine k_aload_n C dX8_digest_234 rfl ?_
                                                          refine k_aload_n C dX8_digest_235 rfl ?_
                                                          refine k_sipush C dX8_digest_236 (by decide +kernel) ?_
                                                          refine k_callV C (n := 1) (as := [_]) (ct_X8_least l D tc base oo zrr hhi htx hay3 hro st ln 0 re du _ _ hMm4 240 hi hok.2 h13 (by omega)) ml_X8_185 im_X8_least se_X8_least ini_X8 co_X8_least ⟨rfl, by decide, by decide, by decide +kernel⟩ rfl (ci := 8) rfl (by repeat (first | exact hs_eq _ _ _ | refine hs_ne (by omega) ?_ | assumption)) ⟨by decide, by decide⟩ rfl (Nat.le_of_ble_eq_true rfl) ⟨Nat.zero_le _, Nat.zero_le _⟩ dX8_digest_239 ?_
                                                          rintro _ hv5 ⟨lt, rfl, ⟨hay5, hMv5⟩, hFv5, hlt⟩
                                                          obtain ⟨k0, k1, k2, k3, k4, k5⟩ := id hMv5
                                                          refine k_i2l C dX8_digest_242 ?_
                                                          refine k_callV C (n := 1) (as := [_]) (ct_X8_mix l D tc base oo zrr hhi htx hay5 hro st ln 0 re du _ _ hMv5 _) ml_X8_206 im_X8_mix se_X8_mix ini_X8 co_X8_mix ⟨rfl, by decide, by decide, by decide +kernel⟩ rfl (ci := 8) rfl (by repeat (first | exact hs_eq _ _ _ | refine hs_ne (by omega) ?_ | assumption)) ⟨by decide, by decide⟩ rfl (Nat.le_of_ble_eq_true rfl) ⟨Nat.zero_le _, Nat.zero_le _⟩ dX8_digest_243 ?_
                                                          rintro _ hmx6 ⟨rfl, hMm6, hFm6⟩
                                                          obtain ⟨k0, k1, k2, k3, k4, k5⟩ := id hMm6
                                                          refine k_aload_n C dX8_digest_246 rfl ?_
                                                          refine k_aload_n C dX8_digest_247 rfl ?_
                                                          refine k_callV C (n := 0) (as := []) (ct_X8_firstDown l D tc base oo zrr hhi htx hay5 hro st ln 0 re du _ _ hMm6 hi hok.2 h13) ml_X8_191 im_X8_firstDown se_X8_firstDown ini_X8 co_X8_firstDown ⟨rfl, by decide, by decide, by decide +kernel⟩ rfl (ci := 8) rfl (by repeat (first | exact hs_eq _ _ _ | refine hs_ne (by omega) ?_ | assumption)) ⟨by decide, by decide⟩ rfl (Nat.le_of_ble_eq_true rfl) ⟨Nat.zero_le _, Nat.zero_le _⟩ dX8_digest_248 ?_
                                                          rintro _ hv7 ⟨rfl, ⟨hay7, hMv7⟩, hFv7⟩
                                                          obtain ⟨k0, k1, k2, k3, k4, k5⟩ := id hMv7
                                                          refine k_i2l C dX8_digest_251 ?_
                                                          refine k_callV C (n := 1) (as := [_]) (ct_X8_mix l D tc base oo zrr hhi htx hay7 hro st ln 0 re du _ _ hMv7 _) ml_X8_206 im_X8_mix se_X8_mix ini_X8 co_X8_mix ⟨rfl, by decide, by decide, by decide +kernel⟩ rfl (ci := 8) rfl (by repeat (first | exact hs_eq _ _ _ | refine hs_ne (by omega) ?_ | assumption)) ⟨by decide, by decide⟩ rfl (Nat.le_of_ble_eq_true rfl) ⟨Nat.zero_le _, Nat.zero_le _⟩ dX8_digest_252 ?_
                                                          rintro _ hmx8 ⟨rfl, hMm8, hFm8⟩
                                                          obtain ⟨k0, k1, k2, k3, k4, k5⟩ := id hMm8
                                                          refine k_aload_n C dX8_digest_255 rfl ?_
                                                          refine k_aload_n C dX8_digest_256 rfl ?_
                                                          refine k_callV C (n := 0) (as := []) (ct_X8_lost l D tc base oo zrr hhi htx hay7 hro st ln 0 re du _ _ hMm8 hok h13) ml_X8_194 im_X8_lost se_X8_lost ini_X8 co_X8_lost ⟨rfl, by decide, by decide, by decide +kernel⟩ rfl (ci := 8) rfl (by repeat (first | exact hs_eq _ _ _ | refine hs_ne (by omega) ?_ | assumption)) ⟨by decide, by decide⟩ rfl (Nat.le_of_ble_eq_true rfl) ⟨Nat.zero_le _, Nat.zero_le _⟩ dX8_digest_257 ?_
                                                          rintro _ _ ⟨rfl, rfl⟩
                                                          refine k_callS C (n := 1) (as := [_]) (ct_Jxe99ae_doubleToLongBits_ccdee l D tc base _ _ hsh.1 hsh.2) ml_X8_210 sm_Jxe99ae_doubleToLongBits_ccdee ini_Jxe99ae co_Jxe99ae_doubleToLongBits_ccdee ⟨by decide, by decide, by decide +kernel⟩ rfl ⟨by decide, by decide⟩ rfl (Nat.le_of_ble_eq_true rfl) ⟨Nat.zero_le _, Nat.zero_le _⟩ dX8_digest_260 ?_
                                                          rintro _ _ ⟨rfl, rfl⟩
                                                          refine k_callV C (n := 1) (as := [_]) (ct_X8_mix l D tc base oo zrr hhi htx hay7 hro st ln 0 re du _ _ hMm8 _) ml_X8_206 im_X8_mix se_X8_mix ini_X8 co_X8_mix ⟨rfl, by decide, by decide, by decide +kernel⟩ rfl (ci := 8) rfl (by repeat (first | exact hs_eq _ _ _ | refine hs_ne (by omega) ?_ | assumption)) ⟨by decide, by decide⟩ rfl (Nat.le_of_ble_eq_true rfl) ⟨Nat.zero_le _, Nat.zero_le _⟩ dX8_digest_263 ?_
                                                          rintro _ hmx9 ⟨rfl, hMm9, hFm9⟩
                                                          obtain ⟨k0, k1, k2, k3, k4, k5⟩ := id hMm9
                                                          refine k_aload_n C dX8_digest_266 rfl ?_
                                                          refine k_aload_n C dX8_digest_267 rfl ?_
                                                          refine k_get C (k := 3) inX8 (ci := 8) rfl (by decide) fl_X8_126 dX8_digest_268 (by repeat (first | exact hs_eq _ _ _ | refine hs_ne (by omega) ?_ | assumption)) rfl ?_
                                                          refine k_i2l C dX8_digest_271 ?_
                                                          refine k_callV C (n := 1) (as := [_]) (ct_X8_mix l D tc base oo zrr hhi htx hay7 hro st ln 0 re du _ _ hMm9 _) ml_X8_206 im_X8_mix se_X8_mix ini_X8 co_X8_mix ⟨rfl, by decide, by decide, by decide +kernel⟩ rfl (ci := 8) rfl (by repeat (first | exact hs_eq _ _ _ | refine hs_ne (by omega) ?_ | assumption)) ⟨by decide, by decide⟩ rfl (Nat.le_of_ble_eq_true rfl) ⟨Nat.zero_le _, Nat.zero_le _⟩ dX8_digest_272 ?_
                                                          rintro _ hmx10 ⟨rfl, hMm10, hFm10⟩
                                                          obtain ⟨k0, k1, k2, k3, k4, k5⟩ := id hMm10
                                                          refine k_iconst C dX8_digest_275 ?_
                                                          refine k_istore_n C dX8_digest_276 (by decide) rfl ?_
                                                          have loop277 : ∀ (n : Nat) (kk : Nat) (hkk : AH) (hax : Int → Int), (kk : Int) ≤ ln → MA hkk oo zrr hhi htx hax hro st ln 0 re du (hF (31 * (31 * (31 * (31 * (31 * (31 * (hF (hF (hF (hF (hF (hF (hF 2311 (fun k : Nat => sx (zCnt zrr st k)) 18) (fun k : Nat => sx (zrr (61 + k))) 6) (fun k : Nat => sx (zrr (3 * ((k : Int) % 3) + (k : Int) / 3))) 9) (fun k : Nat => sx (zWin zrr ((k : Int) / 6) ((k : Int) % 6))) (6 * (zrr 21).toNat)) (fun k : Nat => sx (zrr (53 + k))) (2 * (zrr 52).toNat)) (fun k : Nat => sx (zWhy zrr k)) 3) (fun k : Nat => sx (zOut (zGo zrr 60) k)) 10) + sx (zStN zrr 1501)) + sx (zPaN zrr 721)) + sx lt) + sx (zFd zrr)) + ((zSh zrr).toNat : Int)) + sx ln) (fun k : Nat => sx (htx k)) kk) → Fr hpp hkk oo 6 → (ln) - kk < (n : Int) → Wk D tc base 2 p l e (lvR 8) s m args below meth c 0 0 (MQ below (Qx D tc base (fun r h' => ∃ lt : Int, zLeast zrr 240 lt ∧ r = some (aL (hDig zrr htx st ln lt)) ∧ (∃ (hax : Int → Int) (hsh2 : Int), MA h' oo zrr hhi htx hax hro st ln 0 re du hsh2) ∧ Fr hpp h' oo 6)) args s 0 0 (fun q => base ≤ q)) 277 [some (aR oo), some (aI kk)] [] hkk := by
                                                            intro n
                                                            induction n with
                                                            | zero =>
                                                              intro kk hkk hax hk hMk hFk hmu
                                                              exfalso
                                                              omega
                                                            | succ n ih =>
                                                              intro kk hkk hax hk hMk hFk hmu
                                                              obtain ⟨k0, k1, k2, k3, k4, k5⟩ := id hMk
                                                              refine k_iload_n C dX8_digest_277 rfl ?_
                                                              refine k_aload_n C dX8_digest_278 rfl ?_
                                                              refine k_get C (k := 3) inX8 (ci := 8) rfl (by decide) fl_X8_126 dX8_digest_279 (by repeat (first | exact hs_eq _ _ _ | refine hs_ne (by omega) ?_ | assumption)) rfl ?_
                                                              refine k_icmp_ge (tgt := 302) C dX8_digest_282 (by decide) ⟨by omega, by omega⟩ ⟨by omega, by omega⟩ (fun c282 => ?_) (fun c282 => ?_)
                                                              · try (exfalso; omega)
                                                                all_goals (
                                                                  refine k_aload_n C dX8_digest_302 rfl ?_
                                                                  refine k_get C (k := 10) inX8 (ci := 8) rfl (by decide) fl_X8_200 dX8_digest_303 (by repeat (first | exact hs_eq _ _ _ | refine hs_ne (by omega) ?_ | assumption)) rfl ?_
                                                                  refine k_lret C hr dX8_digest_306 ?_
                                                                  have e1 : kk = ln.toNat := by omega
                                                                  subst e1
                                                                  exact ⟨lt, hlt, rfl, ⟨_, _, hMk⟩, hFk⟩)
                                                              · try (exfalso; omega)
                                                                all_goals (
                                                                  refine k_aload_n C dX8_digest_285 rfl ?_
                                                                  refine k_aload_n C dX8_digest_286 rfl ?_
                                                                  refine k_get C (k := 4) inX8 (ci := 8) rfl (by decide) fl_X8_16 dX8_digest_287 (by repeat (first | exact hs_eq _ _ _ | refine hs_ne (by omega) ?_ | assumption)) rfl ?_
                                                                  refine k_iload_n C dX8_digest_290 rfl ?_
                                                                  refine k_iaload C dX8_digest_291 (by repeat (first | exact hs_eq _ _ _ | refine hs_ne (by omega) ?_ | assumption)) (by omega) (by omega) (by omega) ?_
                                                                  refine k_i2l C dX8_digest_292 ?_
                                                                  refine k_callV C (n := 1) (as := [_]) (ct_X8_mix l D tc base oo zrr hhi htx hax hro st ln 0 re du _ _ hMk _) ml_X8_206 im_X8_mix se_X8_mix ini_X8 co_X8_mix ⟨rfl, by decide, by decide, by decide +kernel⟩ rfl (ci := 8) rfl (by repeat (first | exact hs_eq _ _ _ | refine hs_ne (by omega) ?_ | assumption)) ⟨by decide, by decide⟩ rfl (Nat.le_of_ble_eq_true rfl) ⟨Nat.zero_le _, Nat.zero_le _⟩ dX8_digest_293 ?_
                                                                  rintro _ hmx ⟨rfl, hM2, hF2⟩
                                                                  refine k_iinc C dX8_digest_296 rfl (by decide) rfl ?_
                                                                  refine k_goto (tgt := 277) C dX8_digest_299 (by decide) ?_
                                                                  have e2 : ((kk + 1 : Nat) : Int) = (kk : Int) + 1 := by omega
                                                                  have q1 := ih (kk + 1) _ _ (by omega) hM2 (hFk.tr hF2) (by omega)
                                                                  rw [e2] at q1
                                                                  exact q1)
                                                          exact loop277 20000 0 _ _ (by omega) hMm10 ((((((((((hFk.tr hFv1).tr hFm2).tr hFv3).tr hFm4).tr hFv5).tr hFm6).tr hFv7).tr hFm8).tr hFm9).tr hFm10) (by omega))
                                                      · try (exfalso; omega)
                                                        all_goals (
                                                          refine k_aload_n C dX8_digest_198 rfl ?_
                                                          refine k_aload_n C dX8_digest_199 rfl ?_
                                                          refine k_bipush C dX8_digest_200 (by decide +kernel) ?_
                                                          refine k_iload_n C dX8_digest_202 rfl ?_
                                                          refine k_callV C (n := 2) (as := [_, _]) (ct_X8_passed l D tc base oo zrr hhi htx hax hro st ln 0 re du _ _ hMk 60 _ hi hok.2 (by omega) ⟨by omega, by omega⟩) ml_X8_173 im_X8_passed se_X8_passed ini_X8 co_X8_passed ⟨rfl, by decide, by decide, by decide +kernel⟩ rfl (ci := 8) rfl (by repeat (first | exact hs_eq _ _ _ | refine hs_ne (by omega) ?_ | assumption)) ⟨by decide, by decide⟩ rfl (Nat.le_of_ble_eq_true rfl) ⟨Nat.zero_le _, Nat.zero_le _⟩ dX8_digest_203 ?_
                                                          rintro _ hv1 ⟨rfl, ⟨hay, hM1⟩, hF1⟩
                                                          obtain ⟨y0, y1, y2, y3, y4, y5⟩ := id hM1
                                                          refine k_i2l C dX8_digest_206 ?_
                                                          refine k_callV C (n := 1) (as := [_]) (ct_X8_mix l D tc base oo zrr hhi htx hay hro st ln 0 re du _ _ hM1 _) ml_X8_206 im_X8_mix se_X8_mix ini_X8 co_X8_mix ⟨rfl, by decide, by decide, by decide +kernel⟩ rfl (ci := 8) rfl (by repeat (first | exact hs_eq _ _ _ | refine hs_ne (by omega) ?_ | assumption)) ⟨by decide, by decide⟩ rfl (Nat.le_of_ble_eq_true rfl) ⟨Nat.zero_le _, Nat.zero_le _⟩ dX8_digest_207 ?_
                                                          rintro _ hmx ⟨rfl, hM2, hF2⟩
                                                          refine k_iinc C dX8_digest_210 rfl (by decide) rfl ?_
                                                          refine k_goto (tgt := 192) C dX8_digest_213 (by decide) ?_
                                                          have e2 : ((kk + 1 : Nat) : Int) = (kk : Int) + 1 := by omega
                                                          have q1 := ih (kk + 1) _ _ (by omega) hM2 (hFk.tr (hF1.tr hF2)) (by omega)
                                                          rw [e2] at q1
                                                          exact q1)
                                                  have e1 : kk = 3 := by omega
                                                  subst e1
                                                  exact loop192 20000 0 _ _ (by omega) hMk hFk (by omega))
                                              · try (exfalso; omega)
                                                all_goals (
                                                  refine k_aload_n C dX8_digest_174 rfl ?_
                                                  refine k_aload_n C dX8_digest_175 rfl ?_
                                                  refine k_iload_n C dX8_digest_176 rfl ?_
                                                  refine k_callV C (n := 1) (as := [_]) (ct_X8_whyNow l D tc base oo zrr hhi htx hax hro st ln 0 re du _ _ hMk _ hi hok.2 (by omega) ⟨by omega, by omega⟩) ml_X8_167 im_X8_whyNow se_X8_whyNow ini_X8 co_X8_whyNow ⟨rfl, by decide, by decide, by decide +kernel⟩ rfl (ci := 8) rfl (by repeat (first | exact hs_eq _ _ _ | refine hs_ne (by omega) ?_ | assumption)) ⟨by decide, by decide⟩ rfl (Nat.le_of_ble_eq_true rfl) ⟨Nat.zero_le _, Nat.zero_le _⟩ dX8_digest_177 ?_
                                                  rintro _ hv1 ⟨rfl, ⟨hay, hM1⟩, hF1⟩
                                                  obtain ⟨y0, y1, y2, y3, y4, y5⟩ := id hM1
                                                  refine k_i2l C dX8_digest_180 ?_
                                                  refine k_callV C (n := 1) (as := [_]) (ct_X8_mix l D tc base oo zrr hhi htx hay hro st ln 0 re du _ _ hM1 _) ml_X8_206 im_X8_mix se_X8_mix ini_X8 co_X8_mix ⟨rfl, by decide, by decide, by decide +kernel⟩ rfl (ci := 8) rfl (by repeat (first | exact hs_eq _ _ _ | refine hs_ne (by omega) ?_ | assumption)) ⟨by decide, by decide⟩ rfl (Nat.le_of_ble_eq_true rfl) ⟨Nat.zero_le _, Nat.zero_le _⟩ dX8_digest_181 ?_
                                                  rintro _ hmx ⟨rfl, hM2, hF2⟩
                                                  refine k_iinc C dX8_digest_184 rfl (by decide) rfl ?_
                                                  refine k_goto (tgt := 169) C dX8_digest_187 (by decide) ?_
                                                  have e2 : ((kk + 1 : Nat) : Int) = (kk : Int) + 1 := by omega
                                                  have q1 := ih (kk + 1) _ _ (by omega) hM2 (hFk.tr (hF1.tr hF2)) (by omega)
                                                  rw [e2] at q1
                                                  exact q1)
                                          have e1 : kk = 2 * (zrr 52).toNat := by omega
                                          subst e1
                                          exact loop169 20000 0 _ _ (by omega) hMk hFk (by omega))
                                      · try (exfalso; omega)
                                        all_goals (
                                          refine k_aload_n C dX8_digest_147 rfl ?_
                                          refine k_aload_n C dX8_digest_148 rfl ?_
                                          refine k_get C (k := 0) inX8 (ci := 8) rfl (by decide) fl_X8_7 dX8_digest_149 (by repeat (first | exact hs_eq _ _ _ | refine hs_ne (by omega) ?_ | assumption)) rfl ?_
                                          refine k_bipush C dX8_digest_152 (by decide +kernel) ?_
                                          refine k_iload_n C dX8_digest_154 rfl ?_
                                          refine k_iadd C dX8_digest_155 ?_
                                          refine k_iaload C dX8_digest_156 (by repeat (first | exact hs_eq _ _ _ | refine hs_ne (by omega) ?_ | assumption)) (by omega) (by omega) (by omega) ?_
                                          refine k_i2l C dX8_digest_157 ?_
                                          refine k_callV C (n := 1) (as := [_]) (ct_X8_mix l D tc base oo zrr hhi htx hax hro st ln 0 re du _ _ hMk _) ml_X8_206 im_X8_mix se_X8_mix ini_X8 co_X8_mix ⟨rfl, by decide, by decide, by decide +kernel⟩ rfl (ci := 8) rfl (by repeat (first | exact hs_eq _ _ _ | refine hs_ne (by omega) ?_ | assumption)) ⟨by decide, by decide⟩ rfl (Nat.le_of_ble_eq_true rfl) ⟨Nat.zero_le _, Nat.zero_le _⟩ dX8_digest_158 ?_
                                          rintro _ hmx ⟨rfl, hM2, hF2⟩
                                          refine k_iinc C dX8_digest_161 rfl (by decide) rfl ?_
                                          refine k_goto (tgt := 134) C dX8_digest_164 (by decide) ?_
                                          have e2 : ((kk + 1 : Nat) : Int) = (kk : Int) + 1 := by omega
                                          have q1 := ih (kk + 1) _ _ (by omega) hM2 (hFk.tr hF2) (by omega)
                                          rw [e2] at q1
                                          exact q1)
                                  have e1 : kk = 6 * (zrr 21).toNat := by omega
                                  subst e1
                                  exact loop134 20000 0 _ _ (by omega) hMk hFk (by omega))
                              · try (exfalso; omega)
                                all_goals (
                                  refine k_aload_n C dX8_digest_109 rfl ?_
                                  refine k_aload_n C dX8_digest_110 rfl ?_
                                  refine k_iload_n C dX8_digest_111 rfl ?_
                                  refine k_bipush C dX8_digest_112 (by decide +kernel) ?_
                                  refine k_idiv C dX8_digest_114 (by omega) (by omega) (by omega) (by omega) ?_
                                  refine k_iload_n C dX8_digest_115 rfl ?_
                                  refine k_bipush C dX8_digest_116 (by decide +kernel) ?_
                                  refine k_irem C dX8_digest_118 (by omega) (by omega) (by omega) (by omega) ?_
                                  refine k_callV C (n := 2) (as := [_, _]) (ct_X8_winderNow l D tc base oo zrr hhi htx hax hro st ln 0 re du _ _ hMk _ _ hi (by omega) ⟨by omega, by omega⟩ ⟨by omega, by omega⟩) ml_X8_149 im_X8_winderNow se_X8_winderNow ini_X8 co_X8_winderNow ⟨rfl, by decide, by decide, by decide +kernel⟩ rfl (ci := 8) rfl (by repeat (first | exact hs_eq _ _ _ | refine hs_ne (by omega) ?_ | assumption)) ⟨by decide, by decide⟩ rfl (Nat.le_of_ble_eq_true rfl) ⟨Nat.zero_le _, Nat.zero_le _⟩ dX8_digest_119 ?_
                                  rintro _ _ ⟨rfl, rfl⟩
                                  refine k_i2l C dX8_digest_122 ?_
                                  refine k_callV C (n := 1) (as := [_]) (ct_X8_mix l D tc base oo zrr hhi htx hax hro st ln 0 re du _ _ hMk _) ml_X8_206 im_X8_mix se_X8_mix ini_X8 co_X8_mix ⟨rfl, by decide, by decide, by decide +kernel⟩ rfl (ci := 8) rfl (by repeat (first | exact hs_eq _ _ _ | refine hs_ne (by omega) ?_ | assumption)) ⟨by decide, by decide⟩ rfl (Nat.le_of_ble_eq_true rfl) ⟨Nat.zero_le _, Nat.zero_le _⟩ dX8_digest_123 ?_
                                  rintro _ hmx ⟨rfl, hM2, hF2⟩
                                  refine k_iinc C dX8_digest_126 rfl (by decide) rfl ?_
                                  refine k_goto (tgt := 95) C dX8_digest_129 (by decide) ?_
                                  have e2 : ((kk + 1 : Nat) : Int) = (kk : Int) + 1 := by omega
                                  have q1 := ih (kk + 1) _ _ (by omega) hM2 (hFk.tr hF2) (by omega)
                                  rw [e2] at q1
                                  exact q1)
                          have e1 : kk = 9 := by omega
                          subst e1
                          exact loop95 20000 0 _ _ (by omega) hMk hFk (by omega))
                      · try (exfalso; omega)
                        all_goals (
                          refine k_aload_n C dX8_digest_72 rfl ?_
                          refine k_aload_n C dX8_digest_73 rfl ?_
                          refine k_iload_n C dX8_digest_74 rfl ?_
                          refine k_iconst C dX8_digest_75 ?_
                          refine k_idiv C dX8_digest_76 (by omega) (by omega) (by omega) (by omega) ?_
                          refine k_iload_n C dX8_digest_77 rfl ?_
                          refine k_iconst C dX8_digest_78 ?_
                          refine k_irem C dX8_digest_79 (by omega) (by omega) (by omega) (by omega) ?_
                          refine k_callV C (n := 2) (as := [_, _]) (ct_X8_weightNow l D tc base oo zrr hhi htx hax hro st ln 0 re du _ _ hMk _ _ ⟨by omega, by omega⟩ ⟨by omega, by omega⟩) ml_X8_146 im_X8_weightNow se_X8_weightNow ini_X8 co_X8_weightNow ⟨rfl, by decide, by decide, by decide +kernel⟩ rfl (ci := 8) rfl (by repeat (first | exact hs_eq _ _ _ | refine hs_ne (by omega) ?_ | assumption)) ⟨by decide, by decide⟩ rfl (Nat.le_of_ble_eq_true rfl) ⟨Nat.zero_le _, Nat.zero_le _⟩ dX8_digest_80 ?_
                          rintro _ _ ⟨rfl, rfl⟩
                          refine k_i2l C dX8_digest_83 ?_
                          refine k_callV C (n := 1) (as := [_]) (ct_X8_mix l D tc base oo zrr hhi htx hax hro st ln 0 re du _ _ hMk _) ml_X8_206 im_X8_mix se_X8_mix ini_X8 co_X8_mix ⟨rfl, by decide, by decide, by decide +kernel⟩ rfl (ci := 8) rfl (by repeat (first | exact hs_eq _ _ _ | refine hs_ne (by omega) ?_ | assumption)) ⟨by decide, by decide⟩ rfl (Nat.le_of_ble_eq_true rfl) ⟨Nat.zero_le _, Nat.zero_le _⟩ dX8_digest_84 ?_
                          rintro _ hmx ⟨rfl, hM2, hF2⟩
                          refine k_iinc C dX8_digest_87 rfl (by decide) rfl ?_
                          refine k_goto (tgt := 66) C dX8_digest_90 (by decide) ?_
                          have e2 : ((kk + 1 : Nat) : Int) = (kk : Int) + 1 := by omega
                          have q1 := ih (kk + 1) _ _ (by omega) hM2 (hFk.tr hF2) (by omega)
                          rw [e2] at q1
                          exact q1)
                  have e1 : kk = 6 := by omega
                  subst e1
                  exact loop66 20000 0 _ _ (by omega) hMk hFk (by omega))
              · try (exfalso; omega)
                all_goals (
                  refine k_aload_n C dX8_digest_44 rfl ?_
                  refine k_aload_n C dX8_digest_45 rfl ?_
                  refine k_get C (k := 0) inX8 (ci := 8) rfl (by decide) fl_X8_7 dX8_digest_46 (by repeat (first | exact hs_eq _ _ _ | refine hs_ne (by omega) ?_ | assumption)) rfl ?_
                  refine k_bipush C dX8_digest_49 (by decide +kernel) ?_
                  refine k_iload_n C dX8_digest_51 rfl ?_
                  refine k_iadd C dX8_digest_52 ?_
                  refine k_iaload C dX8_digest_53 (by repeat (first | exact hs_eq _ _ _ | refine hs_ne (by omega) ?_ | assumption)) (by omega) (by omega) (by omega) ?_
                  refine k_i2l C dX8_digest_54 ?_
                  refine k_callV C (n := 1) (as := [_]) (ct_X8_mix l D tc base oo zrr hhi htx hax hro st ln 0 re du _ _ hMk _) ml_X8_206 im_X8_mix se_X8_mix ini_X8 co_X8_mix ⟨rfl, by decide, by decide, by decide +kernel⟩ rfl (ci := 8) rfl (by repeat (first | exact hs_eq _ _ _ | refine hs_ne (by omega) ?_ | assumption)) ⟨by decide, by decide⟩ rfl (Nat.le_of_ble_eq_true rfl) ⟨Nat.zero_le _, Nat.zero_le _⟩ dX8_digest_55 ?_
                  rintro _ hmx ⟨rfl, hM2, hF2⟩
                  refine k_iinc C dX8_digest_58 rfl (by decide) rfl ?_
                  refine k_goto (tgt := 38) C dX8_digest_61 (by decide) ?_
                  have e2 : ((kk + 1 : Nat) : Int) = (kk : Int) + 1 := by omega
                  have q1 := ih (kk + 1) _ _ (by omega) hM2 (hFk.tr hF2) (by omega)
                  rw [e2] at q1
                  exact q1)
          have e1 : kk = 18 := by omega
          subst e1
          exact loop38 20000 0 _ _ (by omega) hMk hFk (by omega))
      · try (exfalso; omega)
        all_goals (
          refine k_aload_n C dX8_digest_20 rfl ?_
          refine k_aload_n C dX8_digest_21 rfl ?_
          refine k_iload_n C dX8_digest_22 rfl ?_
          refine k_callV C (n := 1) (as := [_]) (ct_X8_counted l D tc base oo zrr hhi htx hax hro st ln 0 re du _ _ hMk _ hi (by omega) ⟨by omega, by omega⟩) ml_X8_152 im_X8_counted se_X8_counted ini_X8 co_X8_counted ⟨rfl, by decide, by decide, by decide +kernel⟩ rfl (ci := 8) rfl (by repeat (first | exact hs_eq _ _ _ | refine hs_ne (by omega) ?_ | assumption)) ⟨by decide, by decide⟩ rfl (Nat.le_of_ble_eq_true rfl) ⟨Nat.zero_le _, Nat.zero_le _⟩ dX8_digest_23 ?_
          rintro _ _ ⟨rfl, rfl⟩
          refine k_i2l C dX8_digest_26 ?_
          refine k_callV C (n := 1) (as := [_]) (ct_X8_mix l D tc base oo zrr hhi htx hax hro st ln 0 re du _ _ hMk _) ml_X8_206 im_X8_mix se_X8_mix ini_X8 co_X8_mix ⟨rfl, by decide, by decide, by decide +kernel⟩ rfl (ci := 8) rfl (by repeat (first | exact hs_eq _ _ _ | refine hs_ne (by omega) ?_ | assumption)) ⟨by decide, by decide⟩ rfl (Nat.le_of_ble_eq_true rfl) ⟨Nat.zero_le _, Nat.zero_le _⟩ dX8_digest_27 ?_
          rintro _ hmx ⟨rfl, hM2, hF2⟩
          refine k_iinc C dX8_digest_30 rfl (by decide) rfl ?_
          refine k_goto (tgt := 14) C dX8_digest_33 (by decide) ?_
          have e2 : ((kk + 1 : Nat) : Int) = (kk : Int) + 1 := by omega
          have q1 := ih (kk + 1) _ _ (by omega) hM2 (hFk.tr hF2) (by omega)
          rw [e2] at q1
          exact q1)
  exact loop14 20000 0 _ has (by omega) ⟨(by repeat (first | exact hs_eq _ _ _ | refine hs_ne (by omega) ?_ | assumption)), (by repeat (first | exact hs_eq _ _ _ | refine hs_ne (by omega) ?_ | assumption)), (by repeat (first | exact hs_eq _ _ _ | refine hs_ne (by omega) ?_ | assumption)), (by repeat (first | exact hs_eq _ _ _ | refine hs_ne (by omega) ?_ | assumption)), (by repeat (first | exact hs_eq _ _ _ | refine hs_ne (by omega) ?_ | assumption)), (by repeat (first | exact hs_eq _ _ _ | refine hs_ne (by omega) ?_ | assumption))⟩ (fun aaa haa => by repeat (first | rfl | refine hs_ne (by omega) ?_)) (by omega)
