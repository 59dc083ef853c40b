set_option maxRecDepth 20000 in
set_option maxHeartbeats 1000000 in
theorem ct_L_hands (l : Launch) (D : va_G) (tc : Nat → ClassId) (base : Nat) (rc an : Nat) (zrr hhi htx : Int → Int) (st ln kc : Int) (hpp : AH) (hX : XA hpp rc zrr hhi htx st ln) (hA : LA hpp an zrr kc) (hdj : rc + 127 ≤ an) (xx yy : Int) : CT l D tc base yL_hands cL_hands 12 (some .boolean) 5 [aR rc, aI xx, aI yy, aR an, aR (an + 1), aR (an + 2), aR (an + 4)] hpp (fun r h' => ∃ zn hin : Int → Int, r = some (aI 1) ∧ XA h' rc zn hin htx (sSt st) ln ∧ LA h' an zn kc ∧ zn 13 = zrr 13) := by
  refine CT.of [some (aR rc), some (aI xx), some (aI yy), some (aR an), some (aR (an + 1)), some (aR (an + 2)), some (aR (an + 4)), none, none, none, none, none] (by decide +kernel) rfl (Nat.le_of_ble_eq_true rfl) ?_
  intro p e s m args below meth c C hr hnm
  obtain ⟨⟨xfs, x0⟩, hok, h13x, hst⟩ := hX.fx
  have hi := hok.1
  obtain ⟨nu, hh, se, wi, de, ⟨y0, y1, y2, y3, y4⟩, hLR⟩ := id hA
  obtain ⟨⟨e0, e1, e2, e3, e4, e5, e6, e7, e8, e9, e10, e11, e12, e13, e14⟩, eh, es, ew, ed⟩ := id hLR
  obtain ⟨⟨g0, g1, g2, g9, g10, g11, g12, g13, g21, g52, g61, g62, g63, g64, g65, g66⟩, hwi, hde⟩ := id hi
  have s0 : se 0 = zrr 61 := es 0 (by omega) (by omega)
  refine k_iload_n C dL_hands_0 rfl ?_
  refine k_bipush C dL_hands_1 (by decide +kernel) ?_
  refine k_callS C (n := 2) (as := [_, _]) (ct_L_at l D tc base _ _ _ (by omega)) ml_L_26 sm_L_at ini_L co_L_at ⟨by decide, by decide, by decide +kernel⟩ rfl ⟨by decide, by decide⟩ rfl (Nat.le_of_ble_eq_true rfl) ⟨Nat.zero_le _, Nat.zero_le _⟩ dL_hands_3 ?_
  rintro _ _ ⟨⟨v3, rfl, p3, q3⟩, rfl⟩
  refine k_istore C dL_hands_6 (by decide) rfl ?_
  refine k_iload C dL_hands_8 rfl ?_
  refine k_iconst C dL_hands_10 ?_
  refine k_icmp_ge (tgt := 76) C dL_hands_11 (by decide) ⟨by omega, by omega⟩ ⟨by omega, by omega⟩ (fun c11 => ?_) (fun c11 => ?_)
  · try (exfalso; omega)
    all_goals (
      refine k_iload C dL_hands_76 rfl ?_
      refine k_bipush C dL_hands_78 (by decide +kernel) ?_
      refine k_icmp_ge (tgt := 211) C dL_hands_80 (by decide) ⟨by omega, by omega⟩ ⟨by omega, by omega⟩ (fun c80 => ?_) (fun c80 => ?_)
      · try (exfalso; omega)
        all_goals (
          refine k_iload C dL_hands_211 rfl ?_
          refine k_bipush C dL_hands_213 (by decide +kernel) ?_
          refine k_icmp_ne (tgt := 265) C dL_hands_215 (by decide) ⟨by omega, by omega⟩ ⟨by omega, by omega⟩ (fun c215 => ?_) (fun c215 => ?_)
          · try (exfalso; omega)
            all_goals (
              refine k_iload C dL_hands_265 rfl ?_
              refine k_bipush C dL_hands_267 (by decide +kernel) ?_
              refine k_icmp_ne (tgt := 320) C dL_hands_269 (by decide) ⟨by omega, by omega⟩ ⟨by omega, by omega⟩ (fun c269 => ?_) (fun c269 => ?_)
              · try (exfalso; omega)
                all_goals (
                  refine k_iload C dL_hands_320 rfl ?_
                  refine k_bipush C dL_hands_322 (by decide +kernel) ?_
                  refine k_icmp_ne (tgt := 351) C dL_hands_324 (by decide) ⟨by omega, by omega⟩ ⟨by omega, by omega⟩ (fun c324 => ?_) (fun c324 => ?_)
                  · try (exfalso; omega)
                    all_goals (
                      refine k_iconst C dL_hands_351 ?_
                      refine k_istore C dL_hands_352 (by decide) rfl ?_
                      refine k_iconst C dL_hands_354 ?_
                      refine k_istore C dL_hands_355 (by decide) rfl ?_
                      have loop357 : ∀ (n : Nat) (kk : Nat), (kk : Int) ≤ zrr 52 → zrr 52 - kk < (n : Int) → Wk D tc base 12 p l e (lvR 5) s m args below meth c 0 0 (MQ below (Qx D tc base (fun r h' => ∃ zn hin : Int → Int, r = some (aI 1) ∧ XA h' rc zn hin htx (sSt st) ln ∧ LA h' an zn kc ∧ zn 13 = zrr 13)) args s 0 0 (fun q => base ≤ q)) 357 [some (aR rc), some (aI xx), some (aI yy), some (aR an), some (aR (an + 1)), some (aR (an + 2)), some (aR (an + 4)), none, some (aI (zOwedN zrr kk)), some (aI kk)] [] hpp := by
                        intro n
                        induction n with
                        | zero =>
                          intro kk hk hmu
                          exfalso
                          omega
                        | succ n ih =>
                          intro kk hk hmu
                          have hor := zOwedN_rng hi kk hk
                          refine k_iload C dL_hands_357 rfl ?_
                          refine k_aload_n C dL_hands_359 rfl ?_
                          refine k_bipush C dL_hands_360 (by decide +kernel) ?_
                          refine k_iaload C dL_hands_362 (by repeat (first | exact hs_eq _ _ _ | refine hs_ne (by omega) ?_ | assumption)) (by omega) (by omega) (by omega) ?_
                          refine k_icmp_ge (tgt := 386) C dL_hands_363 (by decide) ⟨by omega, by omega⟩ ⟨by omega, by omega⟩ (fun c363 => ?_) (fun c363 => ?_)
                          · try (exfalso; omega)
                            all_goals (
                              refine k_aload_n C dL_hands_386 rfl ?_
                              refine k_bipush C dL_hands_387 (by decide +kernel) ?_
                              refine k_dup2 C dL_hands_389 rfl rfl ?_
                              refine k_iaload C dL_hands_390 (by repeat (first | exact hs_eq _ _ _ | refine hs_ne (by omega) ?_ | assumption)) (by omega) (by omega) (by omega) ?_
                              refine k_iload C dL_hands_391 rfl ?_
                              refine k_iadd C dL_hands_393 ?_
                              refine k_iastore C dL_hands_394 (by repeat (first | exact hs_eq _ _ _ | refine hs_ne (by omega) ?_ | assumption)) (by omega) (by omega) (by omega) ?_
                              refine k_aload_n C dL_hands_395 rfl ?_
                              refine k_bipush C dL_hands_396 (by decide +kernel) ?_
                              refine k_iconst C dL_hands_398 ?_
                              refine k_iastore C dL_hands_399 (by repeat (first | exact hs_eq _ _ _ | refine hs_ne (by omega) ?_ | assumption)) (by omega) (by omega) (by omega) ?_
                              refine k_aload_n C dL_hands_400 rfl ?_
                              refine k_callV C (n := 0) (as := []) (ct_X7_forgive l D tc base rc _ _ _ _ _ _ (hX.fr (fun aaa a0 a1 => by repeat (first | rfl | refine hs_ne (by omega) ?_)))) ml_L_48 im_X7_forgive se_X7_forgive ini_X7 co_X7_forgive ⟨rfl, by decide, by decide, by decide +kernel⟩ rfl (ci := 7) rfl (by repeat (first | exact hs_eq _ _ _ | refine hs_ne (by omega) ?_ | assumption)) ⟨by decide, by decide⟩ rfl (Nat.le_of_ble_eq_true rfl) ⟨Nat.zero_le _, Nat.zero_le _⟩ dL_hands_401 ?_
                              rintro _ hw ⟨rfl, hXw, hFw⟩
                              refine k_iload C dL_hands_404 rfl ?_
                              refine k_icmp_neE (tgt := 413) C dL_hands_406 (by decide) (by unfold zOwed; rw [show (zrr 52).toNat = kk by omega]) ?_
                              refine k_iconst C dL_hands_409 ?_
                              refine k_goto (tgt := 414) C dL_hands_410 (by decide) ?_
                              refine k_zret C hr dL_hands_414 (by omega) ?_
                              exact ⟨_, _, rfl, hXw, ⟨_, _, _, _, _, ⟨((hFw _ (by omega)).trans (by repeat (first | exact hs_eq _ _ _ | refine hs_ne (by omega) ?_ | assumption))), ((hFw _ (by omega)).trans (by repeat (first | exact hs_eq _ _ _ | refine hs_ne (by omega) ?_ | assumption))), ((hFw _ (by omega)).trans (by repeat (first | exact hs_eq _ _ _ | refine hs_ne (by omega) ?_ | assumption))), ((hFw _ (by omega)).trans (by repeat (first | exact hs_eq _ _ _ | refine hs_ne (by omega) ?_ | assumption))), ((hFw _ (by omega)).trans (by repeat (first | exact hs_eq _ _ _ | refine hs_ne (by omega) ?_ | assumption)))⟩, (hLR.n (by decide) (by unfold zOwed; rw [show (zrr 52).toNat = kk by omega]; omega)).n (by decide) rfl⟩, (by simp (disch := omega) only [iu_ne])⟩)
                          · try (exfalso; omega)
                            all_goals (
                              have ed1 : de (2 * (kk : Int) + 1) = zrr (53 + 2 * (kk : Int) + 1) := by
                                have := ed (2 * (kk : Int) + 1) (by omega) (by omega)
                                rw [← Int.add_assoc] at this
                                exact this
                              refine k_iload C dL_hands_366 rfl ?_
                              refine k_aload C dL_hands_368 rfl ?_
                              refine k_iconst C dL_hands_370 ?_
                              refine k_iload C dL_hands_371 rfl ?_
                              refine k_imul C dL_hands_373 ?_
                              refine k_iconst C dL_hands_374 ?_
                              refine k_iadd C dL_hands_375 ?_
                              refine k_iaload C dL_hands_376 (by repeat (first | exact hs_eq _ _ _ | refine hs_ne (by omega) ?_ | assumption)) (by omega) (by omega) (by omega) ?_
                              refine k_iadd C dL_hands_377 ?_
                              refine k_istore C dL_hands_378 (by decide) rfl ?_
                              refine k_iinc C dL_hands_380 rfl (by decide) rfl ?_
                              refine k_goto (tgt := 357) C dL_hands_383 (by decide) ?_
                              have e1 : zOwedN zrr (kk + 1) = zOwedN zrr kk + zrr (53 + 2 * (kk : Int) + 1) := rfl
                              have e2 : ((kk + 1 : Nat) : Int) = (kk : Int) + 1 := by omega
                              have q1 := ih (kk + 1) (by omega) (by omega)
                              rw [e1, e2, ← ed1] at q1
                              exact k_sub q1 (And.intro rfl (And.intro rfl (And.intro rfl (And.intro rfl (And.intro rfl (And.intro rfl (And.intro rfl (And.intro rfl (And.intro rfl trivial))))))))))
                      exact k_sub (loop357 (zrr 52 + 1).toNat 0 (by omega) (by omega)) ((And.intro rfl (And.intro rfl (And.intro rfl (And.intro rfl (And.intro rfl (And.intro rfl (And.intro rfl (And.intro rfl (And.intro rfl trivial)))))))))))
                  · try (exfalso; omega)
                    all_goals (
                      refine k_aload_n C dL_hands_327 rfl ?_
                      refine k_iconst C dL_hands_328 ?_
                      refine k_iaload C dL_hands_329 (by repeat (first | exact hs_eq _ _ _ | refine hs_ne (by omega) ?_ | assumption)) (by omega) (by omega) (by omega) ?_
                      refine k_istore C dL_hands_330 (by decide) rfl ?_
                      refine k_aload_n C dL_hands_332 rfl ?_
                      refine k_iconst C dL_hands_333 ?_
                      refine k_iconst C dL_hands_334 ?_
                      refine k_iastore C dL_hands_335 (by repeat (first | exact hs_eq _ _ _ | refine hs_ne (by omega) ?_ | assumption)) (by omega) (by omega) (by omega) ?_
                      refine k_aload_n C dL_hands_336 rfl ?_
                      refine k_callV C (n := 0) (as := []) (ct_X7_mend l D tc base rc _ _ _ _ _ _ (hX.fr (fun aaa a0 a1 => by repeat (first | rfl | refine hs_ne (by omega) ?_)))) ml_L_44 im_X7_mend se_X7_mend ini_X7 co_X7_mend ⟨rfl, by decide, by decide, by decide +kernel⟩ rfl (ci := 7) rfl (by repeat (first | exact hs_eq _ _ _ | refine hs_ne (by omega) ?_ | assumption)) ⟨by decide, by decide⟩ rfl (Nat.le_of_ble_eq_true rfl) ⟨Nat.zero_le _, Nat.zero_le _⟩ dL_hands_337 ?_
                      rintro _ hw ⟨rfl, hXw, hFw⟩
                      refine k_iload C dL_hands_340 rfl ?_
                      refine k_icmp_neE (tgt := 349) C dL_hands_342 (by decide) e4.symm ?_
                      refine k_iconst C dL_hands_345 ?_
                      refine k_goto (tgt := 350) C dL_hands_346 (by decide) ?_
                      refine k_zret C hr dL_hands_350 (by omega) ?_
                      exact ⟨_, _, rfl, hXw, ⟨_, _, _, _, _, ⟨((hFw _ (by omega)).trans (by repeat (first | exact hs_eq _ _ _ | refine hs_ne (by omega) ?_ | assumption))), ((hFw _ (by omega)).trans (by repeat (first | exact hs_eq _ _ _ | refine hs_ne (by omega) ?_ | assumption))), ((hFw _ (by omega)).trans (by repeat (first | exact hs_eq _ _ _ | refine hs_ne (by omega) ?_ | assumption))), ((hFw _ (by omega)).trans (by repeat (first | exact hs_eq _ _ _ | refine hs_ne (by omega) ?_ | assumption))), ((hFw _ (by omega)).trans (by repeat (first | exact hs_eq _ _ _ | refine hs_ne (by omega) ?_ | assumption)))⟩, hLR.n (by decide) rfl⟩, (by simp (disch := omega) only [iu_ne])⟩))
              · try (exfalso; omega)
                all_goals (
                  refine k_aload_n C dL_hands_272 rfl ?_
                  refine k_iconst C dL_hands_273 ?_
                  refine k_iaload C dL_hands_274 (by repeat (first | exact hs_eq _ _ _ | refine hs_ne (by omega) ?_ | assumption)) (by omega) (by omega) (by omega) ?_
                  refine k_istore C dL_hands_275 (by decide) rfl ?_
                  refine k_aload_n C dL_hands_277 rfl ?_
                  refine k_iconst C dL_hands_278 ?_
                  refine k_iload_n C dL_hands_279 rfl ?_
                  refine k_bipush C dL_hands_280 (by decide +kernel) ?_
                  refine k_callS C (n := 2) (as := [_, _]) (ct_L_at l D tc base _ _ _ (by omega)) ml_L_26 sm_L_at ini_L co_L_at ⟨by decide, by decide, by decide +kernel⟩ rfl ⟨by decide, by decide⟩ rfl (Nat.le_of_ble_eq_true rfl) ⟨Nat.zero_le _, Nat.zero_le _⟩ dL_hands_282 ?_
                  rintro _ _ ⟨⟨v282, rfl, p282, q282⟩, rfl⟩
                  refine k_bipush C dL_hands_285 (by decide +kernel) ?_
                  refine k_imul C dL_hands_287 ?_
                  refine k_bipush C dL_hands_288 (by decide +kernel) ?_
                  refine k_iadd C dL_hands_290 ?_
                  refine k_iload_n C dL_hands_291 rfl ?_
                  refine k_bipush C dL_hands_292 (by decide +kernel) ?_
                  refine k_ishrO C dL_hands_294 (fun v294 => ?_)
                  refine k_bipush C dL_hands_295 (by decide +kernel) ?_
                  refine k_callS C (n := 2) (as := [_, _]) (ct_L_at l D tc base _ _ _ (by omega)) ml_L_26 sm_L_at ini_L co_L_at ⟨by decide, by decide, by decide +kernel⟩ rfl ⟨by decide, by decide⟩ rfl (Nat.le_of_ble_eq_true rfl) ⟨Nat.zero_le _, Nat.zero_le _⟩ dL_hands_297 ?_
                  rintro _ _ ⟨⟨v297, rfl, p297, q297⟩, rfl⟩
                  refine k_iadd C dL_hands_300 ?_
                  refine k_iastore C dL_hands_301 (by repeat (first | exact hs_eq _ _ _ | refine hs_ne (by omega) ?_ | assumption)) (by omega) (by omega) (by omega) ?_
                  refine k_aload_n C dL_hands_302 rfl ?_
                  refine k_aload_n C dL_hands_303 rfl ?_
                  refine k_iconst C dL_hands_304 ?_
                  refine k_iaload C dL_hands_305 (by repeat (first | exact hs_eq _ _ _ | refine hs_ne (by omega) ?_ | assumption)) (by omega) (by omega) (by omega) ?_
                  try simp (disch := omega) only [hs_hs, iu_ne, iu_eq]
                  refine k_callV C (n := 1) (as := [_]) (ct_X7_setHands l D tc base rc _ _ _ _ _ _ (hX.fr (fun aaa a0 a1 => by repeat (first | rfl | refine hs_ne (by omega) ?_))) _ (by omega)) ml_L_41 im_X7_setHands se_X7_setHands ini_X7 co_X7_setHands ⟨rfl, by decide, by decide, by decide +kernel⟩ rfl (ci := 7) rfl (by repeat (first | exact hs_eq _ _ _ | refine hs_ne (by omega) ?_ | assumption)) ⟨by decide, by decide⟩ rfl (Nat.le_of_ble_eq_true rfl) ⟨Nat.zero_le _, Nat.zero_le _⟩ dL_hands_306 ?_
                  rintro _ hw ⟨rfl, hXw, hFw⟩
                  refine k_iload C dL_hands_309 rfl ?_
                  refine k_icmp_neE (tgt := 318) C dL_hands_311 (by decide) e1.symm ?_
                  refine k_iconst C dL_hands_314 ?_
                  refine k_goto (tgt := 319) C dL_hands_315 (by decide) ?_
                  refine k_zret C hr dL_hands_319 (by omega) ?_
                  exact ⟨_, _, rfl, hXw, ⟨_, _, _, _, _, ⟨((hFw _ (by omega)).trans (by repeat (first | exact hs_eq _ _ _ | refine hs_ne (by omega) ?_ | assumption))), ((hFw _ (by omega)).trans (by repeat (first | exact hs_eq _ _ _ | refine hs_ne (by omega) ?_ | assumption))), ((hFw _ (by omega)).trans (by repeat (first | exact hs_eq _ _ _ | refine hs_ne (by omega) ?_ | assumption))), ((hFw _ (by omega)).trans (by repeat (first | exact hs_eq _ _ _ | refine hs_ne (by omega) ?_ | assumption))), ((hFw _ (by omega)).trans (by repeat (first | exact hs_eq _ _ _ | refine hs_ne (by omega) ?_ | assumption)))⟩, hLR.n (by decide) rfl⟩, (by simp (disch := omega) only [iu_ne])⟩))
          · try (exfalso; omega)
            all_goals (
              refine k_aload_n C dL_hands_218 rfl ?_
              refine k_iconst C dL_hands_219 ?_
              refine k_iaload C dL_hands_220 (by repeat (first | exact hs_eq _ _ _ | refine hs_ne (by omega) ?_ | assumption)) (by omega) (by omega) (by omega) ?_
              refine k_istore C dL_hands_221 (by decide) rfl ?_
              refine k_aload_n C dL_hands_223 rfl ?_
              refine k_iconst C dL_hands_224 ?_
              refine k_iload_n C dL_hands_225 rfl ?_
              refine k_iload_n C dL_hands_226 rfl ?_
              refine k_iconst C dL_hands_227 ?_
              refine k_ishrO C dL_hands_228 (fun v228 => ?_)
              refine k_iconst C dL_hands_229 ?_
              refine k_callS C (n := 2) (as := [_, _]) (ct_L_at l D tc base _ _ _ (by omega)) ml_L_26 sm_L_at ini_L co_L_at ⟨by decide, by decide, by decide +kernel⟩ rfl ⟨by decide, by decide⟩ rfl (Nat.le_of_ble_eq_true rfl) ⟨Nat.zero_le _, Nat.zero_le _⟩ dL_hands_230 ?_
              rintro _ _ ⟨⟨v230, rfl, p230, q230⟩, rfl⟩
              refine k_if_ne (tgt := 241) C dL_hands_233 (by decide) ⟨by omega, by omega⟩ (fun c233 => ?_) (fun c233 => ?_)
              · try (exfalso; omega)
                all_goals (
                  refine k_bipush C dL_hands_241 (by decide +kernel) ?_
                  refine k_callS C (n := 2) (as := [_, _]) (ct_L_at l D tc base _ _ _ (by omega)) ml_L_26 sm_L_at ini_L co_L_at ⟨by decide, by decide, by decide +kernel⟩ rfl ⟨by decide, by decide⟩ rfl (Nat.le_of_ble_eq_true rfl) ⟨Nat.zero_le _, Nat.zero_le _⟩ dL_hands_243 ?_
                  rintro _ _ ⟨⟨v243, rfl, p243, q243⟩, rfl⟩
                  refine k_iastore C dL_hands_246 (by repeat (first | exact hs_eq _ _ _ | refine hs_ne (by omega) ?_ | assumption)) (by omega) (by omega) (by omega) ?_
                  refine k_aload_n C dL_hands_247 rfl ?_
                  refine k_aload_n C dL_hands_248 rfl ?_
                  refine k_iconst C dL_hands_249 ?_
                  refine k_iaload C dL_hands_250 (by repeat (first | exact hs_eq _ _ _ | refine hs_ne (by omega) ?_ | assumption)) (by omega) (by omega) (by omega) ?_
                  try simp (disch := omega) only [hs_hs, iu_ne, iu_eq]
                  refine k_callV C (n := 1) (as := [_]) (ct_X7_setSnow l D tc base rc _ _ _ _ _ _ (hX.fr (fun aaa a0 a1 => by repeat (first | rfl | refine hs_ne (by omega) ?_))) _ (by omega)) ml_L_38 im_X7_setSnow se_X7_setSnow ini_X7 co_X7_setSnow ⟨rfl, by decide, by decide, by decide +kernel⟩ rfl (ci := 7) rfl (by repeat (first | exact hs_eq _ _ _ | refine hs_ne (by omega) ?_ | assumption)) ⟨by decide, by decide⟩ rfl (Nat.le_of_ble_eq_true rfl) ⟨Nat.zero_le _, Nat.zero_le _⟩ dL_hands_251 ?_
                  rintro _ hw ⟨rfl, hXw, hFw⟩
                  refine k_iload C dL_hands_254 rfl ?_
                  refine k_icmp_neE (tgt := 263) C dL_hands_256 (by decide) e3.symm ?_
                  refine k_iconst C dL_hands_259 ?_
                  refine k_goto (tgt := 264) C dL_hands_260 (by decide) ?_
                  refine k_zret C hr dL_hands_264 (by omega) ?_
                  exact ⟨_, _, rfl, hXw, ⟨_, _, _, _, _, ⟨((hFw _ (by omega)).trans (by repeat (first | exact hs_eq _ _ _ | refine hs_ne (by omega) ?_ | assumption))), ((hFw _ (by omega)).trans (by repeat (first | exact hs_eq _ _ _ | refine hs_ne (by omega) ?_ | assumption))), ((hFw _ (by omega)).trans (by repeat (first | exact hs_eq _ _ _ | refine hs_ne (by omega) ?_ | assumption))), ((hFw _ (by omega)).trans (by repeat (first | exact hs_eq _ _ _ | refine hs_ne (by omega) ?_ | assumption))), ((hFw _ (by omega)).trans (by repeat (first | exact hs_eq _ _ _ | refine hs_ne (by omega) ?_ | assumption)))⟩, hLR.n (by decide) rfl⟩, (by simp (disch := omega) only [iu_ne])⟩)
              · try (exfalso; omega)
                all_goals (
                  refine k_bipush C dL_hands_236 (by decide +kernel) ?_
                  refine k_goto (tgt := 243) C dL_hands_238 (by decide) ?_
                  refine k_callS C (n := 2) (as := [_, _]) (ct_L_at l D tc base _ _ _ (by omega)) ml_L_26 sm_L_at ini_L co_L_at ⟨by decide, by decide, by decide +kernel⟩ rfl ⟨by decide, by decide⟩ rfl (Nat.le_of_ble_eq_true rfl) ⟨Nat.zero_le _, Nat.zero_le _⟩ dL_hands_243 ?_
                  rintro _ _ ⟨⟨v243, rfl, p243, q243⟩, rfl⟩
                  refine k_iastore C dL_hands_246 (by repeat (first | exact hs_eq _ _ _ | refine hs_ne (by omega) ?_ | assumption)) (by omega) (by omega) (by omega) ?_
                  refine k_aload_n C dL_hands_247 rfl ?_
                  refine k_aload_n C dL_hands_248 rfl ?_
                  refine k_iconst C dL_hands_249 ?_
                  refine k_iaload C dL_hands_250 (by repeat (first | exact hs_eq _ _ _ | refine hs_ne (by omega) ?_ | assumption)) (by omega) (by omega) (by omega) ?_
                  try simp (disch := omega) only [hs_hs, iu_ne, iu_eq]
                  refine k_callV C (n := 1) (as := [_]) (ct_X7_setSnow l D tc base rc _ _ _ _ _ _ (hX.fr (fun aaa a0 a1 => by repeat (first | rfl | refine hs_ne (by omega) ?_))) _ (by omega)) ml_L_38 im_X7_setSnow se_X7_setSnow ini_X7 co_X7_setSnow ⟨rfl, by decide, by decide, by decide +kernel⟩ rfl (ci := 7) rfl (by repeat (first | exact hs_eq _ _ _ | refine hs_ne (by omega) ?_ | assumption)) ⟨by decide, by decide⟩ rfl (Nat.le_of_ble_eq_true rfl) ⟨Nat.zero_le _, Nat.zero_le _⟩ dL_hands_251 ?_
                  rintro _ hw ⟨rfl, hXw, hFw⟩
                  refine k_iload C dL_hands_254 rfl ?_
                  refine k_icmp_neE (tgt := 263) C dL_hands_256 (by decide) e3.symm ?_
                  refine k_iconst C dL_hands_259 ?_
                  refine k_goto (tgt := 264) C dL_hands_260 (by decide) ?_
                  refine k_zret C hr dL_hands_264 (by omega) ?_
                  exact ⟨_, _, rfl, hXw, ⟨_, _, _, _, _, ⟨((hFw _ (by omega)).trans (by repeat (first | exact hs_eq _ _ _ | refine hs_ne (by omega) ?_ | assumption))), ((hFw _ (by omega)).trans (by repeat (first | exact hs_eq _ _ _ | refine hs_ne (by omega) ?_ | assumption))), ((hFw _ (by omega)).trans (by repeat (first | exact hs_eq _ _ _ | refine hs_ne (by omega) ?_ | assumption))), ((hFw _ (by omega)).trans (by repeat (first | exact hs_eq _ _ _ | refine hs_ne (by omega) ?_ | assumption))), ((hFw _ (by omega)).trans (by repeat (first | exact hs_eq _ _ _ | refine hs_ne (by omega) ?_ | assumption)))⟩, hLR.n (by decide) rfl⟩, (by simp (disch := omega) only [iu_ne])⟩)))
      · try (exfalso; omega)
        all_goals (
          refine k_iload_n C dL_hands_83 rfl ?_
          refine k_bipush C dL_hands_84 (by decide +kernel) ?_
          refine k_callS C (n := 2) (as := [_, _]) (ct_L_at l D tc base _ _ _ (by omega)) ml_L_26 sm_L_at ini_L co_L_at ⟨by decide, by decide, by decide +kernel⟩ rfl ⟨by decide, by decide⟩ rfl (Nat.le_of_ble_eq_true rfl) ⟨Nat.zero_le _, Nat.zero_le _⟩ dL_hands_86 ?_
          rintro _ _ ⟨⟨v86, rfl, p86, q86⟩, rfl⟩
          refine k_istore C dL_hands_89 (by decide) rfl ?_
          refine k_iload C dL_hands_91 rfl ?_
          refine k_if_ne (tgt := 100) C dL_hands_93 (by decide) ⟨by omega, by omega⟩ (fun c93 => ?_) (fun c93 => ?_)
          · try (exfalso; omega)
            all_goals (
              refine k_iload C dL_hands_100 rfl ?_
              refine k_iconst C dL_hands_102 ?_
              refine k_icmp_eq (tgt := 112) C dL_hands_103 (by decide) ⟨by omega, by omega⟩ ⟨by omega, by omega⟩ (fun c103 => ?_) (fun c103 => ?_)
              · try (exfalso; omega)
                all_goals (
                  refine k_iconst C dL_hands_112 ?_
                  refine k_goto (tgt := 117) C dL_hands_113 (by decide) ?_
                  refine k_istore C dL_hands_117 (by decide) rfl ?_
                  refine k_iload C dL_hands_119 rfl ?_
                  refine k_if_ne (tgt := 129) C dL_hands_121 (by decide) ⟨by omega, by omega⟩ (fun c121 => ?_) (fun c121 => ?_)
                  · try (exfalso; omega)
                    all_goals (
                      refine k_iload C dL_hands_129 rfl ?_
                      refine k_iconst C dL_hands_131 ?_
                      refine k_icmp_ge (tgt := 140) C dL_hands_132 (by decide) ⟨by omega, by omega⟩ ⟨by omega, by omega⟩ (fun c132 => ?_) (fun c132 => ?_)
                      · try (exfalso; omega)
                        all_goals (
                          refine k_bipush C dL_hands_140 (by decide +kernel) ?_
                          refine k_istore C dL_hands_142 (by decide) rfl ?_
                          refine k_aload C dL_hands_144 rfl ?_
                          refine k_iload C dL_hands_146 rfl ?_
                          refine k_iaload C dL_hands_148 (by repeat (first | exact hs_eq _ _ _ | refine hs_ne (by omega) ?_ | assumption)) (by omega) (by omega) (by omega) ?_
                          refine k_istore C dL_hands_149 (by decide) rfl ?_
                          refine k_aload C dL_hands_151 rfl ?_
                          refine k_iload C dL_hands_153 rfl ?_
                          refine k_iload C dL_hands_155 rfl ?_
                          refine k_iload_n C dL_hands_157 rfl ?_
                          refine k_iconst C dL_hands_158 ?_
                          refine k_ishrO C dL_hands_159 (fun v159 => ?_)
                          refine k_iload C dL_hands_160 rfl ?_
                          refine k_iload C dL_hands_162 rfl ?_
                          refine k_isub C dL_hands_164 ?_
                          refine k_iconst C dL_hands_165 ?_
                          refine k_iadd C dL_hands_166 ?_
                          refine k_callS C (n := 2) (as := [_, _]) (ct_L_at l D tc base _ _ _ (by omega)) ml_L_26 sm_L_at ini_L co_L_at ⟨by decide, by decide, by decide +kernel⟩ rfl ⟨by decide, by decide⟩ rfl (Nat.le_of_ble_eq_true rfl) ⟨Nat.zero_le _, Nat.zero_le _⟩ dL_hands_167 ?_
                          rintro _ _ ⟨⟨v167, rfl, p167, q167⟩, rfl⟩
                          refine k_iadd C dL_hands_170 ?_
                          refine k_iastore C dL_hands_171 (by repeat (first | exact hs_eq _ _ _ | refine hs_ne (by omega) ?_ | assumption)) (by omega) (by omega) (by omega) ?_
                          refine k_aload_n C dL_hands_172 rfl ?_
                          refine k_iconst C dL_hands_173 ?_
                          refine k_iaload C dL_hands_174 (by repeat (first | exact hs_eq _ _ _ | refine hs_ne (by omega) ?_ | assumption)) (by omega) (by omega) (by omega) ?_
                          try simp (disch := omega) only [hs_hs, iu_ne, iu_eq]
                          refine k_aload C dL_hands_175 rfl ?_
                          refine k_iconst C dL_hands_177 ?_
                          refine k_iaload C dL_hands_178 (by repeat (first | exact hs_eq _ _ _ | refine hs_ne (by omega) ?_ | assumption)) (by omega) (by omega) (by omega) ?_
                          try simp (disch := omega) only [hs_hs, iu_ne, iu_eq]
                          refine k_icmp_le (tgt := 189) C dL_hands_179 (by decide) ⟨by omega, by omega⟩ ⟨by omega, by omega⟩ (fun c179 => ?_) (fun c179 => ?_)
                          · try (exfalso; omega)
                            all_goals (
                              refine k_aload_n C dL_hands_189 rfl ?_
                              refine k_iload C dL_hands_190 rfl ?_
                              refine k_aload C dL_hands_192 rfl ?_
                              refine k_iload C dL_hands_194 rfl ?_
                              refine k_iaload C dL_hands_196 (by repeat (first | exact hs_eq _ _ _ | refine hs_ne (by omega) ?_ | assumption)) (by omega) (by omega) (by omega) ?_
                              try simp (disch := omega) only [hs_hs, iu_ne, iu_eq]
                              refine k_callV C (n := 2) (as := [_, _]) (ct_X7_set l D tc base rc _ _ _ _ _ _ (hX.fr (fun aaa a0 a1 => by repeat (first | rfl | refine hs_ne (by omega) ?_))) _ _ (by omega) ⟨fun q => by omega, fun q => by omega, fun q => by omega, fun q => by omega, fun q => by omega, fun q => by omega⟩) ml_L_35 im_X7_set se_X7_set ini_X7 co_X7_set ⟨rfl, by decide, by decide, by decide +kernel⟩ rfl (ci := 7) rfl (by repeat (first | exact hs_eq _ _ _ | refine hs_ne (by omega) ?_ | assumption)) ⟨by decide, by decide⟩ rfl (Nat.le_of_ble_eq_true rfl) ⟨Nat.zero_le _, Nat.zero_le _⟩ dL_hands_197 ?_
                              rintro _ hw ⟨rfl, hXw, hFw⟩
                              refine k_iload C dL_hands_200 rfl ?_
                              refine k_icmp_neE (tgt := 209) C dL_hands_202 (by decide) (es _ (by omega) (by omega)).symm ?_
                              refine k_iconst C dL_hands_205 ?_
                              refine k_goto (tgt := 210) C dL_hands_206 (by decide) ?_
                              refine k_zret C hr dL_hands_210 (by omega) ?_
                              refine ⟨_, _, rfl, hXw, ⟨_, _, _, _, _, ⟨((hFw _ (by omega)).trans (by repeat (first | exact hs_eq _ _ _ | refine hs_ne (by omega) ?_ | assumption))), ((hFw _ (by omega)).trans (by repeat (first | exact hs_eq _ _ _ | refine hs_ne (by omega) ?_ | assumption))), ((hFw _ (by omega)).trans (by repeat (first | exact hs_eq _ _ _ | refine hs_ne (by omega) ?_ | assumption))), ((hFw _ (by omega)).trans (by repeat (first | exact hs_eq _ _ _ | refine hs_ne (by omega) ?_ | assumption))), ((hFw _ (by omega)).trans (by repeat (first | exact hs_eq _ _ _ | refine hs_ne (by omega) ?_ | assumption)))⟩, ?_⟩, (by simp (disch := omega) only [iu_ne])⟩
                              first
                                | exact (hLR.s (by omega) rfl).n (j := 2) (by decide) (by unfold mnI; simp only [iu]; (repeat' split) <;> omega)
                                | (rw [← iu_self nu 2]
                                   refine LR.n (j := 2) (nu := nu) (hLR.s ?_ rfl) (by decide) ?_
                                   · omega
                                   · (unfold mnI; simp only [iu]; (repeat' split) <;> omega)))
                          · try (exfalso; omega)
                            all_goals (
                              refine k_aload_n C dL_hands_182 rfl ?_
                              refine k_iconst C dL_hands_183 ?_
                              refine k_aload C dL_hands_184 rfl ?_
                              refine k_iconst C dL_hands_186 ?_
                              refine k_iaload C dL_hands_187 (by repeat (first | exact hs_eq _ _ _ | refine hs_ne (by omega) ?_ | assumption)) (by omega) (by omega) (by omega) ?_
                              try simp (disch := omega) only [hs_hs, iu_ne, iu_eq]
                              refine k_iastore C dL_hands_188 (by repeat (first | exact hs_eq _ _ _ | refine hs_ne (by omega) ?_ | assumption)) (by omega) (by omega) (by omega) ?_
                              refine k_aload_n C dL_hands_189 rfl ?_
                              refine k_iload C dL_hands_190 rfl ?_
                              refine k_aload C dL_hands_192 rfl ?_
                              refine k_iload C dL_hands_194 rfl ?_
                              refine k_iaload C dL_hands_196 (by repeat (first | exact hs_eq _ _ _ | refine hs_ne (by omega) ?_ | assumption)) (by omega) (by omega) (by omega) ?_
                              try simp (disch := omega) only [hs_hs, iu_ne, iu_eq]
                              refine k_callV C (n := 2) (as := [_, _]) (ct_X7_set l D tc base rc _ _ _ _ _ _ (hX.fr (fun aaa a0 a1 => by repeat (first | rfl | refine hs_ne (by omega) ?_))) _ _ (by omega) ⟨fun q => by omega, fun q => by omega, fun q => by omega, fun q => by omega, fun q => by omega, fun q => by omega⟩) ml_L_35 im_X7_set se_X7_set ini_X7 co_X7_set ⟨rfl, by decide, by decide, by decide +kernel⟩ rfl (ci := 7) rfl (by repeat (first | exact hs_eq _ _ _ | refine hs_ne (by omega) ?_ | assumption)) ⟨by decide, by decide⟩ rfl (Nat.le_of_ble_eq_true rfl) ⟨Nat.zero_le _, Nat.zero_le _⟩ dL_hands_197 ?_
                              rintro _ hw ⟨rfl, hXw, hFw⟩
                              refine k_iload C dL_hands_200 rfl ?_
                              refine k_icmp_neE (tgt := 209) C dL_hands_202 (by decide) (es _ (by omega) (by omega)).symm ?_
                              refine k_iconst C dL_hands_205 ?_
                              refine k_goto (tgt := 210) C dL_hands_206 (by decide) ?_
                              refine k_zret C hr dL_hands_210 (by omega) ?_
                              refine ⟨_, _, rfl, hXw, ⟨_, _, _, _, _, ⟨((hFw _ (by omega)).trans (by repeat (first | exact hs_eq _ _ _ | refine hs_ne (by omega) ?_ | assumption))), ((hFw _ (by omega)).trans (by repeat (first | exact hs_eq _ _ _ | refine hs_ne (by omega) ?_ | assumption))), ((hFw _ (by omega)).trans (by repeat (first | exact hs_eq _ _ _ | refine hs_ne (by omega) ?_ | assumption))), ((hFw _ (by omega)).trans (by repeat (first | exact hs_eq _ _ _ | refine hs_ne (by omega) ?_ | assumption))), ((hFw _ (by omega)).trans (by repeat (first | exact hs_eq _ _ _ | refine hs_ne (by omega) ?_ | assumption)))⟩, ?_⟩, (by simp (disch := omega) only [iu_ne])⟩
                              first
                                | exact (hLR.s (by omega) rfl).n (j := 2) (by decide) (by unfold mnI; simp only [iu]; (repeat' split) <;> omega)
                                | (rw [← iu_self nu 2]
                                   refine LR.n (j := 2) (nu := nu) (hLR.s ?_ rfl) (by decide) ?_
                                   · omega
                                   · (unfold mnI; simp only [iu]; (repeat' split) <;> omega))))
                      · try (exfalso; omega)
                        all_goals (
                          refine k_bipush C dL_hands_135 (by decide +kernel) ?_
                          refine k_goto (tgt := 142) C dL_hands_137 (by decide) ?_
                          refine k_istore C dL_hands_142 (by decide) rfl ?_
                          refine k_aload C dL_hands_144 rfl ?_
                          refine k_iload C dL_hands_146 rfl ?_
                          refine k_iaload C dL_hands_148 (by repeat (first | exact hs_eq _ _ _ | refine hs_ne (by omega) ?_ | assumption)) (by omega) (by omega) (by omega) ?_
                          refine k_istore C dL_hands_149 (by decide) rfl ?_
                          refine k_aload C dL_hands_151 rfl ?_
                          refine k_iload C dL_hands_153 rfl ?_
                          refine k_iload C dL_hands_155 rfl ?_
                          refine k_iload_n C dL_hands_157 rfl ?_
                          refine k_iconst C dL_hands_158 ?_
                          refine k_ishrO C dL_hands_159 (fun v159 => ?_)
                          refine k_iload C dL_hands_160 rfl ?_
                          refine k_iload C dL_hands_162 rfl ?_
                          refine k_isub C dL_hands_164 ?_
                          refine k_iconst C dL_hands_165 ?_
                          refine k_iadd C dL_hands_166 ?_
                          refine k_callS C (n := 2) (as := [_, _]) (ct_L_at l D tc base _ _ _ (by omega)) ml_L_26 sm_L_at ini_L co_L_at ⟨by decide, by decide, by decide +kernel⟩ rfl ⟨by decide, by decide⟩ rfl (Nat.le_of_ble_eq_true rfl) ⟨Nat.zero_le _, Nat.zero_le _⟩ dL_hands_167 ?_
                          rintro _ _ ⟨⟨v167, rfl, p167, q167⟩, rfl⟩
                          refine k_iadd C dL_hands_170 ?_
                          refine k_iastore C dL_hands_171 (by repeat (first | exact hs_eq _ _ _ | refine hs_ne (by omega) ?_ | assumption)) (by omega) (by omega) (by omega) ?_
                          refine k_aload_n C dL_hands_172 rfl ?_
                          refine k_iconst C dL_hands_173 ?_
                          refine k_iaload C dL_hands_174 (by repeat (first | exact hs_eq _ _ _ | refine hs_ne (by omega) ?_ | assumption)) (by omega) (by omega) (by omega) ?_
                          try simp (disch := omega) only [hs_hs, iu_ne, iu_eq]
                          refine k_aload C dL_hands_175 rfl ?_
                          refine k_iconst C dL_hands_177 ?_
                          refine k_iaload C dL_hands_178 (by repeat (first | exact hs_eq _ _ _ | refine hs_ne (by omega) ?_ | assumption)) (by omega) (by omega) (by omega) ?_
                          try simp (disch := omega) only [hs_hs, iu_ne, iu_eq]
                          refine k_icmp_le (tgt := 189) C dL_hands_179 (by decide) ⟨by omega, by omega⟩ ⟨by omega, by omega⟩ (fun c179 => ?_) (fun c179 => ?_)
                          · try (exfalso; omega)
                            all_goals (
                              refine k_aload_n C dL_hands_189 rfl ?_
                              refine k_iload C dL_hands_190 rfl ?_
                              refine k_aload C dL_hands_192 rfl ?_
                              refine k_iload C dL_hands_194 rfl ?_
                              refine k_iaload C dL_hands_196 (by repeat (first | exact hs_eq _ _ _ | refine hs_ne (by omega) ?_ | assumption)) (by omega) (by omega) (by omega) ?_
                              try simp (disch := omega) only [hs_hs, iu_ne, iu_eq]
                              refine k_callV C (n := 2) (as := [_, _]) (ct_X7_set l D tc base rc _ _ _ _ _ _ (hX.fr (fun aaa a0 a1 => by repeat (first | rfl | refine hs_ne (by omega) ?_))) _ _ (by omega) ⟨fun q => by omega, fun q => by omega, fun q => by omega, fun q => by omega, fun q => by omega, fun q => by omega⟩) ml_L_35 im_X7_set se_X7_set ini_X7 co_X7_set ⟨rfl, by decide, by decide, by decide +kernel⟩ rfl (ci := 7) rfl (by repeat (first | exact hs_eq _ _ _ | refine hs_ne (by omega) ?_ | assumption)) ⟨by decide, by decide⟩ rfl (Nat.le_of_ble_eq_true rfl) ⟨Nat.zero_le _, Nat.zero_le _⟩ dL_hands_197 ?_
                              rintro _ hw ⟨rfl, hXw, hFw⟩
                              refine k_iload C dL_hands_200 rfl ?_
                              refine k_icmp_neE (tgt := 209) C dL_hands_202 (by decide) (es _ (by omega) (by omega)).symm ?_
                              refine k_iconst C dL_hands_205 ?_
                              refine k_goto (tgt := 210) C dL_hands_206 (by decide) ?_
                              refine k_zret C hr dL_hands_210 (by omega) ?_
                              refine ⟨_, _, rfl, hXw, ⟨_, _, _, _, _, ⟨((hFw _ (by omega)).trans (by repeat (first | exact hs_eq _ _ _ | refine hs_ne (by omega) ?_ | assumption))), ((hFw _ (by omega)).trans (by repeat (first | exact hs_eq _ _ _ | refine hs_ne (by omega) ?_ | assumption))), ((hFw _ (by omega)).trans (by repeat (first | exact hs_eq _ _ _ | refine hs_ne (by omega) ?_ | assumption))), ((hFw _ (by omega)).trans (by repeat (first | exact hs_eq _ _ _ | refine hs_ne (by omega) ?_ | assumption))), ((hFw _ (by omega)).trans (by repeat (first | exact hs_eq _ _ _ | refine hs_ne (by omega) ?_ | assumption)))⟩, ?_⟩, (by simp (disch := omega) only [iu_ne])⟩
                              first
                                | exact (hLR.s (by omega) rfl).n (j := 2) (by decide) (by unfold mnI; simp only [iu]; (repeat' split) <;> omega)
                                | (rw [← iu_self nu 2]
                                   refine LR.n (j := 2) (nu := nu) (hLR.s ?_ rfl) (by decide) ?_
                                   · omega
                                   · (unfold mnI; simp only [iu]; (repeat' split) <;> omega)))
                          · try (exfalso; omega)
                            all_goals (
                              refine k_aload_n C dL_hands_182 rfl ?_
                              refine k_iconst C dL_hands_183 ?_
                              refine k_aload C dL_hands_184 rfl ?_
                              refine k_iconst C dL_hands_186 ?_
                              refine k_iaload C dL_hands_187 (by repeat (first | exact hs_eq _ _ _ | refine hs_ne (by omega) ?_ | assumption)) (by omega) (by omega) (by omega) ?_
                              try simp (disch := omega) only [hs_hs, iu_ne, iu_eq]
                              refine k_iastore C dL_hands_188 (by repeat (first | exact hs_eq _ _ _ | refine hs_ne (by omega) ?_ | assumption)) (by omega) (by omega) (by omega) ?_
                              refine k_aload_n C dL_hands_189 rfl ?_
                              refine k_iload C dL_hands_190 rfl ?_
                              refine k_aload C dL_hands_192 rfl ?_
                              refine k_iload C dL_hands_194 rfl ?_
                              refine k_iaload C dL_hands_196 (by repeat (first | exact hs_eq _ _ _ | refine hs_ne (by omega) ?_ | assumption)) (by omega) (by omega) (by omega) ?_
                              try simp (disch := omega) only [hs_hs, iu_ne, iu_eq]
                              refine k_callV C (n := 2) (as := [_, _]) (ct_X7_set l D tc base rc _ _ _ _ _ _ (hX.fr (fun aaa a0 a1 => by repeat (first | rfl | refine hs_ne (by omega) ?_))) _ _ (by omega) ⟨fun q => by omega, fun q => by omega, fun q => by omega, fun q => by omega, fun q => by omega, fun q => by omega⟩) ml_L_35 im_X7_set se_X7_set ini_X7 co_X7_set ⟨rfl, by decide, by decide, by decide +kernel⟩ rfl (ci := 7) rfl (by repeat (first | exact hs_eq _ _ _ | refine hs_ne (by omega) ?_ | assumption)) ⟨by decide, by decide⟩ rfl (Nat.le_of_ble_eq_true rfl) ⟨Nat.zero_le _, Nat.zero_le _⟩ dL_hands_197 ?_
                              rintro _ hw ⟨rfl, hXw, hFw⟩
                              refine k_iload C dL_hands_200 rfl ?_
                              refine k_icmp_neE (tgt := 209) C dL_hands_202 (by decide) (es _ (by omega) (by omega)).symm ?_
                              refine k_iconst C dL_hands_205 ?_
                              refine k_goto (tgt := 210) C dL_hands_206 (by decide) ?_
                              refine k_zret C hr dL_hands_210 (by omega) ?_
                              refine ⟨_, _, rfl, hXw, ⟨_, _, _, _, _, ⟨((hFw _ (by omega)).trans (by repeat (first | exact hs_eq _ _ _ | refine hs_ne (by omega) ?_ | assumption))), ((hFw _ (by omega)).trans (by repeat (first | exact hs_eq _ _ _ | refine hs_ne (by omega) ?_ | assumption))), ((hFw _ (by omega)).trans (by repeat (first | exact hs_eq _ _ _ | refine hs_ne (by omega) ?_ | assumption))), ((hFw _ (by omega)).trans (by repeat (first | exact hs_eq _ _ _ | refine hs_ne (by omega) ?_ | assumption))), ((hFw _ (by omega)).trans (by repeat (first | exact hs_eq _ _ _ | refine hs_ne (by omega) ?_ | assumption)))⟩, ?_⟩, (by simp (disch := omega) only [iu_ne])⟩
                              first
                                | exact (hLR.s (by omega) rfl).n (j := 2) (by decide) (by unfold mnI; simp only [iu]; (repeat' split) <;> omega)
                                | (rw [← iu_self nu 2]
                                   refine LR.n (j := 2) (nu := nu) (hLR.s ?_ rfl) (by decide) ?_
                                   · omega
                                   · (unfold mnI; simp only [iu]; (repeat' split) <;> omega)))))
                  · try (exfalso; omega)
                    all_goals (
                      refine k_bipush C dL_hands_124 (by decide +kernel) ?_
                      refine k_goto (tgt := 142) C dL_hands_126 (by decide) ?_
                      refine k_istore C dL_hands_142 (by decide) rfl ?_
                      refine k_aload C dL_hands_144 rfl ?_
                      refine k_iload C dL_hands_146 rfl ?_
                      refine k_iaload C dL_hands_148 (by repeat (first | exact hs_eq _ _ _ | refine hs_ne (by omega) ?_ | assumption)) (by omega) (by omega) (by omega) ?_
                      refine k_istore C dL_hands_149 (by decide) rfl ?_
                      refine k_aload C dL_hands_151 rfl ?_
                      refine k_iload C dL_hands_153 rfl ?_
                      refine k_iload C dL_hands_155 rfl ?_
                      refine k_iload_n C dL_hands_157 rfl ?_
                      refine k_iconst C dL_hands_158 ?_
                      refine k_ishrO C dL_hands_159 (fun v159 => ?_)
                      refine k_iload C dL_hands_160 rfl ?_
                      refine k_iload C dL_hands_162 rfl ?_
                      refine k_isub C dL_hands_164 ?_
                      refine k_iconst C dL_hands_165 ?_
                      refine k_iadd C dL_hands_166 ?_
                      refine k_callS C (n := 2) (as := [_, _]) (ct_L_at l D tc base _ _ _ (by omega)) ml_L_26 sm_L_at ini_L co_L_at ⟨by decide, by decide, by decide +kernel⟩ rfl ⟨by decide, by decide⟩ rfl (Nat.le_of_ble_eq_true rfl) ⟨Nat.zero_le _, Nat.zero_le _⟩ dL_hands_167 ?_
                      rintro _ _ ⟨⟨v167, rfl, p167, q167⟩, rfl⟩
                      refine k_iadd C dL_hands_170 ?_
                      refine k_iastore C dL_hands_171 (by repeat (first | exact hs_eq _ _ _ | refine hs_ne (by omega) ?_ | assumption)) (by omega) (by omega) (by omega) ?_
                      refine k_aload_n C dL_hands_172 rfl ?_
                      refine k_iconst C dL_hands_173 ?_
                      refine k_iaload C dL_hands_174 (by repeat (first | exact hs_eq _ _ _ | refine hs_ne (by omega) ?_ | assumption)) (by omega) (by omega) (by omega) ?_
                      try simp (disch := omega) only [hs_hs, iu_ne, iu_eq]
                      refine k_aload C dL_hands_175 rfl ?_
                      refine k_iconst C dL_hands_177 ?_
                      refine k_iaload C dL_hands_178 (by repeat (first | exact hs_eq _ _ _ | refine hs_ne (by omega) ?_ | assumption)) (by omega) (by omega) (by omega) ?_
                      try simp (disch := omega) only [hs_hs, iu_ne, iu_eq]
                      refine k_icmp_le (tgt := 189) C dL_hands_179 (by decide) ⟨by omega, by omega⟩ ⟨by omega, by omega⟩ (fun c179 => ?_) (fun c179 => ?_)
                      · try (exfalso; omega)
                        all_goals (
                          refine k_aload_n C dL_hands_189 rfl ?_
                          refine k_iload C dL_hands_190 rfl ?_
                          refine k_aload C dL_hands_192 rfl ?_
                          refine k_iload C dL_hands_194 rfl ?_
                          refine k_iaload C dL_hands_196 (by repeat (first | exact hs_eq _ _ _ | refine hs_ne (by omega) ?_ | assumption)) (by omega) (by omega) (by omega) ?_
                          try simp (disch := omega) only [hs_hs, iu_ne, iu_eq]
                          refine k_callV C (n := 2) (as := [_, _]) (ct_X7_set l D tc base rc _ _ _ _ _ _ (hX.fr (fun aaa a0 a1 => by repeat (first | rfl | refine hs_ne (by omega) ?_))) _ _ (by omega) ⟨fun q => by omega, fun q => by omega, fun q => by omega, fun q => by omega, fun q => by omega, fun q => by omega⟩) ml_L_35 im_X7_set se_X7_set ini_X7 co_X7_set ⟨rfl, by decide, by decide, by decide +kernel⟩ rfl (ci := 7) rfl (by repeat (first | exact hs_eq _ _ _ | refine hs_ne (by omega) ?_ | assumption)) ⟨by decide, by decide⟩ rfl (Nat.le_of_ble_eq_true rfl) ⟨Nat.zero_le _, Nat.zero_le _⟩ dL_hands_197 ?_
                          rintro _ hw ⟨rfl, hXw, hFw⟩
                          refine k_iload C dL_hands_200 rfl ?_
                          refine k_icmp_neE (tgt := 209) C dL_hands_202 (by decide) (es _ (by omega) (by omega)).symm ?_
                          refine k_iconst C dL_hands_205 ?_
                          refine k_goto (tgt := 210) C dL_hands_206 (by decide) ?_
                          refine k_zret C hr dL_hands_210 (by omega) ?_
                          refine ⟨_, _, rfl, hXw, ⟨_, _, _, _, _, ⟨((hFw _ (by omega)).trans (by repeat (first | exact hs_eq _ _ _ | refine hs_ne (by omega) ?_ | assumption))), ((hFw _ (by omega)).trans (by repeat (first | exact hs_eq _ _ _ | refine hs_ne (by omega) ?_ | assumption))), ((hFw _ (by omega)).trans (by repeat (first | exact hs_eq _ _ _ | refine hs_ne (by omega) ?_ | assumption))), ((hFw _ (by omega)).trans (by repeat (first | exact hs_eq _ _ _ | refine hs_ne (by omega) ?_ | assumption))), ((hFw _ (by omega)).trans (by repeat (first | exact hs_eq _ _ _ | refine hs_ne (by omega) ?_ | assumption)))⟩, ?_⟩, (by simp (disch := omega) only [iu_ne])⟩
                          first
                            | exact (hLR.s (by omega) rfl).n (j := 2) (by decide) (by unfold mnI; simp only [iu]; (repeat' split) <;> omega)
                            | (rw [← iu_self nu 2]
                               refine LR.n (j := 2) (nu := nu) (hLR.s ?_ rfl) (by decide) ?_
                               · omega
                               · (unfold mnI; simp only [iu]; (repeat' split) <;> omega)))
                      · try (exfalso; omega)
                        all_goals (
                          refine k_aload_n C dL_hands_182 rfl ?_
                          refine k_iconst C dL_hands_183 ?_
                          refine k_aload C dL_hands_184 rfl ?_
                          refine k_iconst C dL_hands_186 ?_
                          refine k_iaload C dL_hands_187 (by repeat (first | exact hs_eq _ _ _ | refine hs_ne (by omega) ?_ | assumption)) (by omega) (by omega) (by omega) ?_
                          try simp (disch := omega) only [hs_hs, iu_ne, iu_eq]
                          refine k_iastore C dL_hands_188 (by repeat (first | exact hs_eq _ _ _ | refine hs_ne (by omega) ?_ | assumption)) (by omega) (by omega) (by omega) ?_
                          refine k_aload_n C dL_hands_189 rfl ?_
                          refine k_iload C dL_hands_190 rfl ?_
                          refine k_aload C dL_hands_192 rfl ?_
                          refine k_iload C dL_hands_194 rfl ?_
                          refine k_iaload C dL_hands_196 (by repeat (first | exact hs_eq _ _ _ | refine hs_ne (by omega) ?_ | assumption)) (by omega) (by omega) (by omega) ?_
                          try simp (disch := omega) only [hs_hs, iu_ne, iu_eq]
                          refine k_callV C (n := 2) (as := [_, _]) (ct_X7_set l D tc base rc _ _ _ _ _ _ (hX.fr (fun aaa a0 a1 => by repeat (first | rfl | refine hs_ne (by omega) ?_))) _ _ (by omega) ⟨fun q => by omega, fun q => by omega, fun q => by omega, fun q => by omega, fun q => by omega, fun q => by omega⟩) ml_L_35 im_X7_set se_X7_set ini_X7 co_X7_set ⟨rfl, by decide, by decide, by decide +kernel⟩ rfl (ci := 7) rfl (by repeat (first | exact hs_eq _ _ _ | refine hs_ne (by omega) ?_ | assumption)) ⟨by decide, by decide⟩ rfl (Nat.le_of_ble_eq_true rfl) ⟨Nat.zero_le _, Nat.zero_le _⟩ dL_hands_197 ?_
                          rintro _ hw ⟨rfl, hXw, hFw⟩
                          refine k_iload C dL_hands_200 rfl ?_
                          refine k_icmp_neE (tgt := 209) C dL_hands_202 (by decide) (es _ (by omega) (by omega)).symm ?_
                          refine k_iconst C dL_hands_205 ?_
                          refine k_goto (tgt := 210) C dL_hands_206 (by decide) ?_
                          refine k_zret C hr dL_hands_210 (by omega) ?_
                          refine ⟨_, _, rfl, hXw, ⟨_, _, _, _, _, ⟨((hFw _ (by omega)).trans (by repeat (first | exact hs_eq _ _ _ | refine hs_ne (by omega) ?_ | assumption))), ((hFw _ (by omega)).trans (by repeat (first | exact hs_eq _ _ _ | refine hs_ne (by omega) ?_ | assumption))), ((hFw _ (by omega)).trans (by repeat (first | exact hs_eq _ _ _ | refine hs_ne (by omega) ?_ | assumption))), ((hFw _ (by omega)).trans (by repeat (first | exact hs_eq _ _ _ | refine hs_ne (by omega) ?_ | assumption))), ((hFw _ (by omega)).trans (by repeat (first | exact hs_eq _ _ _ | refine hs_ne (by omega) ?_ | assumption)))⟩, ?_⟩, (by simp (disch := omega) only [iu_ne])⟩
                          first
                            | exact (hLR.s (by omega) rfl).n (j := 2) (by decide) (by unfold mnI; simp only [iu]; (repeat' split) <;> omega)
                            | (rw [← iu_self nu 2]
                               refine LR.n (j := 2) (nu := nu) (hLR.s ?_ rfl) (by decide) ?_
                               · omega
                               · (unfold mnI; simp only [iu]; (repeat' split) <;> omega)))))
              · try (exfalso; omega)
                all_goals (
                  refine k_iload C dL_hands_106 rfl ?_
                  refine k_iconst C dL_hands_108 ?_
                  refine k_icmp_ne (tgt := 116) C dL_hands_109 (by decide) ⟨by omega, by omega⟩ ⟨by omega, by omega⟩ (fun c109 => ?_) (fun c109 => ?_)
                  · try (exfalso; omega)
                    all_goals (
                      refine k_iconst C dL_hands_116 ?_
                      refine k_istore C dL_hands_117 (by decide) rfl ?_
                      refine k_iload C dL_hands_119 rfl ?_
                      refine k_if_ne (tgt := 129) C dL_hands_121 (by decide) ⟨by omega, by omega⟩ (fun c121 => ?_) (fun c121 => ?_)
                      · try (exfalso; omega)
                        all_goals (
                          refine k_iload C dL_hands_129 rfl ?_
                          refine k_iconst C dL_hands_131 ?_
                          refine k_icmp_ge (tgt := 140) C dL_hands_132 (by decide) ⟨by omega, by omega⟩ ⟨by omega, by omega⟩ (fun c132 => ?_) (fun c132 => ?_)
                          · try (exfalso; omega)
                            all_goals (
                              refine k_bipush C dL_hands_140 (by decide +kernel) ?_
                              refine k_istore C dL_hands_142 (by decide) rfl ?_
                              refine k_aload C dL_hands_144 rfl ?_
                              refine k_iload C dL_hands_146 rfl ?_
                              refine k_iaload C dL_hands_148 (by repeat (first | exact hs_eq _ _ _ | refine hs_ne (by omega) ?_ | assumption)) (by omega) (by omega) (by omega) ?_
                              refine k_istore C dL_hands_149 (by decide) rfl ?_
                              refine k_aload C dL_hands_151 rfl ?_
                              refine k_iload C dL_hands_153 rfl ?_
                              refine k_iload C dL_hands_155 rfl ?_
                              refine k_iload_n C dL_hands_157 rfl ?_
                              refine k_iconst C dL_hands_158 ?_
                              refine k_ishrO C dL_hands_159 (fun v159 => ?_)
                              refine k_iload C dL_hands_160 rfl ?_
                              refine k_iload C dL_hands_162 rfl ?_
                              refine k_isub C dL_hands_164 ?_
                              refine k_iconst C dL_hands_165 ?_
                              refine k_iadd C dL_hands_166 ?_
                              refine k_callS C (n := 2) (as := [_, _]) (ct_L_at l D tc base _ _ _ (by omega)) ml_L_26 sm_L_at ini_L co_L_at ⟨by decide, by decide, by decide +kernel⟩ rfl ⟨by decide, by decide⟩ rfl (Nat.le_of_ble_eq_true rfl) ⟨Nat.zero_le _, Nat.zero_le _⟩ dL_hands_167 ?_
                              rintro _ _ ⟨⟨v167, rfl, p167, q167⟩, rfl⟩
                              refine k_iadd C dL_hands_170 ?_
                              refine k_iastore C dL_hands_171 (by repeat (first | exact hs_eq _ _ _ | refine hs_ne (by omega) ?_ | assumption)) (by omega) (by omega) (by omega) ?_
                              refine k_aload_n C dL_hands_172 rfl ?_
                              refine k_iconst C dL_hands_173 ?_
                              refine k_iaload C dL_hands_174 (by repeat (first | exact hs_eq _ _ _ | refine hs_ne (by omega) ?_ | assumption)) (by omega) (by omega) (by omega) ?_
                              try simp (disch := omega) only [hs_hs, iu_ne, iu_eq]
                              refine k_aload C dL_hands_175 rfl ?_
                              refine k_iconst C dL_hands_177 ?_
                              refine k_iaload C dL_hands_178 (by repeat (first | exact hs_eq _ _ _ | refine hs_ne (by omega) ?_ | assumption)) (by omega) (by omega) (by omega) ?_
                              try simp (disch := omega) only [hs_hs, iu_ne, iu_eq]
                              refine k_icmp_le (tgt := 189) C dL_hands_179 (by decide) ⟨by omega, by omega⟩ ⟨by omega, by omega⟩ (fun c179 => ?_) (fun c179 => ?_)
                              · try (exfalso; omega)
                                all_goals (
                                  refine k_aload_n C dL_hands_189 rfl ?_
                                  refine k_iload C dL_hands_190 rfl ?_
                                  refine k_aload C dL_hands_192 rfl ?_
                                  refine k_iload C dL_hands_194 rfl ?_
                                  refine k_iaload C dL_hands_196 (by repeat (first | exact hs_eq _ _ _ | refine hs_ne (by omega) ?_ | assumption)) (by omega) (by omega) (by omega) ?_
                                  try simp (disch := omega) only [hs_hs, iu_ne, iu_eq]
                                  refine k_callV C (n := 2) (as := [_, _]) (ct_X7_set l D tc base rc _ _ _ _ _ _ (hX.fr (fun aaa a0 a1 => by repeat (first | rfl | refine hs_ne (by omega) ?_))) _ _ (by omega) ⟨fun q => by omega, fun q => by omega, fun q => by omega, fun q => by omega, fun q => by omega, fun q => by omega⟩) ml_L_35 im_X7_set se_X7_set ini_X7 co_X7_set ⟨rfl, by decide, by decide, by decide +kernel⟩ rfl (ci := 7) rfl (by repeat (first | exact hs_eq _ _ _ | refine hs_ne (by omega) ?_ | assumption)) ⟨by decide, by decide⟩ rfl (Nat.le_of_ble_eq_true rfl) ⟨Nat.zero_le _, Nat.zero_le _⟩ dL_hands_197 ?_
                                  rintro _ hw ⟨rfl, hXw, hFw⟩
                                  refine k_iload C dL_hands_200 rfl ?_
                                  refine k_icmp_neE (tgt := 209) C dL_hands_202 (by decide) (es _ (by omega) (by omega)).symm ?_
                                  refine k_iconst C dL_hands_205 ?_
                                  refine k_goto (tgt := 210) C dL_hands_206 (by decide) ?_
                                  refine k_zret C hr dL_hands_210 (by omega) ?_
                                  refine ⟨_, _, rfl, hXw, ⟨_, _, _, _, _, ⟨((hFw _ (by omega)).trans (by repeat (first | exact hs_eq _ _ _ | refine hs_ne (by omega) ?_ | assumption))), ((hFw _ (by omega)).trans (by repeat (first | exact hs_eq _ _ _ | refine hs_ne (by omega) ?_ | assumption))), ((hFw _ (by omega)).trans (by repeat (first | exact hs_eq _ _ _ | refine hs_ne (by omega) ?_ | assumption))), ((hFw _ (by omega)).trans (by repeat (first | exact hs_eq _ _ _ | refine hs_ne (by omega) ?_ | assumption))), ((hFw _ (by omega)).trans (by repeat (first | exact hs_eq _ _ _ | refine hs_ne (by omega) ?_ | assumption)))⟩, ?_⟩, (by simp (disch := omega) only [iu_ne])⟩
                                  first
                                    | exact (hLR.s (by omega) rfl).n (j := 2) (by decide) (by unfold mnI; simp only [iu]; (repeat' split) <;> omega)
                                    | (rw [← iu_self nu 2]
                                       refine LR.n (j := 2) (nu := nu) (hLR.s ?_ rfl) (by decide) ?_
                                       · omega
                                       · (unfold mnI; simp only [iu]; (repeat' split) <;> omega)))
                              · try (exfalso; omega)
                                all_goals (
                                  refine k_aload_n C dL_hands_182 rfl ?_
                                  refine k_iconst C dL_hands_183 ?_
                                  refine k_aload C dL_hands_184 rfl ?_
                                  refine k_iconst C dL_hands_186 ?_
                                  refine k_iaload C dL_hands_187 (by repeat (first | exact hs_eq _ _ _ | refine hs_ne (by omega) ?_ | assumption)) (by omega) (by omega) (by omega) ?_
                                  try simp (disch := omega) only [hs_hs, iu_ne, iu_eq]
                                  refine k_iastore C dL_hands_188 (by repeat (first | exact hs_eq _ _ _ | refine hs_ne (by omega) ?_ | assumption)) (by omega) (by omega) (by omega) ?_
                                  refine k_aload_n C dL_hands_189 rfl ?_
                                  refine k_iload C dL_hands_190 rfl ?_
                                  refine k_aload C dL_hands_192 rfl ?_
                                  refine k_iload C dL_hands_194 rfl ?_
                                  refine k_iaload C dL_hands_196 (by repeat (first | exact hs_eq _ _ _ | refine hs_ne (by omega) ?_ | assumption)) (by omega) (by omega) (by omega) ?_
                                  try simp (disch := omega) only [hs_hs, iu_ne, iu_eq]
                                  refine k_callV C (n := 2) (as := [_, _]) (ct_X7_set l D tc base rc _ _ _ _ _ _ (hX.fr (fun aaa a0 a1 => by repeat (first | rfl | refine hs_ne (by omega) ?_))) _ _ (by omega) ⟨fun q => by omega, fun q => by omega, fun q => by omega, fun q => by omega, fun q => by omega, fun q => by omega⟩) ml_L_35 im_X7_set se_X7_set ini_X7 co_X7_set ⟨rfl, by decide, by decide, by decide +kernel⟩ rfl (ci := 7) rfl (by repeat (first | exact hs_eq _ _ _ | refine hs_ne (by omega) ?_ | assumption)) ⟨by decide, by decide⟩ rfl (Nat.le_of_ble_eq_true rfl) ⟨Nat.zero_le _, Nat.zero_le _⟩ dL_hands_197 ?_
                                  rintro _ hw ⟨rfl, hXw, hFw⟩
                                  refine k_iload C dL_hands_200 rfl ?_
                                  refine k_icmp_neE (tgt := 209) C dL_hands_202 (by decide) (es _ (by omega) (by omega)).symm ?_
                                  refine k_iconst C dL_hands_205 ?_
                                  refine k_goto (tgt := 210) C dL_hands_206 (by decide) ?_
                                  refine k_zret C hr dL_hands_210 (by omega) ?_
                                  refine ⟨_, _, rfl, hXw, ⟨_, _, _, _, _, ⟨((hFw _ (by omega)).trans (by repeat (first | exact hs_eq _ _ _ | refine hs_ne (by omega) ?_ | assumption))), ((hFw _ (by omega)).trans (by repeat (first | exact hs_eq _ _ _ | refine hs_ne (by omega) ?_ | assumption))), ((hFw _ (by omega)).trans (by repeat (first | exact hs_eq _ _ _ | refine hs_ne (by omega) ?_ | assumption))), ((hFw _ (by omega)).trans (by repeat (first | exact hs_eq _ _ _ | refine hs_ne (by omega) ?_ | assumption))), ((hFw _ (by omega)).trans (by repeat (first | exact hs_eq _ _ _ | refine hs_ne (by omega) ?_ | assumption)))⟩, ?_⟩, (by simp (disch := omega) only [iu_ne])⟩
                                  first
                                    | exact (hLR.s (by omega) rfl).n (j := 2) (by decide) (by unfold mnI; simp only [iu]; (repeat' split) <;> omega)
                                    | (rw [← iu_self nu 2]
                                       refine LR.n (j := 2) (nu := nu) (hLR.s ?_ rfl) (by decide) ?_
                                       · omega
                                       · (unfold mnI; simp only [iu]; (repeat' split) <;> omega))))
                          · try (exfalso; omega)
                            all_goals (
                              refine k_bipush C dL_hands_135 (by decide +kernel) ?_
                              refine k_goto (tgt := 142) C dL_hands_137 (by decide) ?_
                              refine k_istore C dL_hands_142 (by decide) rfl ?_
                              refine k_aload C dL_hands_144 rfl ?_
                              refine k_iload C dL_hands_146 rfl ?_
                              refine k_iaload C dL_hands_148 (by repeat (first | exact hs_eq _ _ _ | refine hs_ne (by omega) ?_ | assumption)) (by omega) (by omega) (by omega) ?_
                              refine k_istore C dL_hands_149 (by decide) rfl ?_
                              refine k_aload C dL_hands_151 rfl ?_
                              refine k_iload C dL_hands_153 rfl ?_
                              refine k_iload C dL_hands_155 rfl ?_
                              refine k_iload_n C dL_hands_157 rfl ?_
                              refine k_iconst C dL_hands_158 ?_
                              refine k_ishrO C dL_hands_159 (fun v159 => ?_)
                              refine k_iload C dL_hands_160 rfl ?_
                              refine k_iload C dL_hands_162 rfl ?_
                              refine k_isub C dL_hands_164 ?_
                              refine k_iconst C dL_hands_165 ?_
                              refine k_iadd C dL_hands_166 ?_
                              refine k_callS C (n := 2) (as := [_, _]) (ct_L_at l D tc base _ _ _ (by omega)) ml_L_26 sm_L_at ini_L co_L_at ⟨by decide, by decide, by decide +kernel⟩ rfl ⟨by decide, by decide⟩ rfl (Nat.le_of_ble_eq_true rfl) ⟨Nat.zero_le _, Nat.zero_le _⟩ dL_hands_167 ?_
                              rintro _ _ ⟨⟨v167, rfl, p167, q167⟩, rfl⟩
                              refine k_iadd C dL_hands_170 ?_
                              refine k_iastore C dL_hands_171 (by repeat (first | exact hs_eq _ _ _ | refine hs_ne (by omega) ?_ | assumption)) (by omega) (by omega) (by omega) ?_
                              refine k_aload_n C dL_hands_172 rfl ?_
                              refine k_iconst C dL_hands_173 ?_
                              refine k_iaload C dL_hands_174 (by repeat (first | exact hs_eq _ _ _ | refine hs_ne (by omega) ?_ | assumption)) (by omega) (by omega) (by omega) ?_
                              try simp (disch := omega) only [hs_hs, iu_ne, iu_eq]
                              refine k_aload C dL_hands_175 rfl ?_
                              refine k_iconst C dL_hands_177 ?_
                              refine k_iaload C dL_hands_178 (by repeat (first | exact hs_eq _ _ _ | refine hs_ne (by omega) ?_ | assumption)) (by omega) (by omega) (by omega) ?_
                              try simp (disch := omega) only [hs_hs, iu_ne, iu_eq]
                              refine k_icmp_le (tgt := 189) C dL_hands_179 (by decide) ⟨by omega, by omega⟩ ⟨by omega, by omega⟩ (fun c179 => ?_) (fun c179 => ?_)
                              · try (exfalso; omega)
                                all_goals (
                                  refine k_aload_n C dL_hands_189 rfl ?_
                                  refine k_iload C dL_hands_190 rfl ?_
                                  refine k_aload C dL_hands_192 rfl ?_
                                  refine k_iload C dL_hands_194 rfl ?_
                                  refine k_iaload C dL_hands_196 (by repeat (first | exact hs_eq _ _ _ | refine hs_ne (by omega) ?_ | assumption)) (by omega) (by omega) (by omega) ?_
                                  try simp (disch := omega) only [hs_hs, iu_ne, iu_eq]
                                  refine k_callV C (n := 2) (as := [_, _]) (ct_X7_set l D tc base rc _ _ _ _ _ _ (hX.fr (fun aaa a0 a1 => by repeat (first | rfl | refine hs_ne (by omega) ?_))) _ _ (by omega) ⟨fun q => by omega, fun q => by omega, fun q => by omega, fun q => by omega, fun q => by omega, fun q => by omega⟩) ml_L_35 im_X7_set se_X7_set ini_X7 co_X7_set ⟨rfl, by decide, by decide, by decide +kernel⟩ rfl (ci := 7) rfl (by repeat (first | exact hs_eq _ _ _ | refine hs_ne (by omega) ?_ | assumption)) ⟨by decide, by decide⟩ rfl (Nat.le_of_ble_eq_true rfl) ⟨Nat.zero_le _, Nat.zero_le _⟩ dL_hands_197 ?_
                                  rintro _ hw ⟨rfl, hXw, hFw⟩
                                  refine k_iload C dL_hands_200 rfl ?_
                                  refine k_icmp_neE (tgt := 209) C dL_hands_202 (by decide) (es _ (by omega) (by omega)).symm ?_
                                  refine k_iconst C dL_hands_205 ?_
                                  refine k_goto (tgt := 210) C dL_hands_206 (by decide) ?_
                                  refine k_zret C hr dL_hands_210 (by omega) ?_
                                  refine ⟨_, _, rfl, hXw, ⟨_, _, _, _, _, ⟨((hFw _ (by omega)).trans (by repeat (first | exact hs_eq _ _ _ | refine hs_ne (by omega) ?_ | assumption))), ((hFw _ (by omega)).trans (by repeat (first | exact hs_eq _ _ _ | refine hs_ne (by omega) ?_ | assumption))), ((hFw _ (by omega)).trans (by repeat (first | exact hs_eq _ _ _ | refine hs_ne (by omega) ?_ | assumption))), ((hFw _ (by omega)).trans (by repeat (first | exact hs_eq _ _ _ | refine hs_ne (by omega) ?_ | assumption))), ((hFw _ (by omega)).trans (by repeat (first | exact hs_eq _ _ _ | refine hs_ne (by omega) ?_ | assumption)))⟩, ?_⟩, (by simp (disch := omega) only [iu_ne])⟩
                                  first
                                    | exact (hLR.s (by omega) rfl).n (j := 2) (by decide) (by unfold mnI; simp only [iu]; (repeat' split) <;> omega)
                                    | (rw [← iu_self nu 2]
                                       refine LR.n (j := 2) (nu := nu) (hLR.s ?_ rfl) (by decide) ?_
                                       · omega
                                       · (unfold mnI; simp only [iu]; (repeat' split) <;> omega)))
                              · try (exfalso; omega)
                                all_goals (
                                  refine k_aload_n C dL_hands_182 rfl ?_
                                  refine k_iconst C dL_hands_183 ?_
                                  refine k_aload C dL_hands_184 rfl ?_
                                  refine k_iconst C dL_hands_186 ?_
                                  refine k_iaload C dL_hands_187 (by repeat (first | exact hs_eq _ _ _ | refine hs_ne (by omega) ?_ | assumption)) (by omega) (by omega) (by omega) ?_
                                  try simp (disch := omega) only [hs_hs, iu_ne, iu_eq]
                                  refine k_iastore C dL_hands_188 (by repeat (first | exact hs_eq _ _ _ | refine hs_ne (by omega) ?_ | assumption)) (by omega) (by omega) (by omega) ?_
                                  refine k_aload_n C dL_hands_189 rfl ?_
                                  refine k_iload C dL_hands_190 rfl ?_
                                  refine k_aload C dL_hands_192 rfl ?_
                                  refine k_iload C dL_hands_194 rfl ?_
                                  refine k_iaload C dL_hands_196 (by repeat (first | exact hs_eq _ _ _ | refine hs_ne (by omega) ?_ | assumption)) (by omega) (by omega) (by omega) ?_
                                  try simp (disch := omega) only [hs_hs, iu_ne, iu_eq]
                                  refine k_callV C (n := 2) (as := [_, _]) (ct_X7_set l D tc base rc _ _ _ _ _ _ (hX.fr (fun aaa a0 a1 => by repeat (first | rfl | refine hs_ne (by omega) ?_))) _ _ (by omega) ⟨fun q => by omega, fun q => by omega, fun q => by omega, fun q => by omega, fun q => by omega, fun q => by omega⟩) ml_L_35 im_X7_set se_X7_set ini_X7 co_X7_set ⟨rfl, by decide, by decide, by decide +kernel⟩ rfl (ci := 7) rfl (by repeat (first | exact hs_eq _ _ _ | refine hs_ne (by omega) ?_ | assumption)) ⟨by decide, by decide⟩ rfl (Nat.le_of_ble_eq_true rfl) ⟨Nat.zero_le _, Nat.zero_le _⟩ dL_hands_197 ?_
                                  rintro _ hw ⟨rfl, hXw, hFw⟩
                                  refine k_iload C dL_hands_200 rfl ?_
                                  refine k_icmp_neE (tgt := 209) C dL_hands_202 (by decide) (es _ (by omega) (by omega)).symm ?_
                                  refine k_iconst C dL_hands_205 ?_
                                  refine k_goto (tgt := 210) C dL_hands_206 (by decide) ?_
                                  refine k_zret C hr dL_hands_210 (by omega) ?_
                                  refine ⟨_, _, rfl, hXw, ⟨_, _, _, _, _, ⟨((hFw _ (by omega)).trans (by repeat (first | exact hs_eq _ _ _ | refine hs_ne (by omega) ?_ | assumption))), ((hFw _ (by omega)).trans (by repeat (first | exact hs_eq _ _ _ | refine hs_ne (by omega) ?_ | assumption))), ((hFw _ (by omega)).trans (by repeat (first | exact hs_eq _ _ _ | refine hs_ne (by omega) ?_ | assumption))), ((hFw _ (by omega)).trans (by repeat (first | exact hs_eq _ _ _ | refine hs_ne (by omega) ?_ | assumption))), ((hFw _ (by omega)).trans (by repeat (first | exact hs_eq _ _ _ | refine hs_ne (by omega) ?_ | assumption)))⟩, ?_⟩, (by simp (disch := omega) only [iu_ne])⟩
                                  first
                                    | exact (hLR.s (by omega) rfl).n (j := 2) (by decide) (by unfold mnI; simp only [iu]; (repeat' split) <;> omega)
                                    | (rw [← iu_self nu 2]
                                       refine LR.n (j := 2) (nu := nu) (hLR.s ?_ rfl) (by decide) ?_
                                       · omega
                                       · (unfold mnI; simp only [iu]; (repeat' split) <;> omega)))))
                      · try (exfalso; omega)
                        all_goals (
                          refine k_bipush C dL_hands_124 (by decide +kernel) ?_
                          refine k_goto (tgt := 142) C dL_hands_126 (by decide) ?_
                          refine k_istore C dL_hands_142 (by decide) rfl ?_
                          refine k_aload C dL_hands_144 rfl ?_
                          refine k_iload C dL_hands_146 rfl ?_
                          refine k_iaload C dL_hands_148 (by repeat (first | exact hs_eq _ _ _ | refine hs_ne (by omega) ?_ | assumption)) (by omega) (by omega) (by omega) ?_
                          refine k_istore C dL_hands_149 (by decide) rfl ?_
                          refine k_aload C dL_hands_151 rfl ?_
                          refine k_iload C dL_hands_153 rfl ?_
                          refine k_iload C dL_hands_155 rfl ?_
                          refine k_iload_n C dL_hands_157 rfl ?_
                          refine k_iconst C dL_hands_158 ?_
                          refine k_ishrO C dL_hands_159 (fun v159 => ?_)
                          refine k_iload C dL_hands_160 rfl ?_
                          refine k_iload C dL_hands_162 rfl ?_
                          refine k_isub C dL_hands_164 ?_
                          refine k_iconst C dL_hands_165 ?_
                          refine k_iadd C dL_hands_166 ?_
                          refine k_callS C (n := 2) (as := [_, _]) (ct_L_at l D tc base _ _ _ (by omega)) ml_L_26 sm_L_at ini_L co_L_at ⟨by decide, by decide, by decide +kernel⟩ rfl ⟨by decide, by decide⟩ rfl (Nat.le_of_ble_eq_true rfl) ⟨Nat.zero_le _, Nat.zero_le _⟩ dL_hands_167 ?_
                          rintro _ _ ⟨⟨v167, rfl, p167, q167⟩, rfl⟩
                          refine k_iadd C dL_hands_170 ?_
                          refine k_iastore C dL_hands_171 (by repeat (first | exact hs_eq _ _ _ | refine hs_ne (by omega) ?_ | assumption)) (by omega) (by omega) (by omega) ?_
                          refine k_aload_n C dL_hands_172 rfl ?_
                          refine k_iconst C dL_hands_173 ?_
                          refine k_iaload C dL_hands_174 (by repeat (first | exact hs_eq _ _ _ | refine hs_ne (by omega) ?_ | assumption)) (by omega) (by omega) (by omega) ?_
                          try simp (disch := omega) only [hs_hs, iu_ne, iu_eq]
                          refine k_aload C dL_hands_175 rfl ?_
                          refine k_iconst C dL_hands_177 ?_
                          refine k_iaload C dL_hands_178 (by repeat (first | exact hs_eq _ _ _ | refine hs_ne (by omega) ?_ | assumption)) (by omega) (by omega) (by omega) ?_
                          try simp (disch := omega) only [hs_hs, iu_ne, iu_eq]
                          refine k_icmp_le (tgt := 189) C dL_hands_179 (by decide) ⟨by omega, by omega⟩ ⟨by omega, by omega⟩ (fun c179 => ?_) (fun c179 => ?_)
                          · try (exfalso; omega)
                            all_goals (
                              refine k_aload_n C dL_hands_189 rfl ?_
                              refine k_iload C dL_hands_190 rfl ?_
                              refine k_aload C dL_hands_192 rfl ?_
                              refine k_iload C dL_hands_194 rfl ?_
                              refine k_iaload C dL_hands_196 (by repeat (first | exact hs_eq _ _ _ | refine hs_ne (by omega) ?_ | assumption)) (by omega) (by omega) (by omega) ?_
                              try simp (disch := omega) only [hs_hs, iu_ne, iu_eq]
                              refine k_callV C (n := 2) (as := [_, _]) (ct_X7_set l D tc base rc _ _ _ _ _ _ (hX.fr (fun aaa a0 a1 => by repeat (first | rfl | refine hs_ne (by omega) ?_))) _ _ (by omega) ⟨fun q => by omega, fun q => by omega, fun q => by omega, fun q => by omega, fun q => by omega, fun q => by omega⟩) ml_L_35 im_X7_set se_X7_set ini_X7 co_X7_set ⟨rfl, by decide, by decide, by decide +kernel⟩ rfl (ci := 7) rfl (by repeat (first | exact hs_eq _ _ _ | refine hs_ne (by omega) ?_ | assumption)) ⟨by decide, by decide⟩ rfl (Nat.le_of_ble_eq_true rfl) ⟨Nat.zero_le _, Nat.zero_le _⟩ dL_hands_197 ?_
                              rintro _ hw ⟨rfl, hXw, hFw⟩
                              refine k_iload C dL_hands_200 rfl ?_
                              refine k_icmp_neE (tgt := 209) C dL_hands_202 (by decide) (es _ (by omega) (by omega)).symm ?_
                              refine k_iconst C dL_hands_205 ?_
                              refine k_goto (tgt := 210) C dL_hands_206 (by decide) ?_
                              refine k_zret C hr dL_hands_210 (by omega) ?_
                              refine ⟨_, _, rfl, hXw, ⟨_, _, _, _, _, ⟨((hFw _ (by omega)).trans (by repeat (first | exact hs_eq _ _ _ | refine hs_ne (by omega) ?_ | assumption))), ((hFw _ (by omega)).trans (by repeat (first | exact hs_eq _ _ _ | refine hs_ne (by omega) ?_ | assumption))), ((hFw _ (by omega)).trans (by repeat (first | exact hs_eq _ _ _ | refine hs_ne (by omega) ?_ | assumption))), ((hFw _ (by omega)).trans (by repeat (first | exact hs_eq _ _ _ | refine hs_ne (by omega) ?_ | assumption))), ((hFw _ (by omega)).trans (by repeat (first | exact hs_eq _ _ _ | refine hs_ne (by omega) ?_ | assumption)))⟩, ?_⟩, (by simp (disch := omega) only [iu_ne])⟩
                              first
                                | exact (hLR.s (by omega) rfl).n (j := 2) (by decide) (by unfold mnI; simp only [iu]; (repeat' split) <;> omega)
                                | (rw [← iu_self nu 2]
                                   refine LR.n (j := 2) (nu := nu) (hLR.s ?_ rfl) (by decide) ?_
                                   · omega
                                   · (unfold mnI; simp only [iu]; (repeat' split) <;> omega)))
                          · try (exfalso; omega)
                            all_goals (
                              refine k_aload_n C dL_hands_182 rfl ?_
                              refine k_iconst C dL_hands_183 ?_
                              refine k_aload C dL_hands_184 rfl ?_
                              refine k_iconst C dL_hands_186 ?_
                              refine k_iaload C dL_hands_187 (by repeat (first | exact hs_eq _ _ _ | refine hs_ne (by omega) ?_ | assumption)) (by omega) (by omega) (by omega) ?_
                              try simp (disch := omega) only [hs_hs, iu_ne, iu_eq]
                              refine k_iastore C dL_hands_188 (by repeat (first | exact hs_eq _ _ _ | refine hs_ne (by omega) ?_ | assumption)) (by omega) (by omega) (by omega) ?_
                              refine k_aload_n C dL_hands_189 rfl ?_
                              refine k_iload C dL_hands_190 rfl ?_
                              refine k_aload C dL_hands_192 rfl ?_
                              refine k_iload C dL_hands_194 rfl ?_
                              refine k_iaload C dL_hands_196 (by repeat (first | exact hs_eq _ _ _ | refine hs_ne (by omega) ?_ | assumption)) (by omega) (by omega) (by omega) ?_
                              try simp (disch := omega) only [hs_hs, iu_ne, iu_eq]
                              refine k_callV C (n := 2) (as := [_, _]) (ct_X7_set l D tc base rc _ _ _ _ _ _ (hX.fr (fun aaa a0 a1 => by repeat (first | rfl | refine hs_ne (by omega) ?_))) _ _ (by omega) ⟨fun q => by omega, fun q => by omega, fun q => by omega, fun q => by omega, fun q => by omega, fun q => by omega⟩) ml_L_35 im_X7_set se_X7_set ini_X7 co_X7_set ⟨rfl, by decide, by decide, by decide +kernel⟩ rfl (ci := 7) rfl (by repeat (first | exact hs_eq _ _ _ | refine hs_ne (by omega) ?_ | assumption)) ⟨by decide, by decide⟩ rfl (Nat.le_of_ble_eq_true rfl) ⟨Nat.zero_le _, Nat.zero_le _⟩ dL_hands_197 ?_
                              rintro _ hw ⟨rfl, hXw, hFw⟩
                              refine k_iload C dL_hands_200 rfl ?_
                              refine k_icmp_neE (tgt := 209) C dL_hands_202 (by decide) (es _ (by omega) (by omega)).symm ?_
                              refine k_iconst C dL_hands_205 ?_
                              refine k_goto (tgt := 210) C dL_hands_206 (by decide) ?_
                              refine k_zret C hr dL_hands_210 (by omega) ?_
                              refine ⟨_, _, rfl, hXw, ⟨_, _, _, _, _, ⟨((hFw _ (by omega)).trans (by repeat (first | exact hs_eq _ _ _ | refine hs_ne (by omega) ?_ | assumption))), ((hFw _ (by omega)).trans (by repeat (first | exact hs_eq _ _ _ | refine hs_ne (by omega) ?_ | assumption))), ((hFw _ (by omega)).trans (by repeat (first | exact hs_eq _ _ _ | refine hs_ne (by omega) ?_ | assumption))), ((hFw _ (by omega)).trans (by repeat (first | exact hs_eq _ _ _ | refine hs_ne (by omega) ?_ | assumption))), ((hFw _ (by omega)).trans (by repeat (first | exact hs_eq _ _ _ | refine hs_ne (by omega) ?_ | assumption)))⟩, ?_⟩, (by simp (disch := omega) only [iu_ne])⟩
                              first
                                | exact (hLR.s (by omega) rfl).n (j := 2) (by decide) (by unfold mnI; simp only [iu]; (repeat' split) <;> omega)
                                | (rw [← iu_self nu 2]
                                   refine LR.n (j := 2) (nu := nu) (hLR.s ?_ rfl) (by decide) ?_
                                   · omega
                                   · (unfold mnI; simp only [iu]; (repeat' split) <;> omega)))))
                  · try (exfalso; omega)
                    all_goals (
                      refine k_iconst C dL_hands_112 ?_
                      refine k_goto (tgt := 117) C dL_hands_113 (by decide) ?_
                      refine k_istore C dL_hands_117 (by decide) rfl ?_
                      refine k_iload C dL_hands_119 rfl ?_
                      refine k_if_ne (tgt := 129) C dL_hands_121 (by decide) ⟨by omega, by omega⟩ (fun c121 => ?_) (fun c121 => ?_)
                      · try (exfalso; omega)
                        all_goals (
                          refine k_iload C dL_hands_129 rfl ?_
                          refine k_iconst C dL_hands_131 ?_
                          refine k_icmp_ge (tgt := 140) C dL_hands_132 (by decide) ⟨by omega, by omega⟩ ⟨by omega, by omega⟩ (fun c132 => ?_) (fun c132 => ?_)
                          · try (exfalso; omega)
                            all_goals (
                              refine k_bipush C dL_hands_140 (by decide +kernel) ?_
                              refine k_istore C dL_hands_142 (by decide) rfl ?_
                              refine k_aload C dL_hands_144 rfl ?_
                              refine k_iload C dL_hands_146 rfl ?_
                              refine k_iaload C dL_hands_148 (by repeat (first | exact hs_eq _ _ _ | refine hs_ne (by omega) ?_ | assumption)) (by omega) (by omega) (by omega) ?_
                              refine k_istore C dL_hands_149 (by decide) rfl ?_
                              refine k_aload C dL_hands_151 rfl ?_
                              refine k_iload C dL_hands_153 rfl ?_
                              refine k_iload C dL_hands_155 rfl ?_
                              refine k_iload_n C dL_hands_157 rfl ?_
                              refine k_iconst C dL_hands_158 ?_
                              refine k_ishrO C dL_hands_159 (fun v159 => ?_)
                              refine k_iload C dL_hands_160 rfl ?_
                              refine k_iload C dL_hands_162 rfl ?_
                              refine k_isub C dL_hands_164 ?_
                              refine k_iconst C dL_hands_165 ?_
                              refine k_iadd C dL_hands_166 ?_
                              refine k_callS C (n := 2) (as := [_, _]) (ct_L_at l D tc base _ _ _ (by omega)) ml_L_26 sm_L_at ini_L co_L_at ⟨by decide, by decide, by decide +kernel⟩ rfl ⟨by decide, by decide⟩ rfl (Nat.le_of_ble_eq_true rfl) ⟨Nat.zero_le _, Nat.zero_le _⟩ dL_hands_167 ?_
                              rintro _ _ ⟨⟨v167, rfl, p167, q167⟩, rfl⟩
                              refine k_iadd C dL_hands_170 ?_
                              refine k_iastore C dL_hands_171 (by repeat (first | exact hs_eq _ _ _ | refine hs_ne (by omega) ?_ | assumption)) (by omega) (by omega) (by omega) ?_
                              refine k_aload_n C dL_hands_172 rfl ?_
                              refine k_iconst C dL_hands_173 ?_
                              refine k_iaload C dL_hands_174 (by repeat (first | exact hs_eq _ _ _ | refine hs_ne (by omega) ?_ | assumption)) (by omega) (by omega) (by omega) ?_
                              try simp (disch := omega) only [hs_hs, iu_ne, iu_eq]
                              refine k_aload C dL_hands_175 rfl ?_
                              refine k_iconst C dL_hands_177 ?_
                              refine k_iaload C dL_hands_178 (by repeat (first | exact hs_eq _ _ _ | refine hs_ne (by omega) ?_ | assumption)) (by omega) (by omega) (by omega) ?_
                              try simp (disch := omega) only [hs_hs, iu_ne, iu_eq]
                              refine k_icmp_le (tgt := 189) C dL_hands_179 (by decide) ⟨by omega, by omega⟩ ⟨by omega, by omega⟩ (fun c179 => ?_) (fun c179 => ?_)
                              · try (exfalso; omega)
                                all_goals (
                                  refine k_aload_n C dL_hands_189 rfl ?_
                                  refine k_iload C dL_hands_190 rfl ?_
                                  refine k_aload C dL_hands_192 rfl ?_
                                  refine k_iload C dL_hands_194 rfl ?_
                                  refine k_iaload C dL_hands_196 (by repeat (first | exact hs_eq _ _ _ | refine hs_ne (by omega) ?_ | assumption)) (by omega) (by omega) (by omega) ?_
                                  try simp (disch := omega) only [hs_hs, iu_ne, iu_eq]
                                  refine k_callV C (n := 2) (as := [_, _]) (ct_X7_set l D tc base rc _ _ _ _ _ _ (hX.fr (fun aaa a0 a1 => by repeat (first | rfl | refine hs_ne (by omega) ?_))) _ _ (by omega) ⟨fun q => by omega, fun q => by omega, fun q => by omega, fun q => by omega, fun q => by omega, fun q => by omega⟩) ml_L_35 im_X7_set se_X7_set ini_X7 co_X7_set ⟨rfl, by decide, by decide, by decide +kernel⟩ rfl (ci := 7) rfl (by repeat (first | exact hs_eq _ _ _ | refine hs_ne (by omega) ?_ | assumption)) ⟨by decide, by decide⟩ rfl (Nat.le_of_ble_eq_true rfl) ⟨Nat.zero_le _, Nat.zero_le _⟩ dL_hands_197 ?_
                                  rintro _ hw ⟨rfl, hXw, hFw⟩
                                  refine k_iload C dL_hands_200 rfl ?_
                                  refine k_icmp_neE (tgt := 209) C dL_hands_202 (by decide) (es _ (by omega) (by omega)).symm ?_
                                  refine k_iconst C dL_hands_205 ?_
                                  refine k_goto (tgt := 210) C dL_hands_206 (by decide) ?_
                                  refine k_zret C hr dL_hands_210 (by omega) ?_
                                  refine ⟨_, _, rfl, hXw, ⟨_, _, _, _, _, ⟨((hFw _ (by omega)).trans (by repeat (first | exact hs_eq _ _ _ | refine hs_ne (by omega) ?_ | assumption))), ((hFw _ (by omega)).trans (by repeat (first | exact hs_eq _ _ _ | refine hs_ne (by omega) ?_ | assumption))), ((hFw _ (by omega)).trans (by repeat (first | exact hs_eq _ _ _ | refine hs_ne (by omega) ?_ | assumption))), ((hFw _ (by omega)).trans (by repeat (first | exact hs_eq _ _ _ | refine hs_ne (by omega) ?_ | assumption))), ((hFw _ (by omega)).trans (by repeat (first | exact hs_eq _ _ _ | refine hs_ne (by omega) ?_ | assumption)))⟩, ?_⟩, (by simp (disch := omega) only [iu_ne])⟩
                                  first
                                    | exact (hLR.s (by omega) rfl).n (j := 2) (by decide) (by unfold mnI; simp only [iu]; (repeat' split) <;> omega)
                                    | (rw [← iu_self nu 2]
                                       refine LR.n (j := 2) (nu := nu) (hLR.s ?_ rfl) (by decide) ?_
                                       · omega
                                       · (unfold mnI; simp only [iu]; (repeat' split) <;> omega)))
                              · try (exfalso; omega)
                                all_goals (
                                  refine k_aload_n C dL_hands_182 rfl ?_
                                  refine k_iconst C dL_hands_183 ?_
                                  refine k_aload C dL_hands_184 rfl ?_
                                  refine k_iconst C dL_hands_186 ?_
                                  refine k_iaload C dL_hands_187 (by repeat (first | exact hs_eq _ _ _ | refine hs_ne (by omega) ?_ | assumption)) (by omega) (by omega) (by omega) ?_
                                  try simp (disch := omega) only [hs_hs, iu_ne, iu_eq]
                                  refine k_iastore C dL_hands_188 (by repeat (first | exact hs_eq _ _ _ | refine hs_ne (by omega) ?_ | assumption)) (by omega) (by omega) (by omega) ?_
                                  refine k_aload_n C dL_hands_189 rfl ?_
                                  refine k_iload C dL_hands_190 rfl ?_
                                  refine k_aload C dL_hands_192 rfl ?_
                                  refine k_iload C dL_hands_194 rfl ?_
                                  refine k_iaload C dL_hands_196 (by repeat (first | exact hs_eq _ _ _ | refine hs_ne (by omega) ?_ | assumption)) (by omega) (by omega) (by omega) ?_
                                  try simp (disch := omega) only [hs_hs, iu_ne, iu_eq]
                                  refine k_callV C (n := 2) (as := [_, _]) (ct_X7_set l D tc base rc _ _ _ _ _ _ (hX.fr (fun aaa a0 a1 => by repeat (first | rfl | refine hs_ne (by omega) ?_))) _ _ (by omega) ⟨fun q => by omega, fun q => by omega, fun q => by omega, fun q => by omega, fun q => by omega, fun q => by omega⟩) ml_L_35 im_X7_set se_X7_set ini_X7 co_X7_set ⟨rfl, by decide, by decide, by decide +kernel⟩ rfl (ci := 7) rfl (by repeat (first | exact hs_eq _ _ _ | refine hs_ne (by omega) ?_ | assumption)) ⟨by decide, by decide⟩ rfl (Nat.le_of_ble_eq_true rfl) ⟨Nat.zero_le _, Nat.zero_le _⟩ dL_hands_197 ?_
                                  rintro _ hw ⟨rfl, hXw, hFw⟩
                                  refine k_iload C dL_hands_200 rfl ?_
                                  refine k_icmp_neE (tgt := 209) C dL_hands_202 (by decide) (es _ (by omega) (by omega)).symm ?_
                                  refine k_iconst C dL_hands_205 ?_
                                  refine k_goto (tgt := 210) C dL_hands_206 (by decide) ?_
                                  refine k_zret C hr dL_hands_210 (by omega) ?_
                                  refine ⟨_, _, rfl, hXw, ⟨_, _, _, _, _, ⟨((hFw _ (by omega)).trans (by repeat (first | exact hs_eq _ _ _ | refine hs_ne (by omega) ?_ | assumption))), ((hFw _ (by omega)).trans (by repeat (first | exact hs_eq _ _ _ | refine hs_ne (by omega) ?_ | assumption))), ((hFw _ (by omega)).trans (by repeat (first | exact hs_eq _ _ _ | refine hs_ne (by omega) ?_ | assumption))), ((hFw _ (by omega)).trans (by repeat (first | exact hs_eq _ _ _ | refine hs_ne (by omega) ?_ | assumption))), ((hFw _ (by omega)).trans (by repeat (first | exact hs_eq _ _ _ | refine hs_ne (by omega) ?_ | assumption)))⟩, ?_⟩, (by simp (disch := omega) only [iu_ne])⟩
                                  first
                                    | exact (hLR.s (by omega) rfl).n (j := 2) (by decide) (by unfold mnI; simp only [iu]; (repeat' split) <;> omega)
                                    | (rw [← iu_self nu 2]
                                       refine LR.n (j := 2) (nu := nu) (hLR.s ?_ rfl) (by decide) ?_
                                       · omega
                                       · (unfold mnI; simp only [iu]; (repeat' split) <;> omega))))
                          · try (exfalso; omega)
                            all_goals (
                              refine k_bipush C dL_hands_135 (by decide +kernel) ?_
                              refine k_goto (tgt := 142) C dL_hands_137 (by decide) ?_
                              refine k_istore C dL_hands_142 (by decide) rfl ?_
                              refine k_aload C dL_hands_144 rfl ?_
                              refine k_iload C dL_hands_146 rfl ?_
                              refine k_iaload C dL_hands_148 (by repeat (first | exact hs_eq _ _ _ | refine hs_ne (by omega) ?_ | assumption)) (by omega) (by omega) (by omega) ?_
                              refine k_istore C dL_hands_149 (by decide) rfl ?_
                              refine k_aload C dL_hands_151 rfl ?_
                              refine k_iload C dL_hands_153 rfl ?_
                              refine k_iload C dL_hands_155 rfl ?_
                              refine k_iload_n C dL_hands_157 rfl ?_
                              refine k_iconst C dL_hands_158 ?_
                              refine k_ishrO C dL_hands_159 (fun v159 => ?_)
                              refine k_iload C dL_hands_160 rfl ?_
                              refine k_iload C dL_hands_162 rfl ?_
                              refine k_isub C dL_hands_164 ?_
                              refine k_iconst C dL_hands_165 ?_
                              refine k_iadd C dL_hands_166 ?_
                              refine k_callS C (n := 2) (as := [_, _]) (ct_L_at l D tc base _ _ _ (by omega)) ml_L_26 sm_L_at ini_L co_L_at ⟨by decide, by decide, by decide +kernel⟩ rfl ⟨by decide, by decide⟩ rfl (Nat.le_of_ble_eq_true rfl) ⟨Nat.zero_le _, Nat.zero_le _⟩ dL_hands_167 ?_
                              rintro _ _ ⟨⟨v167, rfl, p167, q167⟩, rfl⟩
                              refine k_iadd C dL_hands_170 ?_
                              refine k_iastore C dL_hands_171 (by repeat (first | exact hs_eq _ _ _ | refine hs_ne (by omega) ?_ | assumption)) (by omega) (by omega) (by omega) ?_
                              refine k_aload_n C dL_hands_172 rfl ?_
                              refine k_iconst C dL_hands_173 ?_
                              refine k_iaload C dL_hands_174 (by repeat (first | exact hs_eq _ _ _ | refine hs_ne (by omega) ?_ | assumption)) (by omega) (by omega) (by omega) ?_
                              try simp (disch := omega) only [hs_hs, iu_ne, iu_eq]
                              refine k_aload C dL_hands_175 rfl ?_
                              refine k_iconst C dL_hands_177 ?_
                              refine k_iaload C dL_hands_178 (by repeat (first | exact hs_eq _ _ _ | refine hs_ne (by omega) ?_ | assumption)) (by omega) (by omega) (by omega) ?_
                              try simp (disch := omega) only [hs_hs, iu_ne, iu_eq]
                              refine k_icmp_le (tgt := 189) C dL_hands_179 (by decide) ⟨by omega, by omega⟩ ⟨by omega, by omega⟩ (fun c179 => ?_) (fun c179 => ?_)
                              · try (exfalso; omega)
                                all_goals (
                                  refine k_aload_n C dL_hands_189 rfl ?_
                                  refine k_iload C dL_hands_190 rfl ?_
                                  refine k_aload C dL_hands_192 rfl ?_
                                  refine k_iload C dL_hands_194 rfl ?_
                                  refine k_iaload C dL_hands_196 (by repeat (first | exact hs_eq _ _ _ | refine hs_ne (by omega) ?_ | assumption)) (by omega) (by omega) (by omega) ?_
                                  try simp (disch := omega) only [hs_hs, iu_ne, iu_eq]
                                  refine k_callV C (n := 2) (as := [_, _]) (ct_X7_set l D tc base rc _ _ _ _ _ _ (hX.fr (fun aaa a0 a1 => by repeat (first | rfl | refine hs_ne (by omega) ?_))) _ _ (by omega) ⟨fun q => by omega, fun q => by omega, fun q => by omega, fun q => by omega, fun q => by omega, fun q => by omega⟩) ml_L_35 im_X7_set se_X7_set ini_X7 co_X7_set ⟨rfl, by decide, by decide, by decide +kernel⟩ rfl (ci := 7) rfl (by repeat (first | exact hs_eq _ _ _ | refine hs_ne (by omega) ?_ | assumption)) ⟨by decide, by decide⟩ rfl (Nat.le_of_ble_eq_true rfl) ⟨Nat.zero_le _, Nat.zero_le _⟩ dL_hands_197 ?_
                                  rintro _ hw ⟨rfl, hXw, hFw⟩
                                  refine k_iload C dL_hands_200 rfl ?_
                                  refine k_icmp_neE (tgt := 209) C dL_hands_202 (by decide) (es _ (by omega) (by omega)).symm ?_
                                  refine k_iconst C dL_hands_205 ?_
                                  refine k_goto (tgt := 210) C dL_hands_206 (by decide) ?_
                                  refine k_zret C hr dL_hands_210 (by omega) ?_
                                  refine ⟨_, _, rfl, hXw, ⟨_, _, _, _, _, ⟨((hFw _ (by omega)).trans (by repeat (first | exact hs_eq _ _ _ | refine hs_ne (by omega) ?_ | assumption))), ((hFw _ (by omega)).trans (by repeat (first | exact hs_eq _ _ _ | refine hs_ne (by omega) ?_ | assumption))), ((hFw _ (by omega)).trans (by repeat (first | exact hs_eq _ _ _ | refine hs_ne (by omega) ?_ | assumption))), ((hFw _ (by omega)).trans (by repeat (first | exact hs_eq _ _ _ | refine hs_ne (by omega) ?_ | assumption))), ((hFw _ (by omega)).trans (by repeat (first | exact hs_eq _ _ _ | refine hs_ne (by omega) ?_ | assumption)))⟩, ?_⟩, (by simp (disch := omega) only [iu_ne])⟩
                                  first
                                    | exact (hLR.s (by omega) rfl).n (j := 2) (by decide) (by unfold mnI; simp only [iu]; (repeat' split) <;> omega)
                                    | (rw [← iu_self nu 2]
                                       refine LR.n (j := 2) (nu := nu) (hLR.s ?_ rfl) (by decide) ?_
                                       · omega
                                       · (unfold mnI; simp only [iu]; (repeat' split) <;> omega)))
                              · try (exfalso; omega)
                                all_goals (
                                  refine k_aload_n C dL_hands_182 rfl ?_
                                  refine k_iconst C dL_hands_183 ?_
                                  refine k_aload C dL_hands_184 rfl ?_
                                  refine k_iconst C dL_hands_186 ?_
                                  refine k_iaload C dL_hands_187 (by repeat (first | exact hs_eq _ _ _ | refine hs_ne (by omega) ?_ | assumption)) (by omega) (by omega) (by omega) ?_
                                  try simp (disch := omega) only [hs_hs, iu_ne, iu_eq]
                                  refine k_iastore C dL_hands_188 (by repeat (first | exact hs_eq _ _ _ | refine hs_ne (by omega) ?_ | assumption)) (by omega) (by omega) (by omega) ?_
                                  refine k_aload_n C dL_hands_189 rfl ?_
                                  refine k_iload C dL_hands_190 rfl ?_
                                  refine k_aload C dL_hands_192 rfl ?_
                                  refine k_iload C dL_hands_194 rfl ?_
                                  refine k_iaload C dL_hands_196 (by repeat (first | exact hs_eq _ _ _ | refine hs_ne (by omega) ?_ | assumption)) (by omega) (by omega) (by omega) ?_
                                  try simp (disch := omega) only [hs_hs, iu_ne, iu_eq]
                                  refine k_callV C (n := 2) (as := [_, _]) (ct_X7_set l D tc base rc _ _ _ _ _ _ (hX.fr (fun aaa a0 a1 => by repeat (first | rfl | refine hs_ne (by omega) ?_))) _ _ (by omega) ⟨fun q => by omega, fun q => by omega, fun q => by omega, fun q => by omega, fun q => by omega, fun q => by omega⟩) ml_L_35 im_X7_set se_X7_set ini_X7 co_X7_set ⟨rfl, by decide, by decide, by decide +kernel⟩ rfl (ci := 7) rfl (by repeat (first | exact hs_eq _ _ _ | refine hs_ne (by omega) ?_ | assumption)) ⟨by decide, by decide⟩ rfl (Nat.le_of_ble_eq_true rfl) ⟨Nat.zero_le _, Nat.zero_le _⟩ dL_hands_197 ?_
                                  rintro _ hw ⟨rfl, hXw, hFw⟩
                                  refine k_iload C dL_hands_200 rfl ?_
                                  refine k_icmp_neE (tgt := 209) C dL_hands_202 (by decide) (es _ (by omega) (by omega)).symm ?_
                                  refine k_iconst C dL_hands_205 ?_
                                  refine k_goto (tgt := 210) C dL_hands_206 (by decide) ?_
                                  refine k_zret C hr dL_hands_210 (by omega) ?_
                                  refine ⟨_, _, rfl, hXw, ⟨_, _, _, _, _, ⟨((hFw _ (by omega)).trans (by repeat (first | exact hs_eq _ _ _ | refine hs_ne (by omega) ?_ | assumption))), ((hFw _ (by omega)).trans (by repeat (first | exact hs_eq _ _ _ | refine hs_ne (by omega) ?_ | assumption))), ((hFw _ (by omega)).trans (by repeat (first | exact hs_eq _ _ _ | refine hs_ne (by omega) ?_ | assumption))), ((hFw _ (by omega)).trans (by repeat (first | exact hs_eq _ _ _ | refine hs_ne (by omega) ?_ | assumption))), ((hFw _ (by omega)).trans (by repeat (first | exact hs_eq _ _ _ | refine hs_ne (by omega) ?_ | assumption)))⟩, ?_⟩, (by simp (disch := omega) only [iu_ne])⟩
                                  first
                                    | exact (hLR.s (by omega) rfl).n (j := 2) (by decide) (by unfold mnI; simp only [iu]; (repeat' split) <;> omega)
                                    | (rw [← iu_self nu 2]
                                       refine LR.n (j := 2) (nu := nu) (hLR.s ?_ rfl) (by decide) ?_
                                       · omega
                                       · (unfold mnI; simp only [iu]; (repeat' split) <;> omega)))))
                      · try (exfalso; omega)
                        all_goals (
                          refine k_bipush C dL_hands_124 (by decide +kernel) ?_
                          refine k_goto (tgt := 142) C dL_hands_126 (by decide) ?_
                          refine k_istore C dL_hands_142 (by decide) rfl ?_
                          refine k_aload C dL_hands_144 rfl ?_
                          refine k_iload C dL_hands_146 rfl ?_
                          refine k_iaload C dL_hands_148 (by repeat (first | exact hs_eq _ _ _ | refine hs_ne (by omega) ?_ | assumption)) (by omega) (by omega) (by omega) ?_
                          refine k_istore C dL_hands_149 (by decide) rfl ?_
                          refine k_aload C dL_hands_151 rfl ?_
                          refine k_iload C dL_hands_153 rfl ?_
                          refine k_iload C dL_hands_155 rfl ?_
                          refine k_iload_n C dL_hands_157 rfl ?_
                          refine k_iconst C dL_hands_158 ?_
                          refine k_ishrO C dL_hands_159 (fun v159 => ?_)
                          refine k_iload C dL_hands_160 rfl ?_
                          refine k_iload C dL_hands_162 rfl ?_
                          refine k_isub C dL_hands_164 ?_
                          refine k_iconst C dL_hands_165 ?_
                          refine k_iadd C dL_hands_166 ?_
                          refine k_callS C (n := 2) (as := [_, _]) (ct_L_at l D tc base _ _ _ (by omega)) ml_L_26 sm_L_at ini_L co_L_at ⟨by decide, by decide, by decide +kernel⟩ rfl ⟨by decide, by decide⟩ rfl (Nat.le_of_ble_eq_true rfl) ⟨Nat.zero_le _, Nat.zero_le _⟩ dL_hands_167 ?_
                          rintro _ _ ⟨⟨v167, rfl, p167, q167⟩, rfl⟩
                          refine k_iadd C dL_hands_170 ?_
                          refine k_iastore C dL_hands_171 (by repeat (first | exact hs_eq _ _ _ | refine hs_ne (by omega) ?_ | assumption)) (by omega) (by omega) (by omega) ?_
                          refine k_aload_n C dL_hands_172 rfl ?_
                          refine k_iconst C dL_hands_173 ?_
                          refine k_iaload C dL_hands_174 (by repeat (first | exact hs_eq _ _ _ | refine hs_ne (by omega) ?_ | assumption)) (by omega) (by omega) (by omega) ?_
                          try simp (disch := omega) only [hs_hs, iu_ne, iu_eq]
                          refine k_aload C dL_hands_175 rfl ?_
                          refine k_iconst C dL_hands_177 ?_
                          refine k_iaload C dL_hands_178 (by repeat (first | exact hs_eq _ _ _ | refine hs_ne (by omega) ?_ | assumption)) (by omega) (by omega) (by omega) ?_
                          try simp (disch := omega) only [hs_hs, iu_ne, iu_eq]
                          refine k_icmp_le (tgt := 189) C dL_hands_179 (by decide) ⟨by omega, by omega⟩ ⟨by omega, by omega⟩ (fun c179 => ?_) (fun c179 => ?_)
                          · try (exfalso; omega)
                            all_goals (
                              refine k_aload_n C dL_hands_189 rfl ?_
                              refine k_iload C dL_hands_190 rfl ?_
                              refine k_aload C dL_hands_192 rfl ?_
                              refine k_iload C dL_hands_194 rfl ?_
                              refine k_iaload C dL_hands_196 (by repeat (first | exact hs_eq _ _ _ | refine hs_ne (by omega) ?_ | assumption)) (by omega) (by omega) (by omega) ?_
                              try simp (disch := omega) only [hs_hs, iu_ne, iu_eq]
                              refine k_callV C (n := 2) (as := [_, _]) (ct_X7_set l D tc base rc _ _ _ _ _ _ (hX.fr (fun aaa a0 a1 => by repeat (first | rfl | refine hs_ne (by omega) ?_))) _ _ (by omega) ⟨fun q => by omega, fun q => by omega, fun q => by omega, fun q => by omega, fun q => by omega, fun q => by omega⟩) ml_L_35 im_X7_set se_X7_set ini_X7 co_X7_set ⟨rfl, by decide, by decide, by decide +kernel⟩ rfl (ci := 7) rfl (by repeat (first | exact hs_eq _ _ _ | refine hs_ne (by omega) ?_ | assumption)) ⟨by decide, by decide⟩ rfl (Nat.le_of_ble_eq_true rfl) ⟨Nat.zero_le _, Nat.zero_le _⟩ dL_hands_197 ?_
                              rintro _ hw ⟨rfl, hXw, hFw⟩
                              refine k_iload C dL_hands_200 rfl ?_
                              refine k_icmp_neE (tgt := 209) C dL_hands_202 (by decide) (es _ (by omega) (by omega)).symm ?_
                              refine k_iconst C dL_hands_205 ?_
                              refine k_goto (tgt := 210) C dL_hands_206 (by decide) ?_
                              refine k_zret C hr dL_hands_210 (by omega) ?_
                              refine ⟨_, _, rfl, hXw, ⟨_, _, _, _, _, ⟨((hFw _ (by omega)).trans (by repeat (first | exact hs_eq _ _ _ | refine hs_ne (by omega) ?_ | assumption))), ((hFw _ (by omega)).trans (by repeat (first | exact hs_eq _ _ _ | refine hs_ne (by omega) ?_ | assumption))), ((hFw _ (by omega)).trans (by repeat (first | exact hs_eq _ _ _ | refine hs_ne (by omega) ?_ | assumption))), ((hFw _ (by omega)).trans (by repeat (first | exact hs_eq _ _ _ | refine hs_ne (by omega) ?_ | assumption))), ((hFw _ (by omega)).trans (by repeat (first | exact hs_eq _ _ _ | refine hs_ne (by omega) ?_ | assumption)))⟩, ?_⟩, (by simp (disch := omega) only [iu_ne])⟩
                              first
                                | exact (hLR.s (by omega) rfl).n (j := 2) (by decide) (by unfold mnI; simp only [iu]; (repeat' split) <;> omega)
                                | (rw [← iu_self nu 2]
                                   refine LR.n (j := 2) (nu := nu) (hLR.s ?_ rfl) (by decide) ?_
                                   · omega
                                   · (unfold mnI; simp only [iu]; (repeat' split) <;> omega)))
                          · try (exfalso; omega)
                            all_goals (
                              refine k_aload_n C dL_hands_182 rfl ?_
                              refine k_iconst C dL_hands_183 ?_
                              refine k_aload C dL_hands_184 rfl ?_
                              refine k_iconst C dL_hands_186 ?_
                              refine k_iaload C dL_hands_187 (by repeat (first | exact hs_eq _ _ _ | refine hs_ne (by omega) ?_ | assumption)) (by omega) (by omega) (by omega) ?_
                              try simp (disch := omega) only [hs_hs, iu_ne, iu_eq]
                              refine k_iastore C dL_hands_188 (by repeat (first | exact hs_eq _ _ _ | refine hs_ne (by omega) ?_ | assumption)) (by omega) (by omega) (by omega) ?_
                              refine k_aload_n C dL_hands_189 rfl ?_
                              refine k_iload C dL_hands_190 rfl ?_
                              refine k_aload C dL_hands_192 rfl ?_
                              refine k_iload C dL_hands_194 rfl ?_
                              refine k_iaload C dL_hands_196 (by repeat (first | exact hs_eq _ _ _ | refine hs_ne (by omega) ?_ | assumption)) (by omega) (by omega) (by omega) ?_
                              try simp (disch := omega) only [hs_hs, iu_ne, iu_eq]
                              refine k_callV C (n := 2) (as := [_, _]) (ct_X7_set l D tc base rc _ _ _ _ _ _ (hX.fr (fun aaa a0 a1 => by repeat (first | rfl | refine hs_ne (by omega) ?_))) _ _ (by omega) ⟨fun q => by omega, fun q => by omega, fun q => by omega, fun q => by omega, fun q => by omega, fun q => by omega⟩) ml_L_35 im_X7_set se_X7_set ini_X7 co_X7_set ⟨rfl, by decide, by decide, by decide +kernel⟩ rfl (ci := 7) rfl (by repeat (first | exact hs_eq _ _ _ | refine hs_ne (by omega) ?_ | assumption)) ⟨by decide, by decide⟩ rfl (Nat.le_of_ble_eq_true rfl) ⟨Nat.zero_le _, Nat.zero_le _⟩ dL_hands_197 ?_
                              rintro _ hw ⟨rfl, hXw, hFw⟩
                              refine k_iload C dL_hands_200 rfl ?_
                              refine k_icmp_neE (tgt := 209) C dL_hands_202 (by decide) (es _ (by omega) (by omega)).symm ?_
                              refine k_iconst C dL_hands_205 ?_
                              refine k_goto (tgt := 210) C dL_hands_206 (by decide) ?_
                              refine k_zret C hr dL_hands_210 (by omega) ?_
                              refine ⟨_, _, rfl, hXw, ⟨_, _, _, _, _, ⟨((hFw _ (by omega)).trans (by repeat (first | exact hs_eq _ _ _ | refine hs_ne (by omega) ?_ | assumption))), ((hFw _ (by omega)).trans (by repeat (first | exact hs_eq _ _ _ | refine hs_ne (by omega) ?_ | assumption))), ((hFw _ (by omega)).trans (by repeat (first | exact hs_eq _ _ _ | refine hs_ne (by omega) ?_ | assumption))), ((hFw _ (by omega)).trans (by repeat (first | exact hs_eq _ _ _ | refine hs_ne (by omega) ?_ | assumption))), ((hFw _ (by omega)).trans (by repeat (first | exact hs_eq _ _ _ | refine hs_ne (by omega) ?_ | assumption)))⟩, ?_⟩, (by simp (disch := omega) only [iu_ne])⟩
                              first
                                | exact (hLR.s (by omega) rfl).n (j := 2) (by decide) (by unfold mnI; simp only [iu]; (repeat' split) <;> omega)
                                | (rw [← iu_self nu 2]
                                   refine LR.n (j := 2) (nu := nu) (hLR.s ?_ rfl) (by decide) ?_
                                   · omega
                                   · (unfold mnI; simp only [iu]; (repeat' split) <;> omega)))))))
          · try (exfalso; omega)
            all_goals (
              obtain rfl : v86 = 0 := by omega
              refine k_iconst C dL_hands_96 ?_
              refine k_goto (tgt := 117) C dL_hands_97 (by decide) ?_
              refine k_istore C dL_hands_117 (by decide) rfl ?_
              refine k_iload C dL_hands_119 rfl ?_
              refine k_if_ne (tgt := 129) C dL_hands_121 (by decide) ⟨by omega, by omega⟩ (fun c121 => ?_) (fun c121 => ?_)
              · try (exfalso; omega)
                all_goals (
                  refine k_iload C dL_hands_129 rfl ?_
                  refine k_iconst C dL_hands_131 ?_
                  refine k_icmp_ge (tgt := 140) C dL_hands_132 (by decide) ⟨by omega, by omega⟩ ⟨by omega, by omega⟩ (fun c132 => ?_) (fun c132 => ?_)
                  · try (exfalso; omega)
                    all_goals (
                      refine k_bipush C dL_hands_140 (by decide +kernel) ?_
                      refine k_istore C dL_hands_142 (by decide) rfl ?_
                      refine k_aload C dL_hands_144 rfl ?_
                      refine k_iload C dL_hands_146 rfl ?_
                      refine k_iaload C dL_hands_148 (by repeat (first | exact hs_eq _ _ _ | refine hs_ne (by omega) ?_ | assumption)) (by omega) (by omega) (by omega) ?_
                      refine k_istore C dL_hands_149 (by decide) rfl ?_
                      refine k_aload C dL_hands_151 rfl ?_
                      refine k_iload C dL_hands_153 rfl ?_
                      refine k_iload C dL_hands_155 rfl ?_
                      refine k_iload_n C dL_hands_157 rfl ?_
                      refine k_iconst C dL_hands_158 ?_
                      refine k_ishrO C dL_hands_159 (fun v159 => ?_)
                      refine k_iload C dL_hands_160 rfl ?_
                      refine k_iload C dL_hands_162 rfl ?_
                      refine k_isub C dL_hands_164 ?_
                      refine k_iconst C dL_hands_165 ?_
                      refine k_iadd C dL_hands_166 ?_
                      refine k_callS C (n := 2) (as := [_, _]) (ct_L_at l D tc base _ _ _ (by omega)) ml_L_26 sm_L_at ini_L co_L_at ⟨by decide, by decide, by decide +kernel⟩ rfl ⟨by decide, by decide⟩ rfl (Nat.le_of_ble_eq_true rfl) ⟨Nat.zero_le _, Nat.zero_le _⟩ dL_hands_167 ?_
                      rintro _ _ ⟨⟨v167, rfl, p167, q167⟩, rfl⟩
                      refine k_iadd C dL_hands_170 ?_
                      refine k_iastore C dL_hands_171 (by repeat (first | exact hs_eq _ _ _ | refine hs_ne (by omega) ?_ | assumption)) (by omega) (by omega) (by omega) ?_
                      refine k_aload_n C dL_hands_172 rfl ?_
                      refine k_iconst C dL_hands_173 ?_
                      refine k_iaload C dL_hands_174 (by repeat (first | exact hs_eq _ _ _ | refine hs_ne (by omega) ?_ | assumption)) (by omega) (by omega) (by omega) ?_
                      try simp (disch := omega) only [hs_hs, iu_ne, iu_eq]
                      refine k_aload C dL_hands_175 rfl ?_
                      refine k_iconst C dL_hands_177 ?_
                      refine k_iaload C dL_hands_178 (by repeat (first | exact hs_eq _ _ _ | refine hs_ne (by omega) ?_ | assumption)) (by omega) (by omega) (by omega) ?_
                      try simp (disch := omega) only [hs_hs, iu_ne, iu_eq]
                      refine k_icmp_le (tgt := 189) C dL_hands_179 (by decide) ⟨by omega, by omega⟩ ⟨by omega, by omega⟩ (fun c179 => ?_) (fun c179 => ?_)
                      · try (exfalso; omega)
                        all_goals (
                          refine k_aload_n C dL_hands_189 rfl ?_
                          refine k_iload C dL_hands_190 rfl ?_
                          refine k_aload C dL_hands_192 rfl ?_
                          refine k_iload C dL_hands_194 rfl ?_
                          refine k_iaload C dL_hands_196 (by repeat (first | exact hs_eq _ _ _ | refine hs_ne (by omega) ?_ | assumption)) (by omega) (by omega) (by omega) ?_
                          try simp (disch := omega) only [hs_hs, iu_ne, iu_eq]
                          refine k_callV C (n := 2) (as := [_, _]) (ct_X7_set l D tc base rc _ _ _ _ _ _ (hX.fr (fun aaa a0 a1 => by repeat (first | rfl | refine hs_ne (by omega) ?_))) _ _ (by omega) ⟨fun q => by omega, fun q => by omega, fun q => by omega, fun q => by omega, fun q => by omega, fun q => by omega⟩) ml_L_35 im_X7_set se_X7_set ini_X7 co_X7_set ⟨rfl, by decide, by decide, by decide +kernel⟩ rfl (ci := 7) rfl (by repeat (first | exact hs_eq _ _ _ | refine hs_ne (by omega) ?_ | assumption)) ⟨by decide, by decide⟩ rfl (Nat.le_of_ble_eq_true rfl) ⟨Nat.zero_le _, Nat.zero_le _⟩ dL_hands_197 ?_
                          rintro _ hw ⟨rfl, hXw, hFw⟩
                          refine k_iload C dL_hands_200 rfl ?_
                          refine k_icmp_neE (tgt := 209) C dL_hands_202 (by decide) (es _ (by omega) (by omega)).symm ?_
                          refine k_iconst C dL_hands_205 ?_
                          refine k_goto (tgt := 210) C dL_hands_206 (by decide) ?_
                          refine k_zret C hr dL_hands_210 (by omega) ?_
                          refine ⟨_, _, rfl, hXw, ⟨_, _, _, _, _, ⟨((hFw _ (by omega)).trans (by repeat (first | exact hs_eq _ _ _ | refine hs_ne (by omega) ?_ | assumption))), ((hFw _ (by omega)).trans (by repeat (first | exact hs_eq _ _ _ | refine hs_ne (by omega) ?_ | assumption))), ((hFw _ (by omega)).trans (by repeat (first | exact hs_eq _ _ _ | refine hs_ne (by omega) ?_ | assumption))), ((hFw _ (by omega)).trans (by repeat (first | exact hs_eq _ _ _ | refine hs_ne (by omega) ?_ | assumption))), ((hFw _ (by omega)).trans (by repeat (first | exact hs_eq _ _ _ | refine hs_ne (by omega) ?_ | assumption)))⟩, ?_⟩, (by simp (disch := omega) only [iu_ne])⟩
                          first
                            | exact (hLR.s (by omega) rfl).n (j := 2) (by decide) (by unfold mnI; simp only [iu]; (repeat' split) <;> omega)
                            | (rw [← iu_self nu 2]
                               refine LR.n (j := 2) (nu := nu) (hLR.s ?_ rfl) (by decide) ?_
                               · omega
                               · (unfold mnI; simp only [iu]; (repeat' split) <;> omega)))
                      · try (exfalso; omega)
                        all_goals (
                          refine k_aload_n C dL_hands_182 rfl ?_
                          refine k_iconst C dL_hands_183 ?_
                          refine k_aload C dL_hands_184 rfl ?_
                          refine k_iconst C dL_hands_186 ?_
                          refine k_iaload C dL_hands_187 (by repeat (first | exact hs_eq _ _ _ | refine hs_ne (by omega) ?_ | assumption)) (by omega) (by omega) (by omega) ?_
                          try simp (disch := omega) only [hs_hs, iu_ne, iu_eq]
                          refine k_iastore C dL_hands_188 (by repeat (first | exact hs_eq _ _ _ | refine hs_ne (by omega) ?_ | assumption)) (by omega) (by omega) (by omega) ?_
                          refine k_aload_n C dL_hands_189 rfl ?_
                          refine k_iload C dL_hands_190 rfl ?_
                          refine k_aload C dL_hands_192 rfl ?_
                          refine k_iload C dL_hands_194 rfl ?_
                          refine k_iaload C dL_hands_196 (by repeat (first | exact hs_eq _ _ _ | refine hs_ne (by omega) ?_ | assumption)) (by omega) (by omega) (by omega) ?_
                          try simp (disch := omega) only [hs_hs, iu_ne, iu_eq]
                          refine k_callV C (n := 2) (as := [_, _]) (ct_X7_set l D tc base rc _ _ _ _ _ _ (hX.fr (fun aaa a0 a1 => by repeat (first | rfl | refine hs_ne (by omega) ?_))) _ _ (by omega) ⟨fun q => by omega, fun q => by omega, fun q => by omega, fun q => by omega, fun q => by omega, fun q => by omega⟩) ml_L_35 im_X7_set se_X7_set ini_X7 co_X7_set ⟨rfl, by decide, by decide, by decide +kernel⟩ rfl (ci := 7) rfl (by repeat (first | exact hs_eq _ _ _ | refine hs_ne (by omega) ?_ | assumption)) ⟨by decide, by decide⟩ rfl (Nat.le_of_ble_eq_true rfl) ⟨Nat.zero_le _, Nat.zero_le _⟩ dL_hands_197 ?_
                          rintro _ hw ⟨rfl, hXw, hFw⟩
                          refine k_iload C dL_hands_200 rfl ?_
                          refine k_icmp_neE (tgt := 209) C dL_hands_202 (by decide) (es _ (by omega) (by omega)).symm ?_
                          refine k_iconst C dL_hands_205 ?_
                          refine k_goto (tgt := 210) C dL_hands_206 (by decide) ?_
                          refine k_zret C hr dL_hands_210 (by omega) ?_
                          refine ⟨_, _, rfl, hXw, ⟨_, _, _, _, _, ⟨((hFw _ (by omega)).trans (by repeat (first | exact hs_eq _ _ _ | refine hs_ne (by omega) ?_ | assumption))), ((hFw _ (by omega)).trans (by repeat (first | exact hs_eq _ _ _ | refine hs_ne (by omega) ?_ | assumption))), ((hFw _ (by omega)).trans (by repeat (first | exact hs_eq _ _ _ | refine hs_ne (by omega) ?_ | assumption))), ((hFw _ (by omega)).trans (by repeat (first | exact hs_eq _ _ _ | refine hs_ne (by omega) ?_ | assumption))), ((hFw _ (by omega)).trans (by repeat (first | exact hs_eq _ _ _ | refine hs_ne (by omega) ?_ | assumption)))⟩, ?_⟩, (by simp (disch := omega) only [iu_ne])⟩
                          first
                            | exact (hLR.s (by omega) rfl).n (j := 2) (by decide) (by unfold mnI; simp only [iu]; (repeat' split) <;> omega)
                            | (rw [← iu_self nu 2]
                               refine LR.n (j := 2) (nu := nu) (hLR.s ?_ rfl) (by decide) ?_
                               · omega
                               · (unfold mnI; simp only [iu]; (repeat' split) <;> omega))))
                  · try (exfalso; omega)
                    all_goals (
                      refine k_bipush C dL_hands_135 (by decide +kernel) ?_
                      refine k_goto (tgt := 142) C dL_hands_137 (by decide) ?_
                      refine k_istore C dL_hands_142 (by decide) rfl ?_
                      refine k_aload C dL_hands_144 rfl ?_
                      refine k_iload C dL_hands_146 rfl ?_
                      refine k_iaload C dL_hands_148 (by repeat (first | exact hs_eq _ _ _ | refine hs_ne (by omega) ?_ | assumption)) (by omega) (by omega) (by omega) ?_
                      refine k_istore C dL_hands_149 (by decide) rfl ?_
                      refine k_aload C dL_hands_151 rfl ?_
                      refine k_iload C dL_hands_153 rfl ?_
                      refine k_iload C dL_hands_155 rfl ?_
                      refine k_iload_n C dL_hands_157 rfl ?_
                      refine k_iconst C dL_hands_158 ?_
                      refine k_ishrO C dL_hands_159 (fun v159 => ?_)
                      refine k_iload C dL_hands_160 rfl ?_
                      refine k_iload C dL_hands_162 rfl ?_
                      refine k_isub C dL_hands_164 ?_
                      refine k_iconst C dL_hands_165 ?_
                      refine k_iadd C dL_hands_166 ?_
                      refine k_callS C (n := 2) (as := [_, _]) (ct_L_at l D tc base _ _ _ (by omega)) ml_L_26 sm_L_at ini_L co_L_at ⟨by decide, by decide, by decide +kernel⟩ rfl ⟨by decide, by decide⟩ rfl (Nat.le_of_ble_eq_true rfl) ⟨Nat.zero_le _, Nat.zero_le _⟩ dL_hands_167 ?_
                      rintro _ _ ⟨⟨v167, rfl, p167, q167⟩, rfl⟩
                      refine k_iadd C dL_hands_170 ?_
                      refine k_iastore C dL_hands_171 (by repeat (first | exact hs_eq _ _ _ | refine hs_ne (by omega) ?_ | assumption)) (by omega) (by omega) (by omega) ?_
                      refine k_aload_n C dL_hands_172 rfl ?_
                      refine k_iconst C dL_hands_173 ?_
                      refine k_iaload C dL_hands_174 (by repeat (first | exact hs_eq _ _ _ | refine hs_ne (by omega) ?_ | assumption)) (by omega) (by omega) (by omega) ?_
                      try simp (disch := omega) only [hs_hs, iu_ne, iu_eq]
                      refine k_aload C dL_hands_175 rfl ?_
                      refine k_iconst C dL_hands_177 ?_
                      refine k_iaload C dL_hands_178 (by repeat (first | exact hs_eq _ _ _ | refine hs_ne (by omega) ?_ | assumption)) (by omega) (by omega) (by omega) ?_
                      try simp (disch := omega) only [hs_hs, iu_ne, iu_eq]
                      refine k_icmp_le (tgt := 189) C dL_hands_179 (by decide) ⟨by omega, by omega⟩ ⟨by omega, by omega⟩ (fun c179 => ?_) (fun c179 => ?_)
                      · try (exfalso; omega)
                        all_goals (
                          refine k_aload_n C dL_hands_189 rfl ?_
                          refine k_iload C dL_hands_190 rfl ?_
                          refine k_aload C dL_hands_192 rfl ?_
                          refine k_iload C dL_hands_194 rfl ?_
                          refine k_iaload C dL_hands_196 (by repeat (first | exact hs_eq _ _ _ | refine hs_ne (by omega) ?_ | assumption)) (by omega) (by omega) (by omega) ?_
                          try simp (disch := omega) only [hs_hs, iu_ne, iu_eq]
                          refine k_callV C (n := 2) (as := [_, _]) (ct_X7_set l D tc base rc _ _ _ _ _ _ (hX.fr (fun aaa a0 a1 => by repeat (first | rfl | refine hs_ne (by omega) ?_))) _ _ (by omega) ⟨fun q => by omega, fun q => by omega, fun q => by omega, fun q => by omega, fun q => by omega, fun q => by omega⟩) ml_L_35 im_X7_set se_X7_set ini_X7 co_X7_set ⟨rfl, by decide, by decide, by decide +kernel⟩ rfl (ci := 7) rfl (by repeat (first | exact hs_eq _ _ _ | refine hs_ne (by omega) ?_ | assumption)) ⟨by decide, by decide⟩ rfl (Nat.le_of_ble_eq_true rfl) ⟨Nat.zero_le _, Nat.zero_le _⟩ dL_hands_197 ?_
                          rintro _ hw ⟨rfl, hXw, hFw⟩
                          refine k_iload C dL_hands_200 rfl ?_
                          refine k_icmp_neE (tgt := 209) C dL_hands_202 (by decide) (es _ (by omega) (by omega)).symm ?_
                          refine k_iconst C dL_hands_205 ?_
                          refine k_goto (tgt := 210) C dL_hands_206 (by decide) ?_
                          refine k_zret C hr dL_hands_210 (by omega) ?_
                          refine ⟨_, _, rfl, hXw, ⟨_, _, _, _, _, ⟨((hFw _ (by omega)).trans (by repeat (first | exact hs_eq _ _ _ | refine hs_ne (by omega) ?_ | assumption))), ((hFw _ (by omega)).trans (by repeat (first | exact hs_eq _ _ _ | refine hs_ne (by omega) ?_ | assumption))), ((hFw _ (by omega)).trans (by repeat (first | exact hs_eq _ _ _ | refine hs_ne (by omega) ?_ | assumption))), ((hFw _ (by omega)).trans (by repeat (first | exact hs_eq _ _ _ | refine hs_ne (by omega) ?_ | assumption))), ((hFw _ (by omega)).trans (by repeat (first | exact hs_eq _ _ _ | refine hs_ne (by omega) ?_ | assumption)))⟩, ?_⟩, (by simp (disch := omega) only [iu_ne])⟩
                          first
                            | exact (hLR.s (by omega) rfl).n (j := 2) (by decide) (by unfold mnI; simp only [iu]; (repeat' split) <;> omega)
                            | (rw [← iu_self nu 2]
                               refine LR.n (j := 2) (nu := nu) (hLR.s ?_ rfl) (by decide) ?_
                               · omega
                               · (unfold mnI; simp only [iu]; (repeat' split) <;> omega)))
                      · try (exfalso; omega)
                        all_goals (
                          refine k_aload_n C dL_hands_182 rfl ?_
                          refine k_iconst C dL_hands_183 ?_
                          refine k_aload C dL_hands_184 rfl ?_
                          refine k_iconst C dL_hands_186 ?_
                          refine k_iaload C dL_hands_187 (by repeat (first | exact hs_eq _ _ _ | refine hs_ne (by omega) ?_ | assumption)) (by omega) (by omega) (by omega) ?_
                          try simp (disch := omega) only [hs_hs, iu_ne, iu_eq]
                          refine k_iastore C dL_hands_188 (by repeat (first | exact hs_eq _ _ _ | refine hs_ne (by omega) ?_ | assumption)) (by omega) (by omega) (by omega) ?_
                          refine k_aload_n C dL_hands_189 rfl ?_
                          refine k_iload C dL_hands_190 rfl ?_
                          refine k_aload C dL_hands_192 rfl ?_
                          refine k_iload C dL_hands_194 rfl ?_
                          refine k_iaload C dL_hands_196 (by repeat (first | exact hs_eq _ _ _ | refine hs_ne (by omega) ?_ | assumption)) (by omega) (by omega) (by omega) ?_
                          try simp (disch := omega) only [hs_hs, iu_ne, iu_eq]
                          refine k_callV C (n := 2) (as := [_, _]) (ct_X7_set l D tc base rc _ _ _ _ _ _ (hX.fr (fun aaa a0 a1 => by repeat (first | rfl | refine hs_ne (by omega) ?_))) _ _ (by omega) ⟨fun q => by omega, fun q => by omega, fun q => by omega, fun q => by omega, fun q => by omega, fun q => by omega⟩) ml_L_35 im_X7_set se_X7_set ini_X7 co_X7_set ⟨rfl, by decide, by decide, by decide +kernel⟩ rfl (ci := 7) rfl (by repeat (first | exact hs_eq _ _ _ | refine hs_ne (by omega) ?_ | assumption)) ⟨by decide, by decide⟩ rfl (Nat.le_of_ble_eq_true rfl) ⟨Nat.zero_le _, Nat.zero_le _⟩ dL_hands_197 ?_
                          rintro _ hw ⟨rfl, hXw, hFw⟩
                          refine k_iload C dL_hands_200 rfl ?_
                          refine k_icmp_neE (tgt := 209) C dL_hands_202 (by decide) (es _ (by omega) (by omega)).symm ?_
                          refine k_iconst C dL_hands_205 ?_
                          refine k_goto (tgt := 210) C dL_hands_206 (by decide) ?_
                          refine k_zret C hr dL_hands_210 (by omega) ?_
                          refine ⟨_, _, rfl, hXw, ⟨_, _, _, _, _, ⟨((hFw _ (by omega)).trans (by repeat (first | exact hs_eq _ _ _ | refine hs_ne (by omega) ?_ | assumption))), ((hFw _ (by omega)).trans (by repeat (first | exact hs_eq _ _ _ | refine hs_ne (by omega) ?_ | assumption))), ((hFw _ (by omega)).trans (by repeat (first | exact hs_eq _ _ _ | refine hs_ne (by omega) ?_ | assumption))), ((hFw _ (by omega)).trans (by repeat (first | exact hs_eq _ _ _ | refine hs_ne (by omega) ?_ | assumption))), ((hFw _ (by omega)).trans (by repeat (first | exact hs_eq _ _ _ | refine hs_ne (by omega) ?_ | assumption)))⟩, ?_⟩, (by simp (disch := omega) only [iu_ne])⟩
                          first
                            | exact (hLR.s (by omega) rfl).n (j := 2) (by decide) (by unfold mnI; simp only [iu]; (repeat' split) <;> omega)
                            | (rw [← iu_self nu 2]
                               refine LR.n (j := 2) (nu := nu) (hLR.s ?_ rfl) (by decide) ?_
                               · omega
                               · (unfold mnI; simp only [iu]; (repeat' split) <;> omega)))))
              · try (exfalso; omega)
                all_goals (
                  refine k_bipush C dL_hands_124 (by decide +kernel) ?_
                  refine k_goto (tgt := 142) C dL_hands_126 (by decide) ?_
                  refine k_istore C dL_hands_142 (by decide) rfl ?_
                  refine k_aload C dL_hands_144 rfl ?_
                  refine k_iload C dL_hands_146 rfl ?_
                  refine k_iaload C dL_hands_148 (by repeat (first | exact hs_eq _ _ _ | refine hs_ne (by omega) ?_ | assumption)) (by omega) (by omega) (by omega) ?_
                  refine k_istore C dL_hands_149 (by decide) rfl ?_
                  refine k_aload C dL_hands_151 rfl ?_
                  refine k_iload C dL_hands_153 rfl ?_
                  refine k_iload C dL_hands_155 rfl ?_
                  refine k_iload_n C dL_hands_157 rfl ?_
                  refine k_iconst C dL_hands_158 ?_
                  refine k_ishrO C dL_hands_159 (fun v159 => ?_)
                  refine k_iload C dL_hands_160 rfl ?_
                  refine k_iload C dL_hands_162 rfl ?_
                  refine k_isub C dL_hands_164 ?_
                  refine k_iconst C dL_hands_165 ?_
                  refine k_iadd C dL_hands_166 ?_
                  refine k_callS C (n := 2) (as := [_, _]) (ct_L_at l D tc base _ _ _ (by omega)) ml_L_26 sm_L_at ini_L co_L_at ⟨by decide, by decide, by decide +kernel⟩ rfl ⟨by decide, by decide⟩ rfl (Nat.le_of_ble_eq_true rfl) ⟨Nat.zero_le _, Nat.zero_le _⟩ dL_hands_167 ?_
                  rintro _ _ ⟨⟨v167, rfl, p167, q167⟩, rfl⟩
                  refine k_iadd C dL_hands_170 ?_
                  refine k_iastore C dL_hands_171 (by repeat (first | exact hs_eq _ _ _ | refine hs_ne (by omega) ?_ | assumption)) (by omega) (by omega) (by omega) ?_
                  refine k_aload_n C dL_hands_172 rfl ?_
                  refine k_iconst C dL_hands_173 ?_
                  refine k_iaload C dL_hands_174 (by repeat (first | exact hs_eq _ _ _ | refine hs_ne (by omega) ?_ | assumption)) (by omega) (by omega) (by omega) ?_
                  try simp (disch := omega) only [hs_hs, iu_ne, iu_eq]
                  refine k_aload C dL_hands_175 rfl ?_
                  refine k_iconst C dL_hands_177 ?_
                  refine k_iaload C dL_hands_178 (by repeat (first | exact hs_eq _ _ _ | refine hs_ne (by omega) ?_ | assumption)) (by omega) (by omega) (by omega) ?_
                  try simp (disch := omega) only [hs_hs, iu_ne, iu_eq]
                  refine k_icmp_le (tgt := 189) C dL_hands_179 (by decide) ⟨by omega, by omega⟩ ⟨by omega, by omega⟩ (fun c179 => ?_) (fun c179 => ?_)
                  · try (exfalso; omega)
                    all_goals (
                      refine k_aload_n C dL_hands_189 rfl ?_
                      refine k_iload C dL_hands_190 rfl ?_
                      refine k_aload C dL_hands_192 rfl ?_
                      refine k_iload C dL_hands_194 rfl ?_
                      refine k_iaload C dL_hands_196 (by repeat (first | exact hs_eq _ _ _ | refine hs_ne (by omega) ?_ | assumption)) (by omega) (by omega) (by omega) ?_
                      try simp (disch := omega) only [hs_hs, iu_ne, iu_eq]
                      refine k_callV C (n := 2) (as := [_, _]) (ct_X7_set l D tc base rc _ _ _ _ _ _ (hX.fr (fun aaa a0 a1 => by repeat (first | rfl | refine hs_ne (by omega) ?_))) _ _ (by omega) ⟨fun q => by omega, fun q => by omega, fun q => by omega, fun q => by omega, fun q => by omega, fun q => by omega⟩) ml_L_35 im_X7_set se_X7_set ini_X7 co_X7_set ⟨rfl, by decide, by decide, by decide +kernel⟩ rfl (ci := 7) rfl (by repeat (first | exact hs_eq _ _ _ | refine hs_ne (by omega) ?_ | assumption)) ⟨by decide, by decide⟩ rfl (Nat.le_of_ble_eq_true rfl) ⟨Nat.zero_le _, Nat.zero_le _⟩ dL_hands_197 ?_
                      rintro _ hw ⟨rfl, hXw, hFw⟩
                      refine k_iload C dL_hands_200 rfl ?_
                      refine k_icmp_neE (tgt := 209) C dL_hands_202 (by decide) (es _ (by omega) (by omega)).symm ?_
                      refine k_iconst C dL_hands_205 ?_
                      refine k_goto (tgt := 210) C dL_hands_206 (by decide) ?_
                      refine k_zret C hr dL_hands_210 (by omega) ?_
                      refine ⟨_, _, rfl, hXw, ⟨_, _, _, _, _, ⟨((hFw _ (by omega)).trans (by repeat (first | exact hs_eq _ _ _ | refine hs_ne (by omega) ?_ | assumption))), ((hFw _ (by omega)).trans (by repeat (first | exact hs_eq _ _ _ | refine hs_ne (by omega) ?_ | assumption))), ((hFw _ (by omega)).trans (by repeat (first | exact hs_eq _ _ _ | refine hs_ne (by omega) ?_ | assumption))), ((hFw _ (by omega)).trans (by repeat (first | exact hs_eq _ _ _ | refine hs_ne (by omega) ?_ | assumption))), ((hFw _ (by omega)).trans (by repeat (first | exact hs_eq _ _ _ | refine hs_ne (by omega) ?_ | assumption)))⟩, ?_⟩, (by simp (disch := omega) only [iu_ne])⟩
                      first
                        | exact (hLR.s (by omega) rfl).n (j := 2) (by decide) (by unfold mnI; simp only [iu]; (repeat' split) <;> omega)
                        | (rw [← iu_self nu 2]
                           refine LR.n (j := 2) (nu := nu) (hLR.s ?_ rfl) (by decide) ?_
                           · omega
                           · (unfold mnI; simp only [iu]; (repeat' split) <;> omega)))
                  · try (exfalso; omega)
                    all_goals (
                      refine k_aload_n C dL_hands_182 rfl ?_
                      refine k_iconst C dL_hands_183 ?_
                      refine k_aload C dL_hands_184 rfl ?_
                      refine k_iconst C dL_hands_186 ?_
                      refine k_iaload C dL_hands_187 (by repeat (first | exact hs_eq _ _ _ | refine hs_ne (by omega) ?_ | assumption)) (by omega) (by omega) (by omega) ?_
                      try simp (disch := omega) only [hs_hs, iu_ne, iu_eq]
                      refine k_iastore C dL_hands_188 (by repeat (first | exact hs_eq _ _ _ | refine hs_ne (by omega) ?_ | assumption)) (by omega) (by omega) (by omega) ?_
                      refine k_aload_n C dL_hands_189 rfl ?_
                      refine k_iload C dL_hands_190 rfl ?_
                      refine k_aload C dL_hands_192 rfl ?_
                      refine k_iload C dL_hands_194 rfl ?_
                      refine k_iaload C dL_hands_196 (by repeat (first | exact hs_eq _ _ _ | refine hs_ne (by omega) ?_ | assumption)) (by omega) (by omega) (by omega) ?_
                      try simp (disch := omega) only [hs_hs, iu_ne, iu_eq]
                      refine k_callV C (n := 2) (as := [_, _]) (ct_X7_set l D tc base rc _ _ _ _ _ _ (hX.fr (fun aaa a0 a1 => by repeat (first | rfl | refine hs_ne (by omega) ?_))) _ _ (by omega) ⟨fun q => by omega, fun q => by omega, fun q => by omega, fun q => by omega, fun q => by omega, fun q => by omega⟩) ml_L_35 im_X7_set se_X7_set ini_X7 co_X7_set ⟨rfl, by decide, by decide, by decide +kernel⟩ rfl (ci := 7) rfl (by repeat (first | exact hs_eq _ _ _ | refine hs_ne (by omega) ?_ | assumption)) ⟨by decide, by decide⟩ rfl (Nat.le_of_ble_eq_true rfl) ⟨Nat.zero_le _, Nat.zero_le _⟩ dL_hands_197 ?_
                      rintro _ hw ⟨rfl, hXw, hFw⟩
                      refine k_iload C dL_hands_200 rfl ?_
                      refine k_icmp_neE (tgt := 209) C dL_hands_202 (by decide) (es _ (by omega) (by omega)).symm ?_
                      refine k_iconst C dL_hands_205 ?_
                      refine k_goto (tgt := 210) C dL_hands_206 (by decide) ?_
                      refine k_zret C hr dL_hands_210 (by omega) ?_
                      refine ⟨_, _, rfl, hXw, ⟨_, _, _, _, _, ⟨((hFw _ (by omega)).trans (by repeat (first | exact hs_eq _ _ _ | refine hs_ne (by omega) ?_ | assumption))), ((hFw _ (by omega)).trans (by repeat (first | exact hs_eq _ _ _ | refine hs_ne (by omega) ?_ | assumption))), ((hFw _ (by omega)).trans (by repeat (first | exact hs_eq _ _ _ | refine hs_ne (by omega) ?_ | assumption))), ((hFw _ (by omega)).trans (by repeat (first | exact hs_eq _ _ _ | refine hs_ne (by omega) ?_ | assumption))), ((hFw _ (by omega)).trans (by repeat (first | exact hs_eq _ _ _ | refine hs_ne (by omega) ?_ | assumption)))⟩, ?_⟩, (by simp (disch := omega) only [iu_ne])⟩
                      first
                        | exact (hLR.s (by omega) rfl).n (j := 2) (by decide) (by unfold mnI; simp only [iu]; (repeat' split) <;> omega)
                        | (rw [← iu_self nu 2]
                           refine LR.n (j := 2) (nu := nu) (hLR.s ?_ rfl) (by decide) ?_
                           · omega
                           · (unfold mnI; simp only [iu]; (repeat' split) <;> omega)))))))
  · try (exfalso; omega)
    all_goals (
      refine k_iload_n C dL_hands_14 rfl ?_
      refine k_iconst C dL_hands_15 ?_
      refine k_callS C (n := 2) (as := [_, _]) (ct_L_at l D tc base _ _ _ (by omega)) ml_L_26 sm_L_at ini_L co_L_at ⟨by decide, by decide, by decide +kernel⟩ rfl ⟨by decide, by decide⟩ rfl (Nat.le_of_ble_eq_true rfl) ⟨Nat.zero_le _, Nat.zero_le _⟩ dL_hands_16 ?_
      rintro _ _ ⟨⟨v16, rfl, p16, q16⟩, rfl⟩
      refine k_istore C dL_hands_19 (by decide) rfl ?_
      refine k_iconst C dL_hands_21 ?_
      refine k_iload_n C dL_hands_22 rfl ?_
      refine k_iconst C dL_hands_23 ?_
      refine k_ishrO C dL_hands_24 (fun v24 => ?_)
      refine k_iload_n C dL_hands_25 rfl ?_
      refine k_bipush C dL_hands_26 (by decide +kernel) ?_
      refine k_ishrO C dL_hands_28 (fun v28 => ?_)
      refine k_iconst C dL_hands_29 ?_
      refine k_callS C (n := 2) (as := [_, _]) (ct_L_at l D tc base _ _ _ (by omega)) ml_L_26 sm_L_at ini_L co_L_at ⟨by decide, by decide, by decide +kernel⟩ rfl ⟨by decide, by decide⟩ rfl (Nat.le_of_ble_eq_true rfl) ⟨Nat.zero_le _, Nat.zero_le _⟩ dL_hands_30 ?_
      rintro _ _ ⟨⟨v30, rfl, p30, q30⟩, rfl⟩
      refine k_if_ne (tgt := 42) C dL_hands_33 (by decide) ⟨by omega, by omega⟩ (fun c33 => ?_) (fun c33 => ?_)
      · try (exfalso; omega)
        all_goals (
          refine k_bipush C dL_hands_42 (by decide +kernel) ?_
          refine k_callS C (n := 2) (as := [_, _]) (ct_L_at l D tc base _ _ _ (by omega)) ml_L_26 sm_L_at ini_L co_L_at ⟨by decide, by decide, by decide +kernel⟩ rfl ⟨by decide, by decide⟩ rfl (Nat.le_of_ble_eq_true rfl) ⟨Nat.zero_le _, Nat.zero_le _⟩ dL_hands_44 ?_
          rintro _ _ ⟨⟨v44, rfl, p44, q44⟩, rfl⟩
          refine k_iadd C dL_hands_47 ?_
          refine k_istore C dL_hands_48 (by decide) rfl ?_
          refine k_aload_n C dL_hands_50 rfl ?_
          refine k_iload C dL_hands_51 rfl ?_
          refine k_iload C dL_hands_53 rfl ?_
          refine k_callV C (n := 2) (as := [_, _]) (ct_X7_wind l D tc base rc _ _ _ _ _ _ (hX.fr (fun aaa a0 a1 => by repeat (first | rfl | refine hs_ne (by omega) ?_))) _ _ (by omega) (by omega)) ml_L_30 im_X7_wind se_X7_wind ini_X7 co_X7_wind ⟨rfl, by decide, by decide, by decide +kernel⟩ rfl (ci := 7) rfl (by repeat (first | exact hs_eq _ _ _ | refine hs_ne (by omega) ?_ | assumption)) ⟨by decide, by decide⟩ rfl (Nat.le_of_ble_eq_true rfl) ⟨Nat.zero_le _, Nat.zero_le _⟩ dL_hands_55 ?_
          rintro _ hw ⟨rfl, hXw, hFw⟩
          refine k_iload C dL_hands_58 rfl ?_
          refine k_iload C dL_hands_60 rfl ?_
          refine k_aload C dL_hands_62 rfl ?_
          refine k_callS C (n := 3) (as := [_, _, _]) (ct_L_up l D tc base an _ _ hh _ ((hFw _ (by omega)).trans (by repeat (first | exact hs_eq _ _ _ | refine hs_ne (by omega) ?_ | assumption))) (by omega) (by omega) (by rw [eh _ (by omega) (by omega)]; exact zInv_hgt hi (by omega) (by omega))) ml_L_14 sm_L_up ini_L co_L_up ⟨by decide, by decide, by decide +kernel⟩ rfl ⟨by decide, by decide⟩ rfl (Nat.le_of_ble_eq_true rfl) ⟨Nat.zero_le _, Nat.zero_le _⟩ dL_hands_64 ?_
          rintro _ _ ⟨rfl, rfl⟩
          refine k_icmp_neE (tgt := 74) C dL_hands_67 (by decide) (by unfold zMore; rw [eh _ (by omega) (by omega)]) ?_
          refine k_iconst C dL_hands_70 ?_
          refine k_goto (tgt := 75) C dL_hands_71 (by decide) ?_
          refine k_zret C hr dL_hands_75 (by omega) ?_
          exact ⟨_, _, rfl, (hXw.fr (fun aaa a0 a1 => hs_ne (by omega) rfl)), ⟨_, _, _, _, _, ⟨(by first | exact hs_eq _ _ _ | exact hs_ne (by omega) ((hFw _ (by omega)).trans (by repeat (first | exact hs_eq _ _ _ | refine hs_ne (by omega) ?_ | assumption)))), (by first | exact hs_eq _ _ _ | exact hs_ne (by omega) ((hFw _ (by omega)).trans (by repeat (first | exact hs_eq _ _ _ | refine hs_ne (by omega) ?_ | assumption)))), (by first | exact hs_eq _ _ _ | exact hs_ne (by omega) ((hFw _ (by omega)).trans (by repeat (first | exact hs_eq _ _ _ | refine hs_ne (by omega) ?_ | assumption)))), (by first | exact hs_eq _ _ _ | exact hs_ne (by omega) ((hFw _ (by omega)).trans (by repeat (first | exact hs_eq _ _ _ | refine hs_ne (by omega) ?_ | assumption)))), (by first | exact hs_eq _ _ _ | exact hs_ne (by omega) ((hFw _ (by omega)).trans (by repeat (first | exact hs_eq _ _ _ | refine hs_ne (by omega) ?_ | assumption))))⟩, hLR.wind (by omega) rfl rfl⟩, (zWind_ne (by omega) (by omega))⟩)
      · try (exfalso; omega)
        all_goals (
          refine k_sipush C dL_hands_36 (by decide +kernel) ?_
          refine k_goto (tgt := 44) C dL_hands_39 (by decide) ?_
          refine k_callS C (n := 2) (as := [_, _]) (ct_L_at l D tc base _ _ _ (by omega)) ml_L_26 sm_L_at ini_L co_L_at ⟨by decide, by decide, by decide +kernel⟩ rfl ⟨by decide, by decide⟩ rfl (Nat.le_of_ble_eq_true rfl) ⟨Nat.zero_le _, Nat.zero_le _⟩ dL_hands_44 ?_
          rintro _ _ ⟨⟨v44, rfl, p44, q44⟩, rfl⟩
          refine k_iadd C dL_hands_47 ?_
          refine k_istore C dL_hands_48 (by decide) rfl ?_
          refine k_aload_n C dL_hands_50 rfl ?_
          refine k_iload C dL_hands_51 rfl ?_
          refine k_iload C dL_hands_53 rfl ?_
          refine k_callV C (n := 2) (as := [_, _]) (ct_X7_wind l D tc base rc _ _ _ _ _ _ (hX.fr (fun aaa a0 a1 => by repeat (first | rfl | refine hs_ne (by omega) ?_))) _ _ (by omega) (by omega)) ml_L_30 im_X7_wind se_X7_wind ini_X7 co_X7_wind ⟨rfl, by decide, by decide, by decide +kernel⟩ rfl (ci := 7) rfl (by repeat (first | exact hs_eq _ _ _ | refine hs_ne (by omega) ?_ | assumption)) ⟨by decide, by decide⟩ rfl (Nat.le_of_ble_eq_true rfl) ⟨Nat.zero_le _, Nat.zero_le _⟩ dL_hands_55 ?_
          rintro _ hw ⟨rfl, hXw, hFw⟩
          refine k_iload C dL_hands_58 rfl ?_
          refine k_iload C dL_hands_60 rfl ?_
          refine k_aload C dL_hands_62 rfl ?_
          refine k_callS C (n := 3) (as := [_, _, _]) (ct_L_up l D tc base an _ _ hh _ ((hFw _ (by omega)).trans (by repeat (first | exact hs_eq _ _ _ | refine hs_ne (by omega) ?_ | assumption))) (by omega) (by omega) (by rw [eh _ (by omega) (by omega)]; exact zInv_hgt hi (by omega) (by omega))) ml_L_14 sm_L_up ini_L co_L_up ⟨by decide, by decide, by decide +kernel⟩ rfl ⟨by decide, by decide⟩ rfl (Nat.le_of_ble_eq_true rfl) ⟨Nat.zero_le _, Nat.zero_le _⟩ dL_hands_64 ?_
          rintro _ _ ⟨rfl, rfl⟩
          refine k_icmp_neE (tgt := 74) C dL_hands_67 (by decide) (by unfold zMore; rw [eh _ (by omega) (by omega)]) ?_
          refine k_iconst C dL_hands_70 ?_
          refine k_goto (tgt := 75) C dL_hands_71 (by decide) ?_
          refine k_zret C hr dL_hands_75 (by omega) ?_
          exact ⟨_, _, rfl, (hXw.fr (fun aaa a0 a1 => hs_ne (by omega) rfl)), ⟨_, _, _, _, _, ⟨(by first | exact hs_eq _ _ _ | exact hs_ne (by omega) ((hFw _ (by omega)).trans (by repeat (first | exact hs_eq _ _ _ | refine hs_ne (by omega) ?_ | assumption)))), (by first | exact hs_eq _ _ _ | exact hs_ne (by omega) ((hFw _ (by omega)).trans (by repeat (first | exact hs_eq _ _ _ | refine hs_ne (by omega) ?_ | assumption)))), (by first | exact hs_eq _ _ _ | exact hs_ne (by omega) ((hFw _ (by omega)).trans (by repeat (first | exact hs_eq _ _ _ | refine hs_ne (by omega) ?_ | assumption)))), (by first | exact hs_eq _ _ _ | exact hs_ne (by omega) ((hFw _ (by omega)).trans (by repeat (first | exact hs_eq _ _ _ | refine hs_ne (by omega) ?_ | assumption)))), (by first | exact hs_eq _ _ _ | exact hs_ne (by omega) ((hFw _ (by omega)).trans (by repeat (first | exact hs_eq _ _ _ | refine hs_ne (by omega) ?_ | assumption))))⟩, hLR.wind (by omega) rfl rfl⟩, (zWind_ne (by omega) (by omega))⟩))
