set_option maxRecDepth 20000 in
set_option maxHeartbeats 1000000 in
theorem sg_chime {D : va_G} {tc : Nat → ClassId} {base : Nat} {p : Program} {l : Launch} {e : Env} {s : State} {m : MethodId} {args : Array Value} {below : List Frame} {meth : Method} {c : Code} {Q : State → Prop} (C : Cx D tc base RL cL_minute 10 p s m args meth c) (an : Nat) (nx hh : Int → Int) (c10 ov sv qv : Int) (hpp : AH) (y0 : hpp an = some (eA 0 15 nx)) (y1 : hpp (an + 1) = some (eA 0 9 hh)) (q10 : nx 1 = c10) (r10 : 0 ≤ c10 ∧ c10 < 720) (hov : ov = 0 ∨ ov = 1) (hsv : sv = 0 ∨ sv = 1) (hqv : 0 ≤ qv ∧ qv ≤ 4) (r2 : 0 ≤ hh 2 ∧ hh 2 ≤ 200) (kend : ∀ kk cc : Int, ((¬ (¬ ov = 0 ∧ sv = 0 ∧ c10 % 15 = 0) ∧ kk = 0 ∧ cc = 0) ∨ ((¬ ov = 0 ∧ sv = 0 ∧ c10 % 15 = 0) ∧ kk = qv ∧ 0 ≤ cc ∧ cc ≤ kk ∧ 2 * cc ≤ hh 2 ∧ (cc = kk ∨ hh 2 - 2 * cc < 2))) → Wk D tc base 10 p l e (lvR 2) s m args below meth c 0 0 Q 440 [some (aR an), some (aR (an + 1)), some (aR (an + 2)), some (aR (an + 3)), some (aR (an + 4)), none, some (aI ov), some (aI sv), none, none] [] (hs (hs hpp an (eA 0 15 (iu (iu nx 7 (nx 7 + cc)) 8 (nx 8 + (kk - cc))))) (an + 1) (eA 0 9 (iu (iu hh 2 (hh 2 - 2 * cc)) 5 (hh 5 + 2 * cc))))) : Wk D tc base 10 p l e (lvR 2) s m args below meth c 0 0 Q 368 [some (aR an), some (aR (an + 1)), some (aR (an + 2)), some (aR (an + 3)), some (aR (an + 4)), none, some (aI ov), some (aI sv), some (aI qv), some (aI 0)] [] hpp := by
  have loop368 : ∀ (n : Nat) (kk cc : Int), 0 ≤ cc → cc ≤ kk → kk ≤ qv → 2 * cc ≤ hh 2 → (cc = kk ∨ hh 2 - 2 * cc < 2) → (kk = 0 ∨ (¬ ov = 0 ∧ sv = 0 ∧ c10 % 15 = 0)) → qv - kk < (n : Int) → Wk D tc base 10 p l e (lvR 2) s m args below meth c 0 0 Q 368 [some (aR an), some (aR (an + 1)), some (aR (an + 2)), some (aR (an + 3)), some (aR (an + 4)), none, some (aI ov), some (aI sv), some (aI qv), some (aI kk)] [] (hs (hs hpp an (eA 0 15 (iu (iu nx 7 (nx 7 + cc)) 8 (nx 8 + (kk - cc))))) (an + 1) (eA 0 9 (iu (iu hh 2 (hh 2 - 2 * cc)) 5 (hh 5 + 2 * cc)))) := by
    intro n
    induction n with
    | zero =>
      intro kk cc k0 k1 k2 k3 k4 k5 hmu
      exfalso
      omega
    | succ n ih =>
      intro kk cc k0 k1 k2 k3 k4 k5 hmu
      refine k_iload C dL_minute_368 rfl ?_
      refine k_if_eq (tgt := 440) C dL_minute_370 (by decide) ⟨by omega, by omega⟩ (fun c370 => ?_) (fun c370 => ?_)
      · try (exfalso; omega)
        all_goals (
          exact k_sub (kend kk cc (by omega)) ((And.intro rfl (And.intro rfl (And.intro rfl (And.intro rfl (And.intro rfl (And.intro rfl (And.intro rfl trivial)))))))))
      · try (exfalso; omega)
        all_goals (
          refine k_iload C dL_minute_373 rfl ?_
          refine k_if_ne (tgt := 440) C dL_minute_375 (by decide) ⟨by omega, by omega⟩ (fun c375 => ?_) (fun c375 => ?_)
          · try (exfalso; omega)
            all_goals (
              exact k_sub (kend kk cc (by omega)) ((And.intro rfl (And.intro rfl (And.intro rfl (And.intro rfl (And.intro rfl (And.intro rfl (And.intro rfl trivial)))))))))
          · try (exfalso; omega)
            all_goals (
              refine k_aload_n C dL_minute_378 rfl ?_
              refine k_iconst C dL_minute_379 ?_
              refine k_iaload C dL_minute_380 (by repeat (first | exact hs_eq _ _ _ | refine hs_ne (by omega) ?_ | assumption)) (by omega) (by omega) (by omega) ?_
              try simp (disch := omega) only [hs_hs, iu_ne, iu_eq]
              refine k_bipush C dL_minute_381 (by decide +kernel) ?_
              refine k_irem C dL_minute_383 (by omega) (by omega) (by omega) (by omega) ?_
              refine k_if_ne (tgt := 440) C dL_minute_384 (by decide) ⟨by omega, by omega⟩ (fun c384 => ?_) (fun c384 => ?_)
              · try (exfalso; omega)
                all_goals (
                  exact k_sub (kend kk cc (by omega)) ((And.intro rfl (And.intro rfl (And.intro rfl (And.intro rfl (And.intro rfl (And.intro rfl (And.intro rfl trivial)))))))))
              · try (exfalso; omega)
                all_goals (
                  refine k_iload C dL_minute_387 rfl ?_
                  refine k_iload C dL_minute_389 rfl ?_
                  refine k_icmp_ge (tgt := 440) C dL_minute_391 (by decide) ⟨by omega, by omega⟩ ⟨by omega, by omega⟩ (fun c391 => ?_) (fun c391 => ?_)
                  · try (exfalso; omega)
                    all_goals (
                      exact k_sub (kend kk cc (by omega)) ((And.intro rfl (And.intro rfl (And.intro rfl (And.intro rfl (And.intro rfl (And.intro rfl (And.intro rfl trivial)))))))))
                  · try (exfalso; omega)
                    all_goals (
                      refine k_aload_n C dL_minute_394 rfl ?_
                      refine k_iconst C dL_minute_395 ?_
                      refine k_iaload C dL_minute_396 (by repeat (first | exact hs_eq _ _ _ | refine hs_ne (by omega) ?_ | assumption)) (by omega) (by omega) (by omega) ?_
                      try simp (disch := omega) only [hs_hs, iu_ne, iu_eq]
                      refine k_iconst C dL_minute_397 ?_
                      refine k_icmp_ge (tgt := 412) C dL_minute_398 (by decide) ⟨by omega, by omega⟩ ⟨by omega, by omega⟩ (fun c398 => ?_) (fun c398 => ?_)
                      · try (exfalso; omega)
                        all_goals (
                          refine k_aload_n C dL_minute_412 rfl ?_
                          refine k_iconst C dL_minute_413 ?_
                          refine k_dup2 C dL_minute_414 rfl rfl ?_
                          refine k_iaload C dL_minute_415 (by repeat (first | exact hs_eq _ _ _ | refine hs_ne (by omega) ?_ | assumption)) (by omega) (by omega) (by omega) ?_
                          try simp (disch := omega) only [hs_hs, iu_ne, iu_eq]
                          refine k_iconst C dL_minute_416 ?_
                          refine k_isub C dL_minute_417 ?_
                          refine k_iastore C dL_minute_418 (by repeat (first | exact hs_eq _ _ _ | refine hs_ne (by omega) ?_ | assumption)) (by omega) (by omega) (by omega) ?_
                          refine k_aload_n C dL_minute_419 rfl ?_
                          refine k_iconst C dL_minute_420 ?_
                          refine k_dup2 C dL_minute_421 rfl rfl ?_
                          refine k_iaload C dL_minute_422 (by repeat (first | exact hs_eq _ _ _ | refine hs_ne (by omega) ?_ | assumption)) (by omega) (by omega) (by omega) ?_
                          try simp (disch := omega) only [hs_hs, iu_ne, iu_eq]
                          refine k_iconst C dL_minute_423 ?_
                          refine k_iadd C dL_minute_424 ?_
                          refine k_iastore C dL_minute_425 (by repeat (first | exact hs_eq _ _ _ | refine hs_ne (by omega) ?_ | assumption)) (by omega) (by omega) (by omega) ?_
                          refine k_aload_n C dL_minute_426 rfl ?_
                          refine k_bipush C dL_minute_427 (by decide +kernel) ?_
                          refine k_dup2 C dL_minute_429 rfl rfl ?_
                          refine k_iaload C dL_minute_430 (by repeat (first | exact hs_eq _ _ _ | refine hs_ne (by omega) ?_ | assumption)) (by omega) (by omega) (by omega) ?_
                          try simp (disch := omega) only [hs_hs, iu_ne, iu_eq]
                          refine k_iconst C dL_minute_431 ?_
                          refine k_iadd C dL_minute_432 ?_
                          refine k_iastore C dL_minute_433 (by repeat (first | exact hs_eq _ _ _ | refine hs_ne (by omega) ?_ | assumption)) (by omega) (by omega) (by omega) ?_
                          refine k_iinc C dL_minute_434 rfl (by decide) rfl ?_
                          refine k_goto (tgt := 368) C dL_minute_437 (by decide) ?_
                          first
                            | (have q1 := ih (kk + 1) cc (by omega) (by omega) (by omega) (by omega) (by omega) (by omega) (by omega)
                               rw [show nx 8 + (kk + 1 - cc) = nx 8 + (kk - cc) + 1 by omega] at q1
                               simp only [hs_hs, iu_iu]
                               rw [hs_com3 _ _ _ _ (by omega)]
                               exact q1)
                            | (have q1 := ih (kk + 1) (cc + 1) (by omega) (by omega) (by omega) (by omega) (by omega) (by omega) (by omega)
                               rw [show nx 8 + (kk + 1 - (cc + 1)) = nx 8 + (kk - cc) by omega, show nx 7 + (cc + 1) = nx 7 + cc + 1 by omega, show hh 2 - 2 * (cc + 1) = hh 2 - 2 * cc - 2 by omega, show hh 5 + 2 * (cc + 1) = hh 5 + 2 * cc + 2 by omega] at q1
                               simp only [hs_hs, iu_iu, iu_com _ _ _ _ (show (2 : Int) ≠ 5 by decide), iu_com _ _ _ _ (show (7 : Int) ≠ 8 by decide)]
                               rw [hs_com3 _ _ _ _ (by omega)]
                               exact q1))
                      · try (exfalso; omega)
                        all_goals (
                          refine k_aload_n C dL_minute_401 rfl ?_
                          refine k_bipush C dL_minute_402 (by decide +kernel) ?_
                          refine k_dup2 C dL_minute_404 rfl rfl ?_
                          refine k_iaload C dL_minute_405 (by repeat (first | exact hs_eq _ _ _ | refine hs_ne (by omega) ?_ | assumption)) (by omega) (by omega) (by omega) ?_
                          try simp (disch := omega) only [hs_hs, iu_ne, iu_eq]
                          refine k_iconst C dL_minute_406 ?_
                          refine k_iadd C dL_minute_407 ?_
                          refine k_iastore C dL_minute_408 (by repeat (first | exact hs_eq _ _ _ | refine hs_ne (by omega) ?_ | assumption)) (by omega) (by omega) (by omega) ?_
                          refine k_goto (tgt := 434) C dL_minute_409 (by decide) ?_
                          refine k_iinc C dL_minute_434 rfl (by decide) rfl ?_
                          refine k_goto (tgt := 368) C dL_minute_437 (by decide) ?_
                          first
                            | (have q1 := ih (kk + 1) cc (by omega) (by omega) (by omega) (by omega) (by omega) (by omega) (by omega)
                               rw [show nx 8 + (kk + 1 - cc) = nx 8 + (kk - cc) + 1 by omega] at q1
                               simp only [hs_hs, iu_iu]
                               rw [hs_com3 _ _ _ _ (by omega)]
                               exact q1)
                            | (have q1 := ih (kk + 1) (cc + 1) (by omega) (by omega) (by omega) (by omega) (by omega) (by omega) (by omega)
                               rw [show nx 8 + (kk + 1 - (cc + 1)) = nx 8 + (kk - cc) by omega, show nx 7 + (cc + 1) = nx 7 + cc + 1 by omega, show hh 2 - 2 * (cc + 1) = hh 2 - 2 * cc - 2 by omega, show hh 5 + 2 * (cc + 1) = hh 5 + 2 * cc + 2 by omega] at q1
                               simp only [hs_hs, iu_iu, iu_com _ _ _ _ (show (2 : Int) ≠ 5 by decide), iu_com _ _ _ _ (show (7 : Int) ≠ 8 by decide)]
                               rw [hs_com3 _ _ _ _ (by omega)]
                               exact q1))))))
  have q1 := loop368 (qv + 1).toNat 0 0 (by omega) (by omega) (by omega) (by omega) (by omega) (by omega) (by omega)
  rw [show nx 7 + 0 = nx 7 by omega, show nx 8 + (0 - 0) = nx 8 by omega, show hh 2 - 2 * 0 = hh 2 by omega, show hh 5 + 2 * 0 = hh 5 by omega, iu_self, iu_self, iu_self, iu_self, hs_same y0, hs_same y1] at q1
  exact q1

set_option maxRecDepth 20000 in
set_option maxHeartbeats 1000000 in
theorem sg_four {D : va_G} {tc : Nat → ClassId} {base : Nat} {p : Program} {l : Launch} {e : Env} {s : State} {m : MethodId} {args : Array Value} {below : List Frame} {meth : Method} {c : Code} {Q : State → Prop} (C : Cx D tc base RL cL_minute 10 p s m args meth c) (an : Nat) (zrr : RZ) (kc : Int) (hpp : AH) (hA : LA hpp an zrr kc) (hi : zInv zrr) (hm : zrr 13 ≤ 100000) (ha : zrr 18 + zrr 19 ≤ zrr 13 + 1) (ov : Int) (hov : ov = 0 ∨ ov = 1) (kend : ∀ (hx : AH) (sv : Int), (¬ sv = 0 → zSil zrr) → (sv = 0 → ¬ zSil zrr) → (sv = 0 ∨ sv = 1) → LA hx an (if ov = 0 then zrr else zFour zrr) kc → Fr hpp hx an 5 → Wk D tc base 10 p l e (lvR 2) s m args below meth c 0 0 Q 440 [some (aR an), some (aR (an + 1)), some (aR (an + 2)), some (aR (an + 3)), some (aR (an + 4)), none, some (aI ov), some (aI sv), none, none] [] hx) : Wk D tc base 10 p l e (lvR 2) s m args below meth c 0 0 Q 334 [some (aR an), some (aR (an + 1)), some (aR (an + 2)), some (aR (an + 3)), some (aR (an + 4)), none, some (aI ov), none, none, none] [] hpp := by
  obtain ⟨nu, hh, se, wi, de, ⟨y0, y1, y2, y3, y4⟩, hLR⟩ := id hA
  obtain ⟨⟨e0, e1, e2, e3, e4, e5, e6, e7, e8, e9, e10, e11, e12, e13, e14⟩, eh, es, ew, ed⟩ := id hLR
  obtain ⟨⟨g0, g1, g2, g9, g10, g11, g12, g13, g21, g52, g61, g62, g63, g64, g65, g66⟩, hwi, hde⟩ := id hi
  have h2 : hh 2 = zrr 2 := eh 2 (by omega) (by omega)
  have h5 : hh 5 = zrr 5 := eh 5 (by omega) (by omega)
  have s4 : se 4 = zrr 65 := es 4 (by omega) (by omega)
  have s5 : se 5 = zrr 66 := es 5 (by omega) (by omega)
  refine k_aload_n C dL_minute_334 rfl ?_
  refine k_aload_n C dL_minute_335 rfl ?_
  refine k_callS C (n := 2) (as := [_, _]) (ct_L_silent l D tc base an zrr nu se _ y0 y2 hi e1 s4 s5) ml_L_18 sm_L_silent ini_L co_L_silent ⟨by decide, by decide, by decide +kernel⟩ rfl ⟨by decide, by decide⟩ rfl (Nat.le_of_ble_eq_true rfl) ⟨Nat.zero_le _, Nat.zero_le _⟩ dL_minute_336 ?_
  rintro _ _ (⟨rfl, rfl, hq⟩ | ⟨rfl, rfl, hq⟩)
  · skip
    refine k_istore C dL_minute_339 (by decide) rfl ?_
    refine k_aload_n C dL_minute_341 rfl ?_
    refine k_iconst C dL_minute_342 ?_
    refine k_iaload C dL_minute_343 (by repeat (first | exact hs_eq _ _ _ | refine hs_ne (by omega) ?_ | assumption)) (by omega) (by omega) (by omega) ?_
    refine k_bipush C dL_minute_344 (by decide +kernel) ?_
    refine k_irem C dL_minute_346 (by omega) (by omega) (by omega) (by omega) ?_
    refine k_if_ne (tgt := 354) C dL_minute_347 (by decide) ⟨by omega, by omega⟩ (fun c347 => ?_) (fun c347 => ?_)
    · try (exfalso; omega)
      all_goals (
        refine k_aload_n C dL_minute_354 rfl ?_
        refine k_iconst C dL_minute_355 ?_
        refine k_iaload C dL_minute_356 (by repeat (first | exact hs_eq _ _ _ | refine hs_ne (by omega) ?_ | assumption)) (by omega) (by omega) (by omega) ?_
        refine k_bipush C dL_minute_357 (by decide +kernel) ?_
        refine k_irem C dL_minute_359 (by omega) (by omega) (by omega) (by omega) ?_
        refine k_bipush C dL_minute_360 (by decide +kernel) ?_
        refine k_idiv C dL_minute_362 (by omega) (by omega) (by omega) (by omega) ?_
        refine k_istore C dL_minute_363 (by decide) rfl ?_
        refine k_iconst C dL_minute_365 ?_
        refine k_istore C dL_minute_366 (by decide) rfl ?_
        refine sg_chime C an nu hh (zrr 10) ov _ _ _ (by repeat (first | exact hs_eq _ _ _ | refine hs_ne (by omega) ?_ | assumption)) (by repeat (first | exact hs_eq _ _ _ | refine hs_ne (by omega) ?_ | assumption)) e1 ⟨by omega, by omega⟩ hov (by omega) ⟨by omega, by omega⟩ ⟨by omega, by omega⟩ (fun kk cc hkc => ?_)
        have hz0 : kk = 0 → cc = 0 → zrr = iu (iu (iu (iu zrr 16 (zrr 16 + cc)) 17 (zrr 17 + (kk - cc))) 2 (zrr 2 - 2 * cc)) 5 (zrr 5 + 2 * cc) := by
          intro ek ec
          rw [ek, ec, show zrr 16 + 0 = zrr 16 by omega, show zrr 17 + (0 - 0) = zrr 17 by omega, show zrr 2 - 2 * 0 = zrr 2 by omega, show zrr 5 + 2 * 0 = zrr 5 by omega, iu_self, iu_self, iu_self, iu_self]
        first
          | (have hs : zSil zrr := hq
             have hz : (if ov = 0 then zrr else zFour zrr) = iu (iu (iu (iu zrr 16 (zrr 16 + cc)) 17 (zrr 17 + (kk - cc))) 2 (zrr 2 - 2 * cc)) 5 (zrr 5 + 2 * cc) := by
               rw [← hz0 (by omega) (by omega), zFour, if_neg (show ¬ (zrr 10 % 15 = 0 ∧ ¬ zSil zrr) from fun q => q.2 hs)]
               split <;> rfl
             refine kend _ 1 (fun _ => hs) (fun q => by omega) (Or.inr rfl) ⟨_, _, _, _, _, ⟨(by repeat (first | exact hs_eq _ _ _ | refine hs_ne (by omega) ?_ | assumption)), (by repeat (first | exact hs_eq _ _ _ | refine hs_ne (by omega) ?_ | assumption)), (by repeat (first | exact hs_eq _ _ _ | refine hs_ne (by omega) ?_ | assumption)), (by repeat (first | exact hs_eq _ _ _ | refine hs_ne (by omega) ?_ | assumption)), (by repeat (first | exact hs_eq _ _ _ | refine hs_ne (by omega) ?_ | assumption))⟩, ?_⟩ (fun aaa haa => by repeat (first | rfl | refine hs_ne (by omega) ?_))
             rw [hz]
             exact ((((hLR.n (by decide) (by first | omega | (simp (disch := decide) only [iu_ne, iu_eq]; omega))).n (by decide) (by first | omega | (simp (disch := decide) only [iu_ne, iu_eq]; omega))).h (by decide) (by first | omega | (simp (disch := decide) only [iu_ne, iu_eq]; omega))).h (by decide) (by first | omega | (simp (disch := decide) only [iu_ne, iu_eq]; omega))))
          | (have hs : ¬ zSil zrr := hq
             have hz : (if ov = 0 then zrr else zFour zrr) = iu (iu (iu (iu zrr 16 (zrr 16 + cc)) 17 (zrr 17 + (kk - cc))) 2 (zrr 2 - 2 * cc)) 5 (zrr 5 + 2 * cc) := by
               by_cases ho : ov = 0
               · rw [if_pos ho, ← hz0 (by omega) (by omega)]
               · by_cases h15 : zrr 10 % 15 = 0
                 · have hp : kk = zPhr zrr := by
                     unfold zPhr
                     split <;> omega
                   have ec : mnI (zPhr zrr) (zrr 2 / 2) = cc := by
                     have := mnI_le (zPhr zrr) (zrr 2 / 2)
                     omega
                   rw [if_neg ho, zFour, if_pos ⟨h15, hs⟩, ec, ← hp]
                   unfold zChim
                   funext kkk
                   simp only [iu]
                   (repeat' split) <;> first | rfl | omega | (exfalso; omega) | (subst_vars; rfl)
                 · rw [if_neg ho, zFour, if_neg (show ¬ (zrr 10 % 15 = 0 ∧ ¬ zSil zrr) from fun q => h15 q.1), ← hz0 (by omega) (by omega)]
             refine kend _ 0 (fun q => absurd rfl q) (fun _ => hs) (Or.inl rfl) ⟨_, _, _, _, _, ⟨(by repeat (first | exact hs_eq _ _ _ | refine hs_ne (by omega) ?_ | assumption)), (by repeat (first | exact hs_eq _ _ _ | refine hs_ne (by omega) ?_ | assumption)), (by repeat (first | exact hs_eq _ _ _ | refine hs_ne (by omega) ?_ | assumption)), (by repeat (first | exact hs_eq _ _ _ | refine hs_ne (by omega) ?_ | assumption)), (by repeat (first | exact hs_eq _ _ _ | refine hs_ne (by omega) ?_ | assumption))⟩, ?_⟩ (fun aaa haa => by repeat (first | rfl | refine hs_ne (by omega) ?_))
             rw [hz]
             exact ((((hLR.n (by decide) (by first | omega | (simp (disch := decide) only [iu_ne, iu_eq]; omega))).n (by decide) (by first | omega | (simp (disch := decide) only [iu_ne, iu_eq]; omega))).h (by decide) (by first | omega | (simp (disch := decide) only [iu_ne, iu_eq]; omega))).h (by decide) (by first | omega | (simp (disch := decide) only [iu_ne, iu_eq]; omega)))))
    · try (exfalso; omega)
      all_goals (
        refine k_iconst C dL_minute_350 ?_
        refine k_goto (tgt := 363) C dL_minute_351 (by decide) ?_
        refine k_istore C dL_minute_363 (by decide) rfl ?_
        refine k_iconst C dL_minute_365 ?_
        refine k_istore C dL_minute_366 (by decide) rfl ?_
        refine sg_chime C an nu hh (zrr 10) ov _ _ _ (by repeat (first | exact hs_eq _ _ _ | refine hs_ne (by omega) ?_ | assumption)) (by repeat (first | exact hs_eq _ _ _ | refine hs_ne (by omega) ?_ | assumption)) e1 ⟨by omega, by omega⟩ hov (by omega) ⟨by omega, by omega⟩ ⟨by omega, by omega⟩ (fun kk cc hkc => ?_)
        have hz0 : kk = 0 → cc = 0 → zrr = iu (iu (iu (iu zrr 16 (zrr 16 + cc)) 17 (zrr 17 + (kk - cc))) 2 (zrr 2 - 2 * cc)) 5 (zrr 5 + 2 * cc) := by
          intro ek ec
          rw [ek, ec, show zrr 16 + 0 = zrr 16 by omega, show zrr 17 + (0 - 0) = zrr 17 by omega, show zrr 2 - 2 * 0 = zrr 2 by omega, show zrr 5 + 2 * 0 = zrr 5 by omega, iu_self, iu_self, iu_self, iu_self]
        first
          | (have hs : zSil zrr := hq
             have hz : (if ov = 0 then zrr else zFour zrr) = iu (iu (iu (iu zrr 16 (zrr 16 + cc)) 17 (zrr 17 + (kk - cc))) 2 (zrr 2 - 2 * cc)) 5 (zrr 5 + 2 * cc) := by
               rw [← hz0 (by omega) (by omega), zFour, if_neg (show ¬ (zrr 10 % 15 = 0 ∧ ¬ zSil zrr) from fun q => q.2 hs)]
               split <;> rfl
             refine kend _ 1 (fun _ => hs) (fun q => by omega) (Or.inr rfl) ⟨_, _, _, _, _, ⟨(by repeat (first | exact hs_eq _ _ _ | refine hs_ne (by omega) ?_ | assumption)), (by repeat (first | exact hs_eq _ _ _ | refine hs_ne (by omega) ?_ | assumption)), (by repeat (first | exact hs_eq _ _ _ | refine hs_ne (by omega) ?_ | assumption)), (by repeat (first | exact hs_eq _ _ _ | refine hs_ne (by omega) ?_ | assumption)), (by repeat (first | exact hs_eq _ _ _ | refine hs_ne (by omega) ?_ | assumption))⟩, ?_⟩ (fun aaa haa => by repeat (first | rfl | refine hs_ne (by omega) ?_))
             rw [hz]
             exact ((((hLR.n (by decide) (by first | omega | (simp (disch := decide) only [iu_ne, iu_eq]; omega))).n (by decide) (by first | omega | (simp (disch := decide) only [iu_ne, iu_eq]; omega))).h (by decide) (by first | omega | (simp (disch := decide) only [iu_ne, iu_eq]; omega))).h (by decide) (by first | omega | (simp (disch := decide) only [iu_ne, iu_eq]; omega))))
          | (have hs : ¬ zSil zrr := hq
             have hz : (if ov = 0 then zrr else zFour zrr) = iu (iu (iu (iu zrr 16 (zrr 16 + cc)) 17 (zrr 17 + (kk - cc))) 2 (zrr 2 - 2 * cc)) 5 (zrr 5 + 2 * cc) := by
               by_cases ho : ov = 0
               · rw [if_pos ho, ← hz0 (by omega) (by omega)]
               · by_cases h15 : zrr 10 % 15 = 0
                 · have hp : kk = zPhr zrr := by
                     unfold zPhr
                     split <;> omega
                   have ec : mnI (zPhr zrr) (zrr 2 / 2) = cc := by
                     have := mnI_le (zPhr zrr) (zrr 2 / 2)
                     omega
                   rw [if_neg ho, zFour, if_pos ⟨h15, hs⟩, ec, ← hp]
                   unfold zChim
                   funext kkk
                   simp only [iu]
                   (repeat' split) <;> first | rfl | omega | (exfalso; omega) | (subst_vars; rfl)
                 · rw [if_neg ho, zFour, if_neg (show ¬ (zrr 10 % 15 = 0 ∧ ¬ zSil zrr) from fun q => h15 q.1), ← hz0 (by omega) (by omega)]
             refine kend _ 0 (fun q => absurd rfl q) (fun _ => hs) (Or.inl rfl) ⟨_, _, _, _, _, ⟨(by repeat (first | exact hs_eq _ _ _ | refine hs_ne (by omega) ?_ | assumption)), (by repeat (first | exact hs_eq _ _ _ | refine hs_ne (by omega) ?_ | assumption)), (by repeat (first | exact hs_eq _ _ _ | refine hs_ne (by omega) ?_ | assumption)), (by repeat (first | exact hs_eq _ _ _ | refine hs_ne (by omega) ?_ | assumption)), (by repeat (first | exact hs_eq _ _ _ | refine hs_ne (by omega) ?_ | assumption))⟩, ?_⟩ (fun aaa haa => by repeat (first | rfl | refine hs_ne (by omega) ?_))
             rw [hz]
             exact ((((hLR.n (by decide) (by first | omega | (simp (disch := decide) only [iu_ne, iu_eq]; omega))).n (by decide) (by first | omega | (simp (disch := decide) only [iu_ne, iu_eq]; omega))).h (by decide) (by first | omega | (simp (disch := decide) only [iu_ne, iu_eq]; omega))).h (by decide) (by first | omega | (simp (disch := decide) only [iu_ne, iu_eq]; omega)))))
  · skip
    refine k_istore C dL_minute_339 (by decide) rfl ?_
    refine k_aload_n C dL_minute_341 rfl ?_
    refine k_iconst C dL_minute_342 ?_
    refine k_iaload C dL_minute_343 (by repeat (first | exact hs_eq _ _ _ | refine hs_ne (by omega) ?_ | assumption)) (by omega) (by omega) (by omega) ?_
    refine k_bipush C dL_minute_344 (by decide +kernel) ?_
    refine k_irem C dL_minute_346 (by omega) (by omega) (by omega) (by omega) ?_
    refine k_if_ne (tgt := 354) C dL_minute_347 (by decide) ⟨by omega, by omega⟩ (fun c347 => ?_) (fun c347 => ?_)
    · try (exfalso; omega)
      all_goals (
        refine k_aload_n C dL_minute_354 rfl ?_
        refine k_iconst C dL_minute_355 ?_
        refine k_iaload C dL_minute_356 (by repeat (first | exact hs_eq _ _ _ | refine hs_ne (by omega) ?_ | assumption)) (by omega) (by omega) (by omega) ?_
        refine k_bipush C dL_minute_357 (by decide +kernel) ?_
        refine k_irem C dL_minute_359 (by omega) (by omega) (by omega) (by omega) ?_
        refine k_bipush C dL_minute_360 (by decide +kernel) ?_
        refine k_idiv C dL_minute_362 (by omega) (by omega) (by omega) (by omega) ?_
        refine k_istore C dL_minute_363 (by decide) rfl ?_
        refine k_iconst C dL_minute_365 ?_
        refine k_istore C dL_minute_366 (by decide) rfl ?_
        refine sg_chime C an nu hh (zrr 10) ov _ _ _ (by repeat (first | exact hs_eq _ _ _ | refine hs_ne (by omega) ?_ | assumption)) (by repeat (first | exact hs_eq _ _ _ | refine hs_ne (by omega) ?_ | assumption)) e1 ⟨by omega, by omega⟩ hov (by omega) ⟨by omega, by omega⟩ ⟨by omega, by omega⟩ (fun kk cc hkc => ?_)
        have hz0 : kk = 0 → cc = 0 → zrr = iu (iu (iu (iu zrr 16 (zrr 16 + cc)) 17 (zrr 17 + (kk - cc))) 2 (zrr 2 - 2 * cc)) 5 (zrr 5 + 2 * cc) := by
          intro ek ec
          rw [ek, ec, show zrr 16 + 0 = zrr 16 by omega, show zrr 17 + (0 - 0) = zrr 17 by omega, show zrr 2 - 2 * 0 = zrr 2 by omega, show zrr 5 + 2 * 0 = zrr 5 by omega, iu_self, iu_self, iu_self, iu_self]
        first
          | (have hs : zSil zrr := hq
             have hz : (if ov = 0 then zrr else zFour zrr) = iu (iu (iu (iu zrr 16 (zrr 16 + cc)) 17 (zrr 17 + (kk - cc))) 2 (zrr 2 - 2 * cc)) 5 (zrr 5 + 2 * cc) := by
               rw [← hz0 (by omega) (by omega), zFour, if_neg (show ¬ (zrr 10 % 15 = 0 ∧ ¬ zSil zrr) from fun q => q.2 hs)]
               split <;> rfl
             refine kend _ 1 (fun _ => hs) (fun q => by omega) (Or.inr rfl) ⟨_, _, _, _, _, ⟨(by repeat (first | exact hs_eq _ _ _ | refine hs_ne (by omega) ?_ | assumption)), (by repeat (first | exact hs_eq _ _ _ | refine hs_ne (by omega) ?_ | assumption)), (by repeat (first | exact hs_eq _ _ _ | refine hs_ne (by omega) ?_ | assumption)), (by repeat (first | exact hs_eq _ _ _ | refine hs_ne (by omega) ?_ | assumption)), (by repeat (first | exact hs_eq _ _ _ | refine hs_ne (by omega) ?_ | assumption))⟩, ?_⟩ (fun aaa haa => by repeat (first | rfl | refine hs_ne (by omega) ?_))
             rw [hz]
             exact ((((hLR.n (by decide) (by first | omega | (simp (disch := decide) only [iu_ne, iu_eq]; omega))).n (by decide) (by first | omega | (simp (disch := decide) only [iu_ne, iu_eq]; omega))).h (by decide) (by first | omega | (simp (disch := decide) only [iu_ne, iu_eq]; omega))).h (by decide) (by first | omega | (simp (disch := decide) only [iu_ne, iu_eq]; omega))))
          | (have hs : ¬ zSil zrr := hq
             have hz : (if ov = 0 then zrr else zFour zrr) = iu (iu (iu (iu zrr 16 (zrr 16 + cc)) 17 (zrr 17 + (kk - cc))) 2 (zrr 2 - 2 * cc)) 5 (zrr 5 + 2 * cc) := by
               by_cases ho : ov = 0
               · rw [if_pos ho, ← hz0 (by omega) (by omega)]
               · by_cases h15 : zrr 10 % 15 = 0
                 · have hp : kk = zPhr zrr := by
                     unfold zPhr
                     split <;> omega
                   have ec : mnI (zPhr zrr) (zrr 2 / 2) = cc := by
                     have := mnI_le (zPhr zrr) (zrr 2 / 2)
                     omega
                   rw [if_neg ho, zFour, if_pos ⟨h15, hs⟩, ec, ← hp]
                   unfold zChim
                   funext kkk
                   simp only [iu]
                   (repeat' split) <;> first | rfl | omega | (exfalso; omega) | (subst_vars; rfl)
                 · rw [if_neg ho, zFour, if_neg (show ¬ (zrr 10 % 15 = 0 ∧ ¬ zSil zrr) from fun q => h15 q.1), ← hz0 (by omega) (by omega)]
             refine kend _ 0 (fun q => absurd rfl q) (fun _ => hs) (Or.inl rfl) ⟨_, _, _, _, _, ⟨(by repeat (first | exact hs_eq _ _ _ | refine hs_ne (by omega) ?_ | assumption)), (by repeat (first | exact hs_eq _ _ _ | refine hs_ne (by omega) ?_ | assumption)), (by repeat (first | exact hs_eq _ _ _ | refine hs_ne (by omega) ?_ | assumption)), (by repeat (first | exact hs_eq _ _ _ | refine hs_ne (by omega) ?_ | assumption)), (by repeat (first | exact hs_eq _ _ _ | refine hs_ne (by omega) ?_ | assumption))⟩, ?_⟩ (fun aaa haa => by repeat (first | rfl | refine hs_ne (by omega) ?_))
             rw [hz]
             exact ((((hLR.n (by decide) (by first | omega | (simp (disch := decide) only [iu_ne, iu_eq]; omega))).n (by decide) (by first | omega | (simp (disch := decide) only [iu_ne, iu_eq]; omega))).h (by decide) (by first | omega | (simp (disch := decide) only [iu_ne, iu_eq]; omega))).h (by decide) (by first | omega | (simp (disch := decide) only [iu_ne, iu_eq]; omega)))))
    · try (exfalso; omega)
      all_goals (
        refine k_iconst C dL_minute_350 ?_
        refine k_goto (tgt := 363) C dL_minute_351 (by decide) ?_
        refine k_istore C dL_minute_363 (by decide) rfl ?_
        refine k_iconst C dL_minute_365 ?_
        refine k_istore C dL_minute_366 (by decide) rfl ?_
        refine sg_chime C an nu hh (zrr 10) ov _ _ _ (by repeat (first | exact hs_eq _ _ _ | refine hs_ne (by omega) ?_ | assumption)) (by repeat (first | exact hs_eq _ _ _ | refine hs_ne (by omega) ?_ | assumption)) e1 ⟨by omega, by omega⟩ hov (by omega) ⟨by omega, by omega⟩ ⟨by omega, by omega⟩ (fun kk cc hkc => ?_)
        have hz0 : kk = 0 → cc = 0 → zrr = iu (iu (iu (iu zrr 16 (zrr 16 + cc)) 17 (zrr 17 + (kk - cc))) 2 (zrr 2 - 2 * cc)) 5 (zrr 5 + 2 * cc) := by
          intro ek ec
          rw [ek, ec, show zrr 16 + 0 = zrr 16 by omega, show zrr 17 + (0 - 0) = zrr 17 by omega, show zrr 2 - 2 * 0 = zrr 2 by omega, show zrr 5 + 2 * 0 = zrr 5 by omega, iu_self, iu_self, iu_self, iu_self]
        first
          | (have hs : zSil zrr := hq
             have hz : (if ov = 0 then zrr else zFour zrr) = iu (iu (iu (iu zrr 16 (zrr 16 + cc)) 17 (zrr 17 + (kk - cc))) 2 (zrr 2 - 2 * cc)) 5 (zrr 5 + 2 * cc) := by
               rw [← hz0 (by omega) (by omega), zFour, if_neg (show ¬ (zrr 10 % 15 = 0 ∧ ¬ zSil zrr) from fun q => q.2 hs)]
               split <;> rfl
             refine kend _ 1 (fun _ => hs) (fun q => by omega) (Or.inr rfl) ⟨_, _, _, _, _, ⟨(by repeat (first | exact hs_eq _ _ _ | refine hs_ne (by omega) ?_ | assumption)), (by repeat (first | exact hs_eq _ _ _ | refine hs_ne (by omega) ?_ | assumption)), (by repeat (first | exact hs_eq _ _ _ | refine hs_ne (by omega) ?_ | assumption)), (by repeat (first | exact hs_eq _ _ _ | refine hs_ne (by omega) ?_ | assumption)), (by repeat (first | exact hs_eq _ _ _ | refine hs_ne (by omega) ?_ | assumption))⟩, ?_⟩ (fun aaa haa => by repeat (first | rfl | refine hs_ne (by omega) ?_))
             rw [hz]
             exact ((((hLR.n (by decide) (by first | omega | (simp (disch := decide) only [iu_ne, iu_eq]; omega))).n (by decide) (by first | omega | (simp (disch := decide) only [iu_ne, iu_eq]; omega))).h (by decide) (by first | omega | (simp (disch := decide) only [iu_ne, iu_eq]; omega))).h (by decide) (by first | omega | (simp (disch := decide) only [iu_ne, iu_eq]; omega))))
          | (have hs : ¬ zSil zrr := hq
             have hz : (if ov = 0 then zrr else zFour zrr) = iu (iu (iu (iu zrr 16 (zrr 16 + cc)) 17 (zrr 17 + (kk - cc))) 2 (zrr 2 - 2 * cc)) 5 (zrr 5 + 2 * cc) := by
               by_cases ho : ov = 0
               · rw [if_pos ho, ← hz0 (by omega) (by omega)]
               · by_cases h15 : zrr 10 % 15 = 0
                 · have hp : kk = zPhr zrr := by
                     unfold zPhr
                     split <;> omega
                   have ec : mnI (zPhr zrr) (zrr 2 / 2) = cc := by
                     have := mnI_le (zPhr zrr) (zrr 2 / 2)
                     omega
                   rw [if_neg ho, zFour, if_pos ⟨h15, hs⟩, ec, ← hp]
                   unfold zChim
                   funext kkk
                   simp only [iu]
                   (repeat' split) <;> first | rfl | omega | (exfalso; omega) | (subst_vars; rfl)
                 · rw [if_neg ho, zFour, if_neg (show ¬ (zrr 10 % 15 = 0 ∧ ¬ zSil zrr) from fun q => h15 q.1), ← hz0 (by omega) (by omega)]
             refine kend _ 0 (fun q => absurd rfl q) (fun _ => hs) (Or.inl rfl) ⟨_, _, _, _, _, ⟨(by repeat (first | exact hs_eq _ _ _ | refine hs_ne (by omega) ?_ | assumption)), (by repeat (first | exact hs_eq _ _ _ | refine hs_ne (by omega) ?_ | assumption)), (by repeat (first | exact hs_eq _ _ _ | refine hs_ne (by omega) ?_ | assumption)), (by repeat (first | exact hs_eq _ _ _ | refine hs_ne (by omega) ?_ | assumption)), (by repeat (first | exact hs_eq _ _ _ | refine hs_ne (by omega) ?_ | assumption))⟩, ?_⟩ (fun aaa haa => by repeat (first | rfl | refine hs_ne (by omega) ?_))
             rw [hz]
             exact ((((hLR.n (by decide) (by first | omega | (simp (disch := decide) only [iu_ne, iu_eq]; omega))).n (by decide) (by first | omega | (simp (disch := decide) only [iu_ne, iu_eq]; omega))).h (by decide) (by first | omega | (simp (disch := decide) only [iu_ne, iu_eq]; omega))).h (by decide) (by first | omega | (simp (disch := decide) only [iu_ne, iu_eq]; omega)))))

set_option maxRecDepth 20000 in
set_option maxHeartbeats 1000000 in
theorem sg_five {D : va_G} {tc : Nat → ClassId} {base : Nat} {p : Program} {l : Launch} {e : Env} {s : State} {m : MethodId} {args : Array Value} {below : List Frame} {meth : Method} {c : Code} {Q : State → Prop} (C : Cx D tc base RL cL_minute 10 p s m args meth c) (an : Nat) (zrr : RZ) (kc : Int) (hpp : AH) (hA : LA hpp an zrr kc) (hi : zInv zrr) (hm : zrr 13 ≤ 100000) (ha : zrr 18 + zrr 19 ≤ zrr 13 + 1) (ov sv : Int) (hov : ov = 0 ∨ ov = 1) (hs1 : ¬ sv = 0 → zSil zrr) (hs0 : sv = 0 → ¬ zSil zrr) (hsv : sv = 0 ∨ sv = 1) (kend : ∀ (hx : AH), LA hx an (if ov = 0 then zrr else zFive zrr) kc → Fr hpp hx an 5 → Wk D tc base 10 p l e (lvR 2) s m args below meth c 0 0 Q 556 [some (aR an), some (aR (an + 1)), some (aR (an + 2)), some (aR (an + 3)), some (aR (an + 4)), none, some (aI ov), some (aI sv), none, none] [] hx) : Wk D tc base 10 p l e (lvR 2) s m args below meth c 0 0 Q 440 [some (aR an), some (aR (an + 1)), some (aR (an + 2)), some (aR (an + 3)), some (aR (an + 4)), none, some (aI ov), some (aI sv), none, none] [] hpp := by
  obtain ⟨nu, hh, se, wi, de, ⟨y0, y1, y2, y3, y4⟩, hLR⟩ := id hA
  obtain ⟨⟨e0, e1, e2, e3, e4, e5, e6, e7, e8, e9, e10, e11, e12, e13, e14⟩, eh, es, ew, ed⟩ := id hLR
  obtain ⟨⟨g0, g1, g2, g9, g10, g11, g12, g13, g21, g52, g61, g62, g63, g64, g65, g66⟩, hwi, hde⟩ := id hi
  have d1 : de 1 = zrr 54 := ed 1 (by omega) (by omega)
  refine k_iload C dL_minute_440 rfl ?_
  refine k_if_eq (tgt := 472) C dL_minute_442 (by decide) ⟨by omega, by omega⟩ (fun c442 => ?_) (fun c442 => ?_)
  · try (exfalso; omega)
    all_goals (
      refine k_iload C dL_minute_472 rfl ?_
      refine k_if_eq (tgt := 556) C dL_minute_474 (by decide) ⟨by omega, by omega⟩ (fun c474 => ?_) (fun c474 => ?_)
      · try (exfalso; omega)
        all_goals (
          first
            | (have hc : ov = 0 := by omega
               have hz : (if ov = 0 then zrr else zFive zrr) = zrr := by
                 exact if_pos hc
               refine k_sub (kend _ ⟨_, _, _, _, _, ⟨(by repeat (first | exact hs_eq _ _ _ | refine hs_ne (by omega) ?_ | assumption)), (by repeat (first | exact hs_eq _ _ _ | refine hs_ne (by omega) ?_ | assumption)), (by repeat (first | exact hs_eq _ _ _ | refine hs_ne (by omega) ?_ | assumption)), (by repeat (first | exact hs_eq _ _ _ | refine hs_ne (by omega) ?_ | assumption)), (by repeat (first | exact hs_eq _ _ _ | refine hs_ne (by omega) ?_ | assumption))⟩, ?_⟩ (fun aaa haa => by repeat (first | rfl | refine hs_ne (by omega) ?_))) ((And.intro rfl (And.intro rfl (And.intro rfl (And.intro rfl (And.intro rfl (And.intro rfl (And.intro rfl trivial))))))))
               rw [hz]
               exact hLR)
            | (have hc : ¬ ov = 0 ∧ ¬ zrr 10 % 60 = 0 := ⟨by omega, by omega⟩
               have hz : (if ov = 0 then zrr else zFive zrr) = zrr := by
                 rw [if_neg hc.1, zFive, if_pos hc.2]
               refine k_sub (kend _ ⟨_, _, _, _, _, ⟨(by repeat (first | exact hs_eq _ _ _ | refine hs_ne (by omega) ?_ | assumption)), (by repeat (first | exact hs_eq _ _ _ | refine hs_ne (by omega) ?_ | assumption)), (by repeat (first | exact hs_eq _ _ _ | refine hs_ne (by omega) ?_ | assumption)), (by repeat (first | exact hs_eq _ _ _ | refine hs_ne (by omega) ?_ | assumption)), (by repeat (first | exact hs_eq _ _ _ | refine hs_ne (by omega) ?_ | assumption))⟩, ?_⟩ (fun aaa haa => by repeat (first | rfl | refine hs_ne (by omega) ?_))) ((And.intro rfl (And.intro rfl (And.intro rfl (And.intro rfl (And.intro rfl (And.intro rfl (And.intro rfl trivial))))))))
               rw [hz]
               exact hLR)
            | (have hc : ¬ ov = 0 ∧ zrr 10 % 60 = 0 ∧ zSil zrr := ⟨by omega, by omega, hs1 (by omega)⟩
               have hz : (if ov = 0 then zrr else zFive zrr) = iu zrr 15 (zrr 15 + (zHour (zrr 10))) := by
                 rw [if_neg hc.1, zFive, if_neg (fun q => q hc.2.1), if_pos hc.2.2]
               refine k_sub (kend _ ⟨_, _, _, _, _, ⟨(by repeat (first | exact hs_eq _ _ _ | refine hs_ne (by omega) ?_ | assumption)), (by repeat (first | exact hs_eq _ _ _ | refine hs_ne (by omega) ?_ | assumption)), (by repeat (first | exact hs_eq _ _ _ | refine hs_ne (by omega) ?_ | assumption)), (by repeat (first | exact hs_eq _ _ _ | refine hs_ne (by omega) ?_ | assumption)), (by repeat (first | exact hs_eq _ _ _ | refine hs_ne (by omega) ?_ | assumption))⟩, ?_⟩ (fun aaa haa => by repeat (first | rfl | refine hs_ne (by omega) ?_))) ((And.intro rfl (And.intro rfl (And.intro rfl (And.intro rfl (And.intro rfl (And.intro rfl (And.intro rfl trivial))))))))
               rw [hz]
               exact hLR.n (by decide) (by first | omega | (simp (disch := decide) only [iu_ne, iu_eq]; omega)))
            | (have hc : ¬ ov = 0 ∧ zrr 10 % 60 = 0 ∧ ¬ zSil zrr ∧ ¬ zrr 52 = 4 := ⟨by omega, by omega, hs0 (by omega), by omega⟩
               have hz : (if ov = 0 then zrr else zFive zrr) = iu (iu (iu zrr (53 + 2 * zrr 52) (zHour (zrr 10))) (53 + 2 * zrr 52 + 1) (zHour (zrr 10))) 52 (zrr 52 + 1) := by
                 rw [if_neg hc.1, zFive, if_neg (fun q => q hc.2.1), if_neg hc.2.2.1, zMk, if_neg hc.2.2.2]
               refine k_sub (kend _ ⟨_, _, _, _, _, ⟨(by repeat (first | exact hs_eq _ _ _ | refine hs_ne (by omega) ?_ | assumption)), (by repeat (first | exact hs_eq _ _ _ | refine hs_ne (by omega) ?_ | assumption)), (by repeat (first | exact hs_eq _ _ _ | refine hs_ne (by omega) ?_ | assumption)), (by repeat (first | exact hs_eq _ _ _ | refine hs_ne (by omega) ?_ | assumption)), (by repeat (first | exact hs_eq _ _ _ | refine hs_ne (by omega) ?_ | assumption))⟩, ?_⟩ (fun aaa haa => by repeat (first | rfl | refine hs_ne (by omega) ?_))) ((And.intro rfl (And.intro rfl (And.intro rfl (And.intro rfl (And.intro rfl (And.intro rfl (And.intro rfl trivial))))))))
               rw [hz]
               exact ((hLR.d (by omega) rfl).d (by omega) rfl).n (by decide) (by omega))
            | (have hc : ¬ ov = 0 ∧ zrr 10 % 60 = 0 ∧ ¬ zSil zrr ∧ zrr 52 = 4 := ⟨by omega, by omega, hs0 (by omega), by omega⟩
               have y52 : (zDrop (iu zrr 15 (zrr 15 + zrr 54))) 52 = zrr 52 - 1 := by rw [zDrop_52, iu_ne (by decide)]
               have hz : (if ov = 0 then zrr else zFive zrr) = iu (iu (iu (zDrop (iu zrr 15 (zrr 15 + zrr 54))) (53 + 2 * (zDrop (iu zrr 15 (zrr 15 + zrr 54))) 52) (zHour (zrr 10))) (53 + 2 * (zDrop (iu zrr 15 (zrr 15 + zrr 54))) 52 + 1) (zHour (zrr 10))) 52 ((zDrop (iu zrr 15 (zrr 15 + zrr 54))) 52 + 1) := by
                 rw [if_neg hc.1, zFive, if_neg (fun q => q hc.2.1), if_neg hc.2.2.1, zMk, if_pos hc.2.2.2]
               refine k_sub (kend _ ⟨_, _, _, _, _, ⟨(by repeat (first | exact hs_eq _ _ _ | refine hs_ne (by omega) ?_ | assumption)), (by repeat (first | exact hs_eq _ _ _ | refine hs_ne (by omega) ?_ | assumption)), (by repeat (first | exact hs_eq _ _ _ | refine hs_ne (by omega) ?_ | assumption)), (by repeat (first | exact hs_eq _ _ _ | refine hs_ne (by omega) ?_ | assumption)), (by repeat (first | exact hs_eq _ _ _ | refine hs_ne (by omega) ?_ | assumption))⟩, ?_⟩ (fun aaa haa => by repeat (first | rfl | refine hs_ne (by omega) ?_))) ((And.intro rfl (And.intro rfl (And.intro rfl (And.intro rfl (And.intro rfl (And.intro rfl (And.intro rfl trivial))))))))
               rw [hz]
               exact ((((hLR.n (j := 6) (q := 15) (by decide) (by omega)).dropm (by rw [iu_ne (by decide)]; omega) (by rw [iu_ne (by decide)]; omega) (by rw [iu_ne (by decide)])).d (by omega) rfl).d (by omega) rfl).n (by decide) (by omega)))
      · try (exfalso; omega)
        all_goals (
          refine k_aload_n C dL_minute_477 rfl ?_
          refine k_iconst C dL_minute_478 ?_
          refine k_iaload C dL_minute_479 (by repeat (first | exact hs_eq _ _ _ | refine hs_ne (by omega) ?_ | assumption)) (by omega) (by omega) (by omega) ?_
          refine k_bipush C dL_minute_480 (by decide +kernel) ?_
          refine k_irem C dL_minute_482 (by omega) (by omega) (by omega) (by omega) ?_
          refine k_if_ne (tgt := 556) C dL_minute_483 (by decide) ⟨by omega, by omega⟩ (fun c483 => ?_) (fun c483 => ?_)
          · try (exfalso; omega)
            all_goals (
              first
                | (have hc : ov = 0 := by omega
                   have hz : (if ov = 0 then zrr else zFive zrr) = zrr := by
                     exact if_pos hc
                   refine k_sub (kend _ ⟨_, _, _, _, _, ⟨(by repeat (first | exact hs_eq _ _ _ | refine hs_ne (by omega) ?_ | assumption)), (by repeat (first | exact hs_eq _ _ _ | refine hs_ne (by omega) ?_ | assumption)), (by repeat (first | exact hs_eq _ _ _ | refine hs_ne (by omega) ?_ | assumption)), (by repeat (first | exact hs_eq _ _ _ | refine hs_ne (by omega) ?_ | assumption)), (by repeat (first | exact hs_eq _ _ _ | refine hs_ne (by omega) ?_ | assumption))⟩, ?_⟩ (fun aaa haa => by repeat (first | rfl | refine hs_ne (by omega) ?_))) ((And.intro rfl (And.intro rfl (And.intro rfl (And.intro rfl (And.intro rfl (And.intro rfl (And.intro rfl trivial))))))))
                   rw [hz]
                   exact hLR)
                | (have hc : ¬ ov = 0 ∧ ¬ zrr 10 % 60 = 0 := ⟨by omega, by omega⟩
                   have hz : (if ov = 0 then zrr else zFive zrr) = zrr := by
                     rw [if_neg hc.1, zFive, if_pos hc.2]
                   refine k_sub (kend _ ⟨_, _, _, _, _, ⟨(by repeat (first | exact hs_eq _ _ _ | refine hs_ne (by omega) ?_ | assumption)), (by repeat (first | exact hs_eq _ _ _ | refine hs_ne (by omega) ?_ | assumption)), (by repeat (first | exact hs_eq _ _ _ | refine hs_ne (by omega) ?_ | assumption)), (by repeat (first | exact hs_eq _ _ _ | refine hs_ne (by omega) ?_ | assumption)), (by repeat (first | exact hs_eq _ _ _ | refine hs_ne (by omega) ?_ | assumption))⟩, ?_⟩ (fun aaa haa => by repeat (first | rfl | refine hs_ne (by omega) ?_))) ((And.intro rfl (And.intro rfl (And.intro rfl (And.intro rfl (And.intro rfl (And.intro rfl (And.intro rfl trivial))))))))
                   rw [hz]
                   exact hLR)
                | (have hc : ¬ ov = 0 ∧ zrr 10 % 60 = 0 ∧ zSil zrr := ⟨by omega, by omega, hs1 (by omega)⟩
                   have hz : (if ov = 0 then zrr else zFive zrr) = iu zrr 15 (zrr 15 + (zHour (zrr 10))) := by
                     rw [if_neg hc.1, zFive, if_neg (fun q => q hc.2.1), if_pos hc.2.2]
                   refine k_sub (kend _ ⟨_, _, _, _, _, ⟨(by repeat (first | exact hs_eq _ _ _ | refine hs_ne (by omega) ?_ | assumption)), (by repeat (first | exact hs_eq _ _ _ | refine hs_ne (by omega) ?_ | assumption)), (by repeat (first | exact hs_eq _ _ _ | refine hs_ne (by omega) ?_ | assumption)), (by repeat (first | exact hs_eq _ _ _ | refine hs_ne (by omega) ?_ | assumption)), (by repeat (first | exact hs_eq _ _ _ | refine hs_ne (by omega) ?_ | assumption))⟩, ?_⟩ (fun aaa haa => by repeat (first | rfl | refine hs_ne (by omega) ?_))) ((And.intro rfl (And.intro rfl (And.intro rfl (And.intro rfl (And.intro rfl (And.intro rfl (And.intro rfl trivial))))))))
                   rw [hz]
                   exact hLR.n (by decide) (by first | omega | (simp (disch := decide) only [iu_ne, iu_eq]; omega)))
                | (have hc : ¬ ov = 0 ∧ zrr 10 % 60 = 0 ∧ ¬ zSil zrr ∧ ¬ zrr 52 = 4 := ⟨by omega, by omega, hs0 (by omega), by omega⟩
                   have hz : (if ov = 0 then zrr else zFive zrr) = iu (iu (iu zrr (53 + 2 * zrr 52) (zHour (zrr 10))) (53 + 2 * zrr 52 + 1) (zHour (zrr 10))) 52 (zrr 52 + 1) := by
                     rw [if_neg hc.1, zFive, if_neg (fun q => q hc.2.1), if_neg hc.2.2.1, zMk, if_neg hc.2.2.2]
                   refine k_sub (kend _ ⟨_, _, _, _, _, ⟨(by repeat (first | exact hs_eq _ _ _ | refine hs_ne (by omega) ?_ | assumption)), (by repeat (first | exact hs_eq _ _ _ | refine hs_ne (by omega) ?_ | assumption)), (by repeat (first | exact hs_eq _ _ _ | refine hs_ne (by omega) ?_ | assumption)), (by repeat (first | exact hs_eq _ _ _ | refine hs_ne (by omega) ?_ | assumption)), (by repeat (first | exact hs_eq _ _ _ | refine hs_ne (by omega) ?_ | assumption))⟩, ?_⟩ (fun aaa haa => by repeat (first | rfl | refine hs_ne (by omega) ?_))) ((And.intro rfl (And.intro rfl (And.intro rfl (And.intro rfl (And.intro rfl (And.intro rfl (And.intro rfl trivial))))))))
                   rw [hz]
                   exact ((hLR.d (by omega) rfl).d (by omega) rfl).n (by decide) (by omega))
                | (have hc : ¬ ov = 0 ∧ zrr 10 % 60 = 0 ∧ ¬ zSil zrr ∧ zrr 52 = 4 := ⟨by omega, by omega, hs0 (by omega), by omega⟩
                   have y52 : (zDrop (iu zrr 15 (zrr 15 + zrr 54))) 52 = zrr 52 - 1 := by rw [zDrop_52, iu_ne (by decide)]
                   have hz : (if ov = 0 then zrr else zFive zrr) = iu (iu (iu (zDrop (iu zrr 15 (zrr 15 + zrr 54))) (53 + 2 * (zDrop (iu zrr 15 (zrr 15 + zrr 54))) 52) (zHour (zrr 10))) (53 + 2 * (zDrop (iu zrr 15 (zrr 15 + zrr 54))) 52 + 1) (zHour (zrr 10))) 52 ((zDrop (iu zrr 15 (zrr 15 + zrr 54))) 52 + 1) := by
                     rw [if_neg hc.1, zFive, if_neg (fun q => q hc.2.1), if_neg hc.2.2.1, zMk, if_pos hc.2.2.2]
                   refine k_sub (kend _ ⟨_, _, _, _, _, ⟨(by repeat (first | exact hs_eq _ _ _ | refine hs_ne (by omega) ?_ | assumption)), (by repeat (first | exact hs_eq _ _ _ | refine hs_ne (by omega) ?_ | assumption)), (by repeat (first | exact hs_eq _ _ _ | refine hs_ne (by omega) ?_ | assumption)), (by repeat (first | exact hs_eq _ _ _ | refine hs_ne (by omega) ?_ | assumption)), (by repeat (first | exact hs_eq _ _ _ | refine hs_ne (by omega) ?_ | assumption))⟩, ?_⟩ (fun aaa haa => by repeat (first | rfl | refine hs_ne (by omega) ?_))) ((And.intro rfl (And.intro rfl (And.intro rfl (And.intro rfl (And.intro rfl (And.intro rfl (And.intro rfl trivial))))))))
                   rw [hz]
                   exact ((((hLR.n (j := 6) (q := 15) (by decide) (by omega)).dropm (by rw [iu_ne (by decide)]; omega) (by rw [iu_ne (by decide)]; omega) (by rw [iu_ne (by decide)])).d (by omega) rfl).d (by omega) rfl).n (by decide) (by omega)))
          · try (exfalso; omega)
            all_goals (
              refine k_iload C dL_minute_486 rfl ?_
              refine k_if_ne (tgt := 556) C dL_minute_488 (by decide) ⟨by omega, by omega⟩ (fun c488 => ?_) (fun c488 => ?_)
              · try (exfalso; omega)
                all_goals (
                  first
                    | (have hc : ov = 0 := by omega
                       have hz : (if ov = 0 then zrr else zFive zrr) = zrr := by
                         exact if_pos hc
                       refine k_sub (kend _ ⟨_, _, _, _, _, ⟨(by repeat (first | exact hs_eq _ _ _ | refine hs_ne (by omega) ?_ | assumption)), (by repeat (first | exact hs_eq _ _ _ | refine hs_ne (by omega) ?_ | assumption)), (by repeat (first | exact hs_eq _ _ _ | refine hs_ne (by omega) ?_ | assumption)), (by repeat (first | exact hs_eq _ _ _ | refine hs_ne (by omega) ?_ | assumption)), (by repeat (first | exact hs_eq _ _ _ | refine hs_ne (by omega) ?_ | assumption))⟩, ?_⟩ (fun aaa haa => by repeat (first | rfl | refine hs_ne (by omega) ?_))) ((And.intro rfl (And.intro rfl (And.intro rfl (And.intro rfl (And.intro rfl (And.intro rfl (And.intro rfl trivial))))))))
                       rw [hz]
                       exact hLR)
                    | (have hc : ¬ ov = 0 ∧ ¬ zrr 10 % 60 = 0 := ⟨by omega, by omega⟩
                       have hz : (if ov = 0 then zrr else zFive zrr) = zrr := by
                         rw [if_neg hc.1, zFive, if_pos hc.2]
                       refine k_sub (kend _ ⟨_, _, _, _, _, ⟨(by repeat (first | exact hs_eq _ _ _ | refine hs_ne (by omega) ?_ | assumption)), (by repeat (first | exact hs_eq _ _ _ | refine hs_ne (by omega) ?_ | assumption)), (by repeat (first | exact hs_eq _ _ _ | refine hs_ne (by omega) ?_ | assumption)), (by repeat (first | exact hs_eq _ _ _ | refine hs_ne (by omega) ?_ | assumption)), (by repeat (first | exact hs_eq _ _ _ | refine hs_ne (by omega) ?_ | assumption))⟩, ?_⟩ (fun aaa haa => by repeat (first | rfl | refine hs_ne (by omega) ?_))) ((And.intro rfl (And.intro rfl (And.intro rfl (And.intro rfl (And.intro rfl (And.intro rfl (And.intro rfl trivial))))))))
                       rw [hz]
                       exact hLR)
                    | (have hc : ¬ ov = 0 ∧ zrr 10 % 60 = 0 ∧ zSil zrr := ⟨by omega, by omega, hs1 (by omega)⟩
                       have hz : (if ov = 0 then zrr else zFive zrr) = iu zrr 15 (zrr 15 + (zHour (zrr 10))) := by
                         rw [if_neg hc.1, zFive, if_neg (fun q => q hc.2.1), if_pos hc.2.2]
                       refine k_sub (kend _ ⟨_, _, _, _, _, ⟨(by repeat (first | exact hs_eq _ _ _ | refine hs_ne (by omega) ?_ | assumption)), (by repeat (first | exact hs_eq _ _ _ | refine hs_ne (by omega) ?_ | assumption)), (by repeat (first | exact hs_eq _ _ _ | refine hs_ne (by omega) ?_ | assumption)), (by repeat (first | exact hs_eq _ _ _ | refine hs_ne (by omega) ?_ | assumption)), (by repeat (first | exact hs_eq _ _ _ | refine hs_ne (by omega) ?_ | assumption))⟩, ?_⟩ (fun aaa haa => by repeat (first | rfl | refine hs_ne (by omega) ?_))) ((And.intro rfl (And.intro rfl (And.intro rfl (And.intro rfl (And.intro rfl (And.intro rfl (And.intro rfl trivial))))))))
                       rw [hz]
                       exact hLR.n (by decide) (by first | omega | (simp (disch := decide) only [iu_ne, iu_eq]; omega)))
                    | (have hc : ¬ ov = 0 ∧ zrr 10 % 60 = 0 ∧ ¬ zSil zrr ∧ ¬ zrr 52 = 4 := ⟨by omega, by omega, hs0 (by omega), by omega⟩
                       have hz : (if ov = 0 then zrr else zFive zrr) = iu (iu (iu zrr (53 + 2 * zrr 52) (zHour (zrr 10))) (53 + 2 * zrr 52 + 1) (zHour (zrr 10))) 52 (zrr 52 + 1) := by
                         rw [if_neg hc.1, zFive, if_neg (fun q => q hc.2.1), if_neg hc.2.2.1, zMk, if_neg hc.2.2.2]
                       refine k_sub (kend _ ⟨_, _, _, _, _, ⟨(by repeat (first | exact hs_eq _ _ _ | refine hs_ne (by omega) ?_ | assumption)), (by repeat (first | exact hs_eq _ _ _ | refine hs_ne (by omega) ?_ | assumption)), (by repeat (first | exact hs_eq _ _ _ | refine hs_ne (by omega) ?_ | assumption)), (by repeat (first | exact hs_eq _ _ _ | refine hs_ne (by omega) ?_ | assumption)), (by repeat (first | exact hs_eq _ _ _ | refine hs_ne (by omega) ?_ | assumption))⟩, ?_⟩ (fun aaa haa => by repeat (first | rfl | refine hs_ne (by omega) ?_))) ((And.intro rfl (And.intro rfl (And.intro rfl (And.intro rfl (And.intro rfl (And.intro rfl (And.intro rfl trivial))))))))
                       rw [hz]
                       exact ((hLR.d (by omega) rfl).d (by omega) rfl).n (by decide) (by omega))
                    | (have hc : ¬ ov = 0 ∧ zrr 10 % 60 = 0 ∧ ¬ zSil zrr ∧ zrr 52 = 4 := ⟨by omega, by omega, hs0 (by omega), by omega⟩
                       have y52 : (zDrop (iu zrr 15 (zrr 15 + zrr 54))) 52 = zrr 52 - 1 := by rw [zDrop_52, iu_ne (by decide)]
                       have hz : (if ov = 0 then zrr else zFive zrr) = iu (iu (iu (zDrop (iu zrr 15 (zrr 15 + zrr 54))) (53 + 2 * (zDrop (iu zrr 15 (zrr 15 + zrr 54))) 52) (zHour (zrr 10))) (53 + 2 * (zDrop (iu zrr 15 (zrr 15 + zrr 54))) 52 + 1) (zHour (zrr 10))) 52 ((zDrop (iu zrr 15 (zrr 15 + zrr 54))) 52 + 1) := by
                         rw [if_neg hc.1, zFive, if_neg (fun q => q hc.2.1), if_neg hc.2.2.1, zMk, if_pos hc.2.2.2]
                       refine k_sub (kend _ ⟨_, _, _, _, _, ⟨(by repeat (first | exact hs_eq _ _ _ | refine hs_ne (by omega) ?_ | assumption)), (by repeat (first | exact hs_eq _ _ _ | refine hs_ne (by omega) ?_ | assumption)), (by repeat (first | exact hs_eq _ _ _ | refine hs_ne (by omega) ?_ | assumption)), (by repeat (first | exact hs_eq _ _ _ | refine hs_ne (by omega) ?_ | assumption)), (by repeat (first | exact hs_eq _ _ _ | refine hs_ne (by omega) ?_ | assumption))⟩, ?_⟩ (fun aaa haa => by repeat (first | rfl | refine hs_ne (by omega) ?_))) ((And.intro rfl (And.intro rfl (And.intro rfl (And.intro rfl (And.intro rfl (And.intro rfl (And.intro rfl trivial))))))))
                       rw [hz]
                       exact ((((hLR.n (j := 6) (q := 15) (by decide) (by omega)).dropm (by rw [iu_ne (by decide)]; omega) (by rw [iu_ne (by decide)]; omega) (by rw [iu_ne (by decide)])).d (by omega) rfl).d (by omega) rfl).n (by decide) (by omega)))
              · try (exfalso; omega)
                all_goals (
                  refine k_aload_n C dL_minute_491 rfl ?_
                  refine k_bipush C dL_minute_492 (by decide +kernel) ?_
                  refine k_iaload C dL_minute_494 (by repeat (first | exact hs_eq _ _ _ | refine hs_ne (by omega) ?_ | assumption)) (by omega) (by omega) (by omega) ?_
                  refine k_iconst C dL_minute_495 ?_
                  refine k_icmp_ne (tgt := 516) C dL_minute_496 (by decide) ⟨by omega, by omega⟩ ⟨by omega, by omega⟩ (fun c496 => ?_) (fun c496 => ?_)
                  · try (exfalso; omega)
                    all_goals (
                      refine k_aload C dL_minute_516 rfl ?_
                      refine k_iconst C dL_minute_518 ?_
                      refine k_aload_n C dL_minute_519 rfl ?_
                      refine k_bipush C dL_minute_520 (by decide +kernel) ?_
                      refine k_iaload C dL_minute_522 (by repeat (first | exact hs_eq _ _ _ | refine hs_ne (by omega) ?_ | assumption)) (by omega) (by omega) (by omega) ?_
                      refine k_imul C dL_minute_523 ?_
                      refine k_aload_n C dL_minute_524 rfl ?_
                      refine k_iconst C dL_minute_525 ?_
                      refine k_iaload C dL_minute_526 (by repeat (first | exact hs_eq _ _ _ | refine hs_ne (by omega) ?_ | assumption)) (by omega) (by omega) (by omega) ?_
                      refine k_callS C (n := 1) (as := [_]) (ct_L_hour l D tc base _ _ (by omega) (by omega)) ml_L_8 sm_L_hour ini_L co_L_hour ⟨by decide, by decide, by decide +kernel⟩ rfl ⟨by decide, by decide⟩ rfl (Nat.le_of_ble_eq_true rfl) ⟨Nat.zero_le _, Nat.zero_le _⟩ dL_minute_527 ?_
                      rintro _ _ ⟨rfl, rfl⟩
                      rw [e1]
                      refine k_iastore C dL_minute_530 (by repeat (first | exact hs_eq _ _ _ | refine hs_ne (by omega) ?_ | assumption)) (by omega) (by omega) (by omega) ?_
                      refine k_aload C dL_minute_531 rfl ?_
                      refine k_iconst C dL_minute_533 ?_
                      refine k_aload_n C dL_minute_534 rfl ?_
                      refine k_bipush C dL_minute_535 (by decide +kernel) ?_
                      refine k_iaload C dL_minute_537 (by repeat (first | exact hs_eq _ _ _ | refine hs_ne (by omega) ?_ | assumption)) (by omega) (by omega) (by omega) ?_
                      try simp (disch := omega) only [hs_hs, iu_ne, iu_eq]
                      refine k_imul C dL_minute_538 ?_
                      refine k_iconst C dL_minute_539 ?_
                      refine k_iadd C dL_minute_540 ?_
                      refine k_aload_n C dL_minute_541 rfl ?_
                      refine k_iconst C dL_minute_542 ?_
                      refine k_iaload C dL_minute_543 (by repeat (first | exact hs_eq _ _ _ | refine hs_ne (by omega) ?_ | assumption)) (by omega) (by omega) (by omega) ?_
                      try simp (disch := omega) only [hs_hs, iu_ne, iu_eq]
                      refine k_callS C (n := 1) (as := [_]) (ct_L_hour l D tc base _ _ (by omega) (by omega)) ml_L_8 sm_L_hour ini_L co_L_hour ⟨by decide, by decide, by decide +kernel⟩ rfl ⟨by decide, by decide⟩ rfl (Nat.le_of_ble_eq_true rfl) ⟨Nat.zero_le _, Nat.zero_le _⟩ dL_minute_544 ?_
                      rintro _ _ ⟨rfl, rfl⟩
                      rw [e1]
                      refine k_iastore C dL_minute_547 (by repeat (first | exact hs_eq _ _ _ | refine hs_ne (by omega) ?_ | assumption)) (by omega) (by omega) (by omega) ?_
                      refine k_aload_n C dL_minute_548 rfl ?_
                      refine k_bipush C dL_minute_549 (by decide +kernel) ?_
                      refine k_dup2 C dL_minute_551 rfl rfl ?_
                      refine k_iaload C dL_minute_552 (by repeat (first | exact hs_eq _ _ _ | refine hs_ne (by omega) ?_ | assumption)) (by omega) (by omega) (by omega) ?_
                      try simp (disch := omega) only [hs_hs, iu_ne, iu_eq]
                      refine k_iconst C dL_minute_553 ?_
                      refine k_iadd C dL_minute_554 ?_
                      refine k_iastore C dL_minute_555 (by repeat (first | exact hs_eq _ _ _ | refine hs_ne (by omega) ?_ | assumption)) (by omega) (by omega) (by omega) ?_
                      first
                        | (have hc : ov = 0 := by omega
                           have hz : (if ov = 0 then zrr else zFive zrr) = zrr := by
                             exact if_pos hc
                           refine k_sub (kend _ ⟨_, _, _, _, _, ⟨(by repeat (first | exact hs_eq _ _ _ | refine hs_ne (by omega) ?_ | assumption)), (by repeat (first | exact hs_eq _ _ _ | refine hs_ne (by omega) ?_ | assumption)), (by repeat (first | exact hs_eq _ _ _ | refine hs_ne (by omega) ?_ | assumption)), (by repeat (first | exact hs_eq _ _ _ | refine hs_ne (by omega) ?_ | assumption)), (by repeat (first | exact hs_eq _ _ _ | refine hs_ne (by omega) ?_ | assumption))⟩, ?_⟩ (fun aaa haa => by repeat (first | rfl | refine hs_ne (by omega) ?_))) ((And.intro rfl (And.intro rfl (And.intro rfl (And.intro rfl (And.intro rfl (And.intro rfl (And.intro rfl trivial))))))))
                           rw [hz]
                           exact hLR)
                        | (have hc : ¬ ov = 0 ∧ ¬ zrr 10 % 60 = 0 := ⟨by omega, by omega⟩
                           have hz : (if ov = 0 then zrr else zFive zrr) = zrr := by
                             rw [if_neg hc.1, zFive, if_pos hc.2]
                           refine k_sub (kend _ ⟨_, _, _, _, _, ⟨(by repeat (first | exact hs_eq _ _ _ | refine hs_ne (by omega) ?_ | assumption)), (by repeat (first | exact hs_eq _ _ _ | refine hs_ne (by omega) ?_ | assumption)), (by repeat (first | exact hs_eq _ _ _ | refine hs_ne (by omega) ?_ | assumption)), (by repeat (first | exact hs_eq _ _ _ | refine hs_ne (by omega) ?_ | assumption)), (by repeat (first | exact hs_eq _ _ _ | refine hs_ne (by omega) ?_ | assumption))⟩, ?_⟩ (fun aaa haa => by repeat (first | rfl | refine hs_ne (by omega) ?_))) ((And.intro rfl (And.intro rfl (And.intro rfl (And.intro rfl (And.intro rfl (And.intro rfl (And.intro rfl trivial))))))))
                           rw [hz]
                           exact hLR)
                        | (have hc : ¬ ov = 0 ∧ zrr 10 % 60 = 0 ∧ zSil zrr := ⟨by omega, by omega, hs1 (by omega)⟩
                           have hz : (if ov = 0 then zrr else zFive zrr) = iu zrr 15 (zrr 15 + (zHour (zrr 10))) := by
                             rw [if_neg hc.1, zFive, if_neg (fun q => q hc.2.1), if_pos hc.2.2]
                           refine k_sub (kend _ ⟨_, _, _, _, _, ⟨(by repeat (first | exact hs_eq _ _ _ | refine hs_ne (by omega) ?_ | assumption)), (by repeat (first | exact hs_eq _ _ _ | refine hs_ne (by omega) ?_ | assumption)), (by repeat (first | exact hs_eq _ _ _ | refine hs_ne (by omega) ?_ | assumption)), (by repeat (first | exact hs_eq _ _ _ | refine hs_ne (by omega) ?_ | assumption)), (by repeat (first | exact hs_eq _ _ _ | refine hs_ne (by omega) ?_ | assumption))⟩, ?_⟩ (fun aaa haa => by repeat (first | rfl | refine hs_ne (by omega) ?_))) ((And.intro rfl (And.intro rfl (And.intro rfl (And.intro rfl (And.intro rfl (And.intro rfl (And.intro rfl trivial))))))))
                           rw [hz]
                           exact hLR.n (by decide) (by first | omega | (simp (disch := decide) only [iu_ne, iu_eq]; omega)))
                        | (have hc : ¬ ov = 0 ∧ zrr 10 % 60 = 0 ∧ ¬ zSil zrr ∧ ¬ zrr 52 = 4 := ⟨by omega, by omega, hs0 (by omega), by omega⟩
                           have hz : (if ov = 0 then zrr else zFive zrr) = iu (iu (iu zrr (53 + 2 * zrr 52) (zHour (zrr 10))) (53 + 2 * zrr 52 + 1) (zHour (zrr 10))) 52 (zrr 52 + 1) := by
                             rw [if_neg hc.1, zFive, if_neg (fun q => q hc.2.1), if_neg hc.2.2.1, zMk, if_neg hc.2.2.2]
                           refine k_sub (kend _ ⟨_, _, _, _, _, ⟨(by repeat (first | exact hs_eq _ _ _ | refine hs_ne (by omega) ?_ | assumption)), (by repeat (first | exact hs_eq _ _ _ | refine hs_ne (by omega) ?_ | assumption)), (by repeat (first | exact hs_eq _ _ _ | refine hs_ne (by omega) ?_ | assumption)), (by repeat (first | exact hs_eq _ _ _ | refine hs_ne (by omega) ?_ | assumption)), (by repeat (first | exact hs_eq _ _ _ | refine hs_ne (by omega) ?_ | assumption))⟩, ?_⟩ (fun aaa haa => by repeat (first | rfl | refine hs_ne (by omega) ?_))) ((And.intro rfl (And.intro rfl (And.intro rfl (And.intro rfl (And.intro rfl (And.intro rfl (And.intro rfl trivial))))))))
                           rw [hz]
                           exact ((hLR.d (by omega) rfl).d (by omega) rfl).n (by decide) (by omega))
                        | (have hc : ¬ ov = 0 ∧ zrr 10 % 60 = 0 ∧ ¬ zSil zrr ∧ zrr 52 = 4 := ⟨by omega, by omega, hs0 (by omega), by omega⟩
                           have y52 : (zDrop (iu zrr 15 (zrr 15 + zrr 54))) 52 = zrr 52 - 1 := by rw [zDrop_52, iu_ne (by decide)]
                           have hz : (if ov = 0 then zrr else zFive zrr) = iu (iu (iu (zDrop (iu zrr 15 (zrr 15 + zrr 54))) (53 + 2 * (zDrop (iu zrr 15 (zrr 15 + zrr 54))) 52) (zHour (zrr 10))) (53 + 2 * (zDrop (iu zrr 15 (zrr 15 + zrr 54))) 52 + 1) (zHour (zrr 10))) 52 ((zDrop (iu zrr 15 (zrr 15 + zrr 54))) 52 + 1) := by
                             rw [if_neg hc.1, zFive, if_neg (fun q => q hc.2.1), if_neg hc.2.2.1, zMk, if_pos hc.2.2.2]
                           refine k_sub (kend _ ⟨_, _, _, _, _, ⟨(by repeat (first | exact hs_eq _ _ _ | refine hs_ne (by omega) ?_ | assumption)), (by repeat (first | exact hs_eq _ _ _ | refine hs_ne (by omega) ?_ | assumption)), (by repeat (first | exact hs_eq _ _ _ | refine hs_ne (by omega) ?_ | assumption)), (by repeat (first | exact hs_eq _ _ _ | refine hs_ne (by omega) ?_ | assumption)), (by repeat (first | exact hs_eq _ _ _ | refine hs_ne (by omega) ?_ | assumption))⟩, ?_⟩ (fun aaa haa => by repeat (first | rfl | refine hs_ne (by omega) ?_))) ((And.intro rfl (And.intro rfl (And.intro rfl (And.intro rfl (And.intro rfl (And.intro rfl (And.intro rfl trivial))))))))
                           rw [hz]
                           exact ((((hLR.n (j := 6) (q := 15) (by decide) (by omega)).dropm (by rw [iu_ne (by decide)]; omega) (by rw [iu_ne (by decide)]; omega) (by rw [iu_ne (by decide)])).d (by omega) rfl).d (by omega) rfl).n (by decide) (by omega)))
                  · try (exfalso; omega)
                    all_goals (
                      refine k_aload_n C dL_minute_499 rfl ?_
                      refine k_bipush C dL_minute_500 (by decide +kernel) ?_
                      refine k_dup2 C dL_minute_502 rfl rfl ?_
                      refine k_iaload C dL_minute_503 (by repeat (first | exact hs_eq _ _ _ | refine hs_ne (by omega) ?_ | assumption)) (by omega) (by omega) (by omega) ?_
                      refine k_aload C dL_minute_504 rfl ?_
                      refine k_iconst C dL_minute_506 ?_
                      refine k_iaload C dL_minute_507 (by repeat (first | exact hs_eq _ _ _ | refine hs_ne (by omega) ?_ | assumption)) (by omega) (by omega) (by omega) ?_
                      refine k_iadd C dL_minute_508 ?_
                      refine k_iastore C dL_minute_509 (by repeat (first | exact hs_eq _ _ _ | refine hs_ne (by omega) ?_ | assumption)) (by omega) (by omega) (by omega) ?_
                      refine k_aload_n C dL_minute_510 rfl ?_
                      refine k_aload C dL_minute_511 rfl ?_
                      refine k_callS C (n := 2) (as := [_, _]) (ct_L_drop l D tc base an _ de _ (by repeat (first | exact hs_eq _ _ _ | refine hs_ne (by omega) ?_ | assumption)) (by repeat (first | exact hs_eq _ _ _ | refine hs_ne (by omega) ?_ | assumption)) (by simp (disch := decide) only [iu_ne]; omega)) ml_L_22 sm_L_drop ini_L co_L_drop ⟨by decide, by decide, by decide +kernel⟩ rfl ⟨by decide, by decide⟩ rfl (Nat.le_of_ble_eq_true rfl) ⟨Nat.zero_le _, Nat.zero_le _⟩ dL_minute_513 ?_
                      rintro _ _ ⟨rfl, rfl⟩
                      simp (disch := decide) only [iu_ne]
                      refine k_aload C dL_minute_516 rfl ?_
                      refine k_iconst C dL_minute_518 ?_
                      refine k_aload_n C dL_minute_519 rfl ?_
                      refine k_bipush C dL_minute_520 (by decide +kernel) ?_
                      refine k_iaload C dL_minute_522 (by repeat (first | exact hs_eq _ _ _ | refine hs_ne (by omega) ?_ | assumption)) (by omega) (by omega) (by omega) ?_
                      try simp (disch := omega) only [hs_hs, iu_ne, iu_eq]
                      refine k_imul C dL_minute_523 ?_
                      refine k_aload_n C dL_minute_524 rfl ?_
                      refine k_iconst C dL_minute_525 ?_
                      refine k_iaload C dL_minute_526 (by repeat (first | exact hs_eq _ _ _ | refine hs_ne (by omega) ?_ | assumption)) (by omega) (by omega) (by omega) ?_
                      try simp (disch := omega) only [hs_hs, iu_ne, iu_eq]
                      refine k_callS C (n := 1) (as := [_]) (ct_L_hour l D tc base _ _ (by omega) (by omega)) ml_L_8 sm_L_hour ini_L co_L_hour ⟨by decide, by decide, by decide +kernel⟩ rfl ⟨by decide, by decide⟩ rfl (Nat.le_of_ble_eq_true rfl) ⟨Nat.zero_le _, Nat.zero_le _⟩ dL_minute_527 ?_
                      rintro _ _ ⟨rfl, rfl⟩
                      rw [e1]
                      refine k_iastore C dL_minute_530 (by repeat (first | exact hs_eq _ _ _ | refine hs_ne (by omega) ?_ | assumption)) (by omega) (by omega) (by omega) ?_
                      refine k_aload C dL_minute_531 rfl ?_
                      refine k_iconst C dL_minute_533 ?_
                      refine k_aload_n C dL_minute_534 rfl ?_
                      refine k_bipush C dL_minute_535 (by decide +kernel) ?_
                      refine k_iaload C dL_minute_537 (by repeat (first | exact hs_eq _ _ _ | refine hs_ne (by omega) ?_ | assumption)) (by omega) (by omega) (by omega) ?_
                      try simp (disch := omega) only [hs_hs, iu_ne, iu_eq]
                      refine k_imul C dL_minute_538 ?_
                      refine k_iconst C dL_minute_539 ?_
                      refine k_iadd C dL_minute_540 ?_
                      refine k_aload_n C dL_minute_541 rfl ?_
                      refine k_iconst C dL_minute_542 ?_
                      refine k_iaload C dL_minute_543 (by repeat (first | exact hs_eq _ _ _ | refine hs_ne (by omega) ?_ | assumption)) (by omega) (by omega) (by omega) ?_
                      try simp (disch := omega) only [hs_hs, iu_ne, iu_eq]
                      refine k_callS C (n := 1) (as := [_]) (ct_L_hour l D tc base _ _ (by omega) (by omega)) ml_L_8 sm_L_hour ini_L co_L_hour ⟨by decide, by decide, by decide +kernel⟩ rfl ⟨by decide, by decide⟩ rfl (Nat.le_of_ble_eq_true rfl) ⟨Nat.zero_le _, Nat.zero_le _⟩ dL_minute_544 ?_
                      rintro _ _ ⟨rfl, rfl⟩
                      rw [e1]
                      refine k_iastore C dL_minute_547 (by repeat (first | exact hs_eq _ _ _ | refine hs_ne (by omega) ?_ | assumption)) (by omega) (by omega) (by omega) ?_
                      refine k_aload_n C dL_minute_548 rfl ?_
                      refine k_bipush C dL_minute_549 (by decide +kernel) ?_
                      refine k_dup2 C dL_minute_551 rfl rfl ?_
                      refine k_iaload C dL_minute_552 (by repeat (first | exact hs_eq _ _ _ | refine hs_ne (by omega) ?_ | assumption)) (by omega) (by omega) (by omega) ?_
                      try simp (disch := omega) only [hs_hs, iu_ne, iu_eq]
                      refine k_iconst C dL_minute_553 ?_
                      refine k_iadd C dL_minute_554 ?_
                      refine k_iastore C dL_minute_555 (by repeat (first | exact hs_eq _ _ _ | refine hs_ne (by omega) ?_ | assumption)) (by omega) (by omega) (by omega) ?_
                      first
                        | (have hc : ov = 0 := by omega
                           have hz : (if ov = 0 then zrr else zFive zrr) = zrr := by
                             exact if_pos hc
                           refine k_sub (kend _ ⟨_, _, _, _, _, ⟨(by repeat (first | exact hs_eq _ _ _ | refine hs_ne (by omega) ?_ | assumption)), (by repeat (first | exact hs_eq _ _ _ | refine hs_ne (by omega) ?_ | assumption)), (by repeat (first | exact hs_eq _ _ _ | refine hs_ne (by omega) ?_ | assumption)), (by repeat (first | exact hs_eq _ _ _ | refine hs_ne (by omega) ?_ | assumption)), (by repeat (first | exact hs_eq _ _ _ | refine hs_ne (by omega) ?_ | assumption))⟩, ?_⟩ (fun aaa haa => by repeat (first | rfl | refine hs_ne (by omega) ?_))) ((And.intro rfl (And.intro rfl (And.intro rfl (And.intro rfl (And.intro rfl (And.intro rfl (And.intro rfl trivial))))))))
                           rw [hz]
                           exact hLR)
                        | (have hc : ¬ ov = 0 ∧ ¬ zrr 10 % 60 = 0 := ⟨by omega, by omega⟩
                           have hz : (if ov = 0 then zrr else zFive zrr) = zrr := by
                             rw [if_neg hc.1, zFive, if_pos hc.2]
                           refine k_sub (kend _ ⟨_, _, _, _, _, ⟨(by repeat (first | exact hs_eq _ _ _ | refine hs_ne (by omega) ?_ | assumption)), (by repeat (first | exact hs_eq _ _ _ | refine hs_ne (by omega) ?_ | assumption)), (by repeat (first | exact hs_eq _ _ _ | refine hs_ne (by omega) ?_ | assumption)), (by repeat (first | exact hs_eq _ _ _ | refine hs_ne (by omega) ?_ | assumption)), (by repeat (first | exact hs_eq _ _ _ | refine hs_ne (by omega) ?_ | assumption))⟩, ?_⟩ (fun aaa haa => by repeat (first | rfl | refine hs_ne (by omega) ?_))) ((And.intro rfl (And.intro rfl (And.intro rfl (And.intro rfl (And.intro rfl (And.intro rfl (And.intro rfl trivial))))))))
                           rw [hz]
                           exact hLR)
                        | (have hc : ¬ ov = 0 ∧ zrr 10 % 60 = 0 ∧ zSil zrr := ⟨by omega, by omega, hs1 (by omega)⟩
                           have hz : (if ov = 0 then zrr else zFive zrr) = iu zrr 15 (zrr 15 + (zHour (zrr 10))) := by
                             rw [if_neg hc.1, zFive, if_neg (fun q => q hc.2.1), if_pos hc.2.2]
                           refine k_sub (kend _ ⟨_, _, _, _, _, ⟨(by repeat (first | exact hs_eq _ _ _ | refine hs_ne (by omega) ?_ | assumption)), (by repeat (first | exact hs_eq _ _ _ | refine hs_ne (by omega) ?_ | assumption)), (by repeat (first | exact hs_eq _ _ _ | refine hs_ne (by omega) ?_ | assumption)), (by repeat (first | exact hs_eq _ _ _ | refine hs_ne (by omega) ?_ | assumption)), (by repeat (first | exact hs_eq _ _ _ | refine hs_ne (by omega) ?_ | assumption))⟩, ?_⟩ (fun aaa haa => by repeat (first | rfl | refine hs_ne (by omega) ?_))) ((And.intro rfl (And.intro rfl (And.intro rfl (And.intro rfl (And.intro rfl (And.intro rfl (And.intro rfl trivial))))))))
                           rw [hz]
                           exact hLR.n (by decide) (by first | omega | (simp (disch := decide) only [iu_ne, iu_eq]; omega)))
                        | (have hc : ¬ ov = 0 ∧ zrr 10 % 60 = 0 ∧ ¬ zSil zrr ∧ ¬ zrr 52 = 4 := ⟨by omega, by omega, hs0 (by omega), by omega⟩
                           have hz : (if ov = 0 then zrr else zFive zrr) = iu (iu (iu zrr (53 + 2 * zrr 52) (zHour (zrr 10))) (53 + 2 * zrr 52 + 1) (zHour (zrr 10))) 52 (zrr 52 + 1) := by
                             rw [if_neg hc.1, zFive, if_neg (fun q => q hc.2.1), if_neg hc.2.2.1, zMk, if_neg hc.2.2.2]
                           refine k_sub (kend _ ⟨_, _, _, _, _, ⟨(by repeat (first | exact hs_eq _ _ _ | refine hs_ne (by omega) ?_ | assumption)), (by repeat (first | exact hs_eq _ _ _ | refine hs_ne (by omega) ?_ | assumption)), (by repeat (first | exact hs_eq _ _ _ | refine hs_ne (by omega) ?_ | assumption)), (by repeat (first | exact hs_eq _ _ _ | refine hs_ne (by omega) ?_ | assumption)), (by repeat (first | exact hs_eq _ _ _ | refine hs_ne (by omega) ?_ | assumption))⟩, ?_⟩ (fun aaa haa => by repeat (first | rfl | refine hs_ne (by omega) ?_))) ((And.intro rfl (And.intro rfl (And.intro rfl (And.intro rfl (And.intro rfl (And.intro rfl (And.intro rfl trivial))))))))
                           rw [hz]
                           exact ((hLR.d (by omega) rfl).d (by omega) rfl).n (by decide) (by omega))
                        | (have hc : ¬ ov = 0 ∧ zrr 10 % 60 = 0 ∧ ¬ zSil zrr ∧ zrr 52 = 4 := ⟨by omega, by omega, hs0 (by omega), by omega⟩
                           have y52 : (zDrop (iu zrr 15 (zrr 15 + zrr 54))) 52 = zrr 52 - 1 := by rw [zDrop_52, iu_ne (by decide)]
                           have hz : (if ov = 0 then zrr else zFive zrr) = iu (iu (iu (zDrop (iu zrr 15 (zrr 15 + zrr 54))) (53 + 2 * (zDrop (iu zrr 15 (zrr 15 + zrr 54))) 52) (zHour (zrr 10))) (53 + 2 * (zDrop (iu zrr 15 (zrr 15 + zrr 54))) 52 + 1) (zHour (zrr 10))) 52 ((zDrop (iu zrr 15 (zrr 15 + zrr 54))) 52 + 1) := by
                             rw [if_neg hc.1, zFive, if_neg (fun q => q hc.2.1), if_neg hc.2.2.1, zMk, if_pos hc.2.2.2]
                           refine k_sub (kend _ ⟨_, _, _, _, _, ⟨(by repeat (first | exact hs_eq _ _ _ | refine hs_ne (by omega) ?_ | assumption)), (by repeat (first | exact hs_eq _ _ _ | refine hs_ne (by omega) ?_ | assumption)), (by repeat (first | exact hs_eq _ _ _ | refine hs_ne (by omega) ?_ | assumption)), (by repeat (first | exact hs_eq _ _ _ | refine hs_ne (by omega) ?_ | assumption)), (by repeat (first | exact hs_eq _ _ _ | refine hs_ne (by omega) ?_ | assumption))⟩, ?_⟩ (fun aaa haa => by repeat (first | rfl | refine hs_ne (by omega) ?_))) ((And.intro rfl (And.intro rfl (And.intro rfl (And.intro rfl (And.intro rfl (And.intro rfl (And.intro rfl trivial))))))))
                           rw [hz]
                           exact ((((hLR.n (j := 6) (q := 15) (by decide) (by omega)).dropm (by rw [iu_ne (by decide)]; omega) (by rw [iu_ne (by decide)]; omega) (by rw [iu_ne (by decide)])).d (by omega) rfl).d (by omega) rfl).n (by decide) (by omega)))))))
  · try (exfalso; omega)
    all_goals (
      refine k_aload_n C dL_minute_445 rfl ?_
      refine k_iconst C dL_minute_446 ?_
      refine k_iaload C dL_minute_447 (by repeat (first | exact hs_eq _ _ _ | refine hs_ne (by omega) ?_ | assumption)) (by omega) (by omega) (by omega) ?_
      refine k_bipush C dL_minute_448 (by decide +kernel) ?_
      refine k_irem C dL_minute_450 (by omega) (by omega) (by omega) (by omega) ?_
      refine k_if_ne (tgt := 472) C dL_minute_451 (by decide) ⟨by omega, by omega⟩ (fun c451 => ?_) (fun c451 => ?_)
      · try (exfalso; omega)
        all_goals (
          refine k_iload C dL_minute_472 rfl ?_
          refine k_if_eq (tgt := 556) C dL_minute_474 (by decide) ⟨by omega, by omega⟩ (fun c474 => ?_) (fun c474 => ?_)
          · try (exfalso; omega)
            all_goals (
              first
                | (have hc : ov = 0 := by omega
                   have hz : (if ov = 0 then zrr else zFive zrr) = zrr := by
                     exact if_pos hc
                   refine k_sub (kend _ ⟨_, _, _, _, _, ⟨(by repeat (first | exact hs_eq _ _ _ | refine hs_ne (by omega) ?_ | assumption)), (by repeat (first | exact hs_eq _ _ _ | refine hs_ne (by omega) ?_ | assumption)), (by repeat (first | exact hs_eq _ _ _ | refine hs_ne (by omega) ?_ | assumption)), (by repeat (first | exact hs_eq _ _ _ | refine hs_ne (by omega) ?_ | assumption)), (by repeat (first | exact hs_eq _ _ _ | refine hs_ne (by omega) ?_ | assumption))⟩, ?_⟩ (fun aaa haa => by repeat (first | rfl | refine hs_ne (by omega) ?_))) ((And.intro rfl (And.intro rfl (And.intro rfl (And.intro rfl (And.intro rfl (And.intro rfl (And.intro rfl trivial))))))))
                   rw [hz]
                   exact hLR)
                | (have hc : ¬ ov = 0 ∧ ¬ zrr 10 % 60 = 0 := ⟨by omega, by omega⟩
                   have hz : (if ov = 0 then zrr else zFive zrr) = zrr := by
                     rw [if_neg hc.1, zFive, if_pos hc.2]
                   refine k_sub (kend _ ⟨_, _, _, _, _, ⟨(by repeat (first | exact hs_eq _ _ _ | refine hs_ne (by omega) ?_ | assumption)), (by repeat (first | exact hs_eq _ _ _ | refine hs_ne (by omega) ?_ | assumption)), (by repeat (first | exact hs_eq _ _ _ | refine hs_ne (by omega) ?_ | assumption)), (by repeat (first | exact hs_eq _ _ _ | refine hs_ne (by omega) ?_ | assumption)), (by repeat (first | exact hs_eq _ _ _ | refine hs_ne (by omega) ?_ | assumption))⟩, ?_⟩ (fun aaa haa => by repeat (first | rfl | refine hs_ne (by omega) ?_))) ((And.intro rfl (And.intro rfl (And.intro rfl (And.intro rfl (And.intro rfl (And.intro rfl (And.intro rfl trivial))))))))
                   rw [hz]
                   exact hLR)
                | (have hc : ¬ ov = 0 ∧ zrr 10 % 60 = 0 ∧ zSil zrr := ⟨by omega, by omega, hs1 (by omega)⟩
                   have hz : (if ov = 0 then zrr else zFive zrr) = iu zrr 15 (zrr 15 + (zHour (zrr 10))) := by
                     rw [if_neg hc.1, zFive, if_neg (fun q => q hc.2.1), if_pos hc.2.2]
                   refine k_sub (kend _ ⟨_, _, _, _, _, ⟨(by repeat (first | exact hs_eq _ _ _ | refine hs_ne (by omega) ?_ | assumption)), (by repeat (first | exact hs_eq _ _ _ | refine hs_ne (by omega) ?_ | assumption)), (by repeat (first | exact hs_eq _ _ _ | refine hs_ne (by omega) ?_ | assumption)), (by repeat (first | exact hs_eq _ _ _ | refine hs_ne (by omega) ?_ | assumption)), (by repeat (first | exact hs_eq _ _ _ | refine hs_ne (by omega) ?_ | assumption))⟩, ?_⟩ (fun aaa haa => by repeat (first | rfl | refine hs_ne (by omega) ?_))) ((And.intro rfl (And.intro rfl (And.intro rfl (And.intro rfl (And.intro rfl (And.intro rfl (And.intro rfl trivial))))))))
                   rw [hz]
                   exact hLR.n (by decide) (by first | omega | (simp (disch := decide) only [iu_ne, iu_eq]; omega)))
                | (have hc : ¬ ov = 0 ∧ zrr 10 % 60 = 0 ∧ ¬ zSil zrr ∧ ¬ zrr 52 = 4 := ⟨by omega, by omega, hs0 (by omega), by omega⟩
                   have hz : (if ov = 0 then zrr else zFive zrr) = iu (iu (iu zrr (53 + 2 * zrr 52) (zHour (zrr 10))) (53 + 2 * zrr 52 + 1) (zHour (zrr 10))) 52 (zrr 52 + 1) := by
                     rw [if_neg hc.1, zFive, if_neg (fun q => q hc.2.1), if_neg hc.2.2.1, zMk, if_neg hc.2.2.2]
                   refine k_sub (kend _ ⟨_, _, _, _, _, ⟨(by repeat (first | exact hs_eq _ _ _ | refine hs_ne (by omega) ?_ | assumption)), (by repeat (first | exact hs_eq _ _ _ | refine hs_ne (by omega) ?_ | assumption)), (by repeat (first | exact hs_eq _ _ _ | refine hs_ne (by omega) ?_ | assumption)), (by repeat (first | exact hs_eq _ _ _ | refine hs_ne (by omega) ?_ | assumption)), (by repeat (first | exact hs_eq _ _ _ | refine hs_ne (by omega) ?_ | assumption))⟩, ?_⟩ (fun aaa haa => by repeat (first | rfl | refine hs_ne (by omega) ?_))) ((And.intro rfl (And.intro rfl (And.intro rfl (And.intro rfl (And.intro rfl (And.intro rfl (And.intro rfl trivial))))))))
                   rw [hz]
                   exact ((hLR.d (by omega) rfl).d (by omega) rfl).n (by decide) (by omega))
                | (have hc : ¬ ov = 0 ∧ zrr 10 % 60 = 0 ∧ ¬ zSil zrr ∧ zrr 52 = 4 := ⟨by omega, by omega, hs0 (by omega), by omega⟩
                   have y52 : (zDrop (iu zrr 15 (zrr 15 + zrr 54))) 52 = zrr 52 - 1 := by rw [zDrop_52, iu_ne (by decide)]
                   have hz : (if ov = 0 then zrr else zFive zrr) = iu (iu (iu (zDrop (iu zrr 15 (zrr 15 + zrr 54))) (53 + 2 * (zDrop (iu zrr 15 (zrr 15 + zrr 54))) 52) (zHour (zrr 10))) (53 + 2 * (zDrop (iu zrr 15 (zrr 15 + zrr 54))) 52 + 1) (zHour (zrr 10))) 52 ((zDrop (iu zrr 15 (zrr 15 + zrr 54))) 52 + 1) := by
                     rw [if_neg hc.1, zFive, if_neg (fun q => q hc.2.1), if_neg hc.2.2.1, zMk, if_pos hc.2.2.2]
                   refine k_sub (kend _ ⟨_, _, _, _, _, ⟨(by repeat (first | exact hs_eq _ _ _ | refine hs_ne (by omega) ?_ | assumption)), (by repeat (first | exact hs_eq _ _ _ | refine hs_ne (by omega) ?_ | assumption)), (by repeat (first | exact hs_eq _ _ _ | refine hs_ne (by omega) ?_ | assumption)), (by repeat (first | exact hs_eq _ _ _ | refine hs_ne (by omega) ?_ | assumption)), (by repeat (first | exact hs_eq _ _ _ | refine hs_ne (by omega) ?_ | assumption))⟩, ?_⟩ (fun aaa haa => by repeat (first | rfl | refine hs_ne (by omega) ?_))) ((And.intro rfl (And.intro rfl (And.intro rfl (And.intro rfl (And.intro rfl (And.intro rfl (And.intro rfl trivial))))))))
                   rw [hz]
                   exact ((((hLR.n (j := 6) (q := 15) (by decide) (by omega)).dropm (by rw [iu_ne (by decide)]; omega) (by rw [iu_ne (by decide)]; omega) (by rw [iu_ne (by decide)])).d (by omega) rfl).d (by omega) rfl).n (by decide) (by omega)))
          · try (exfalso; omega)
            all_goals (
              refine k_aload_n C dL_minute_477 rfl ?_
              refine k_iconst C dL_minute_478 ?_
              refine k_iaload C dL_minute_479 (by repeat (first | exact hs_eq _ _ _ | refine hs_ne (by omega) ?_ | assumption)) (by omega) (by omega) (by omega) ?_
              refine k_bipush C dL_minute_480 (by decide +kernel) ?_
              refine k_irem C dL_minute_482 (by omega) (by omega) (by omega) (by omega) ?_
              refine k_if_ne (tgt := 556) C dL_minute_483 (by decide) ⟨by omega, by omega⟩ (fun c483 => ?_) (fun c483 => ?_)
              · try (exfalso; omega)
                all_goals (
                  first
                    | (have hc : ov = 0 := by omega
                       have hz : (if ov = 0 then zrr else zFive zrr) = zrr := by
                         exact if_pos hc
                       refine k_sub (kend _ ⟨_, _, _, _, _, ⟨(by repeat (first | exact hs_eq _ _ _ | refine hs_ne (by omega) ?_ | assumption)), (by repeat (first | exact hs_eq _ _ _ | refine hs_ne (by omega) ?_ | assumption)), (by repeat (first | exact hs_eq _ _ _ | refine hs_ne (by omega) ?_ | assumption)), (by repeat (first | exact hs_eq _ _ _ | refine hs_ne (by omega) ?_ | assumption)), (by repeat (first | exact hs_eq _ _ _ | refine hs_ne (by omega) ?_ | assumption))⟩, ?_⟩ (fun aaa haa => by repeat (first | rfl | refine hs_ne (by omega) ?_))) ((And.intro rfl (And.intro rfl (And.intro rfl (And.intro rfl (And.intro rfl (And.intro rfl (And.intro rfl trivial))))))))
                       rw [hz]
                       exact hLR)
                    | (have hc : ¬ ov = 0 ∧ ¬ zrr 10 % 60 = 0 := ⟨by omega, by omega⟩
                       have hz : (if ov = 0 then zrr else zFive zrr) = zrr := by
                         rw [if_neg hc.1, zFive, if_pos hc.2]
                       refine k_sub (kend _ ⟨_, _, _, _, _, ⟨(by repeat (first | exact hs_eq _ _ _ | refine hs_ne (by omega) ?_ | assumption)), (by repeat (first | exact hs_eq _ _ _ | refine hs_ne (by omega) ?_ | assumption)), (by repeat (first | exact hs_eq _ _ _ | refine hs_ne (by omega) ?_ | assumption)), (by repeat (first | exact hs_eq _ _ _ | refine hs_ne (by omega) ?_ | assumption)), (by repeat (first | exact hs_eq _ _ _ | refine hs_ne (by omega) ?_ | assumption))⟩, ?_⟩ (fun aaa haa => by repeat (first | rfl | refine hs_ne (by omega) ?_))) ((And.intro rfl (And.intro rfl (And.intro rfl (And.intro rfl (And.intro rfl (And.intro rfl (And.intro rfl trivial))))))))
                       rw [hz]
                       exact hLR)
                    | (have hc : ¬ ov = 0 ∧ zrr 10 % 60 = 0 ∧ zSil zrr := ⟨by omega, by omega, hs1 (by omega)⟩
                       have hz : (if ov = 0 then zrr else zFive zrr) = iu zrr 15 (zrr 15 + (zHour (zrr 10))) := by
                         rw [if_neg hc.1, zFive, if_neg (fun q => q hc.2.1), if_pos hc.2.2]
                       refine k_sub (kend _ ⟨_, _, _, _, _, ⟨(by repeat (first | exact hs_eq _ _ _ | refine hs_ne (by omega) ?_ | assumption)), (by repeat (first | exact hs_eq _ _ _ | refine hs_ne (by omega) ?_ | assumption)), (by repeat (first | exact hs_eq _ _ _ | refine hs_ne (by omega) ?_ | assumption)), (by repeat (first | exact hs_eq _ _ _ | refine hs_ne (by omega) ?_ | assumption)), (by repeat (first | exact hs_eq _ _ _ | refine hs_ne (by omega) ?_ | assumption))⟩, ?_⟩ (fun aaa haa => by repeat (first | rfl | refine hs_ne (by omega) ?_))) ((And.intro rfl (And.intro rfl (And.intro rfl (And.intro rfl (And.intro rfl (And.intro rfl (And.intro rfl trivial))))))))
                       rw [hz]
                       exact hLR.n (by decide) (by first | omega | (simp (disch := decide) only [iu_ne, iu_eq]; omega)))
                    | (have hc : ¬ ov = 0 ∧ zrr 10 % 60 = 0 ∧ ¬ zSil zrr ∧ ¬ zrr 52 = 4 := ⟨by omega, by omega, hs0 (by omega), by omega⟩
                       have hz : (if ov = 0 then zrr else zFive zrr) = iu (iu (iu zrr (53 + 2 * zrr 52) (zHour (zrr 10))) (53 + 2 * zrr 52 + 1) (zHour (zrr 10))) 52 (zrr 52 + 1) := by
                         rw [if_neg hc.1, zFive, if_neg (fun q => q hc.2.1), if_neg hc.2.2.1, zMk, if_neg hc.2.2.2]
                       refine k_sub (kend _ ⟨_, _, _, _, _, ⟨(by repeat (first | exact hs_eq _ _ _ | refine hs_ne (by omega) ?_ | assumption)), (by repeat (first | exact hs_eq _ _ _ | refine hs_ne (by omega) ?_ | assumption)), (by repeat (first | exact hs_eq _ _ _ | refine hs_ne (by omega) ?_ | assumption)), (by repeat (first | exact hs_eq _ _ _ | refine hs_ne (by omega) ?_ | assumption)), (by repeat (first | exact hs_eq _ _ _ | refine hs_ne (by omega) ?_ | assumption))⟩, ?_⟩ (fun aaa haa => by repeat (first | rfl | refine hs_ne (by omega) ?_))) ((And.intro rfl (And.intro rfl (And.intro rfl (And.intro rfl (And.intro rfl (And.intro rfl (And.intro rfl trivial))))))))
                       rw [hz]
                       exact ((hLR.d (by omega) rfl).d (by omega) rfl).n (by decide) (by omega))
                    | (have hc : ¬ ov = 0 ∧ zrr 10 % 60 = 0 ∧ ¬ zSil zrr ∧ zrr 52 = 4 := ⟨by omega, by omega, hs0 (by omega), by omega⟩
                       have y52 : (zDrop (iu zrr 15 (zrr 15 + zrr 54))) 52 = zrr 52 - 1 := by rw [zDrop_52, iu_ne (by decide)]
                       have hz : (if ov = 0 then zrr else zFive zrr) = iu (iu (iu (zDrop (iu zrr 15 (zrr 15 + zrr 54))) (53 + 2 * (zDrop (iu zrr 15 (zrr 15 + zrr 54))) 52) (zHour (zrr 10))) (53 + 2 * (zDrop (iu zrr 15 (zrr 15 + zrr 54))) 52 + 1) (zHour (zrr 10))) 52 ((zDrop (iu zrr 15 (zrr 15 + zrr 54))) 52 + 1) := by
                         rw [if_neg hc.1, zFive, if_neg (fun q => q hc.2.1), if_neg hc.2.2.1, zMk, if_pos hc.2.2.2]
                       refine k_sub (kend _ ⟨_, _, _, _, _, ⟨(by repeat (first | exact hs_eq _ _ _ | refine hs_ne (by omega) ?_ | assumption)), (by repeat (first | exact hs_eq _ _ _ | refine hs_ne (by omega) ?_ | assumption)), (by repeat (first | exact hs_eq _ _ _ | refine hs_ne (by omega) ?_ | assumption)), (by repeat (first | exact hs_eq _ _ _ | refine hs_ne (by omega) ?_ | assumption)), (by repeat (first | exact hs_eq _ _ _ | refine hs_ne (by omega) ?_ | assumption))⟩, ?_⟩ (fun aaa haa => by repeat (first | rfl | refine hs_ne (by omega) ?_))) ((And.intro rfl (And.intro rfl (And.intro rfl (And.intro rfl (And.intro rfl (And.intro rfl (And.intro rfl trivial))))))))
                       rw [hz]
                       exact ((((hLR.n (j := 6) (q := 15) (by decide) (by omega)).dropm (by rw [iu_ne (by decide)]; omega) (by rw [iu_ne (by decide)]; omega) (by rw [iu_ne (by decide)])).d (by omega) rfl).d (by omega) rfl).n (by decide) (by omega)))
              · try (exfalso; omega)
                all_goals (
                  refine k_iload C dL_minute_486 rfl ?_
                  refine k_if_ne (tgt := 556) C dL_minute_488 (by decide) ⟨by omega, by omega⟩ (fun c488 => ?_) (fun c488 => ?_)
                  · try (exfalso; omega)
                    all_goals (
                      first
                        | (have hc : ov = 0 := by omega
                           have hz : (if ov = 0 then zrr else zFive zrr) = zrr := by
                             exact if_pos hc
                           refine k_sub (kend _ ⟨_, _, _, _, _, ⟨(by repeat (first | exact hs_eq _ _ _ | refine hs_ne (by omega) ?_ | assumption)), (by repeat (first | exact hs_eq _ _ _ | refine hs_ne (by omega) ?_ | assumption)), (by repeat (first | exact hs_eq _ _ _ | refine hs_ne (by omega) ?_ | assumption)), (by repeat (first | exact hs_eq _ _ _ | refine hs_ne (by omega) ?_ | assumption)), (by repeat (first | exact hs_eq _ _ _ | refine hs_ne (by omega) ?_ | assumption))⟩, ?_⟩ (fun aaa haa => by repeat (first | rfl | refine hs_ne (by omega) ?_))) ((And.intro rfl (And.intro rfl (And.intro rfl (And.intro rfl (And.intro rfl (And.intro rfl (And.intro rfl trivial))))))))
                           rw [hz]
                           exact hLR)
                        | (have hc : ¬ ov = 0 ∧ ¬ zrr 10 % 60 = 0 := ⟨by omega, by omega⟩
                           have hz : (if ov = 0 then zrr else zFive zrr) = zrr := by
                             rw [if_neg hc.1, zFive, if_pos hc.2]
                           refine k_sub (kend _ ⟨_, _, _, _, _, ⟨(by repeat (first | exact hs_eq _ _ _ | refine hs_ne (by omega) ?_ | assumption)), (by repeat (first | exact hs_eq _ _ _ | refine hs_ne (by omega) ?_ | assumption)), (by repeat (first | exact hs_eq _ _ _ | refine hs_ne (by omega) ?_ | assumption)), (by repeat (first | exact hs_eq _ _ _ | refine hs_ne (by omega) ?_ | assumption)), (by repeat (first | exact hs_eq _ _ _ | refine hs_ne (by omega) ?_ | assumption))⟩, ?_⟩ (fun aaa haa => by repeat (first | rfl | refine hs_ne (by omega) ?_))) ((And.intro rfl (And.intro rfl (And.intro rfl (And.intro rfl (And.intro rfl (And.intro rfl (And.intro rfl trivial))))))))
                           rw [hz]
                           exact hLR)
                        | (have hc : ¬ ov = 0 ∧ zrr 10 % 60 = 0 ∧ zSil zrr := ⟨by omega, by omega, hs1 (by omega)⟩
                           have hz : (if ov = 0 then zrr else zFive zrr) = iu zrr 15 (zrr 15 + (zHour (zrr 10))) := by
                             rw [if_neg hc.1, zFive, if_neg (fun q => q hc.2.1), if_pos hc.2.2]
                           refine k_sub (kend _ ⟨_, _, _, _, _, ⟨(by repeat (first | exact hs_eq _ _ _ | refine hs_ne (by omega) ?_ | assumption)), (by repeat (first | exact hs_eq _ _ _ | refine hs_ne (by omega) ?_ | assumption)), (by repeat (first | exact hs_eq _ _ _ | refine hs_ne (by omega) ?_ | assumption)), (by repeat (first | exact hs_eq _ _ _ | refine hs_ne (by omega) ?_ | assumption)), (by repeat (first | exact hs_eq _ _ _ | refine hs_ne (by omega) ?_ | assumption))⟩, ?_⟩ (fun aaa haa => by repeat (first | rfl | refine hs_ne (by omega) ?_))) ((And.intro rfl (And.intro rfl (And.intro rfl (And.intro rfl (And.intro rfl (And.intro rfl (And.intro rfl trivial))))))))
                           rw [hz]
                           exact hLR.n (by decide) (by first | omega | (simp (disch := decide) only [iu_ne, iu_eq]; omega)))
                        | (have hc : ¬ ov = 0 ∧ zrr 10 % 60 = 0 ∧ ¬ zSil zrr ∧ ¬ zrr 52 = 4 := ⟨by omega, by omega, hs0 (by omega), by omega⟩
                           have hz : (if ov = 0 then zrr else zFive zrr) = iu (iu (iu zrr (53 + 2 * zrr 52) (zHour (zrr 10))) (53 + 2 * zrr 52 + 1) (zHour (zrr 10))) 52 (zrr 52 + 1) := by
                             rw [if_neg hc.1, zFive, if_neg (fun q => q hc.2.1), if_neg hc.2.2.1, zMk, if_neg hc.2.2.2]
                           refine k_sub (kend _ ⟨_, _, _, _, _, ⟨(by repeat (first | exact hs_eq _ _ _ | refine hs_ne (by omega) ?_ | assumption)), (by repeat (first | exact hs_eq _ _ _ | refine hs_ne (by omega) ?_ | assumption)), (by repeat (first | exact hs_eq _ _ _ | refine hs_ne (by omega) ?_ | assumption)), (by repeat (first | exact hs_eq _ _ _ | refine hs_ne (by omega) ?_ | assumption)), (by repeat (first | exact hs_eq _ _ _ | refine hs_ne (by omega) ?_ | assumption))⟩, ?_⟩ (fun aaa haa => by repeat (first | rfl | refine hs_ne (by omega) ?_))) ((And.intro rfl (And.intro rfl (And.intro rfl (And.intro rfl (And.intro rfl (And.intro rfl (And.intro rfl trivial))))))))
                           rw [hz]
                           exact ((hLR.d (by omega) rfl).d (by omega) rfl).n (by decide) (by omega))
                        | (have hc : ¬ ov = 0 ∧ zrr 10 % 60 = 0 ∧ ¬ zSil zrr ∧ zrr 52 = 4 := ⟨by omega, by omega, hs0 (by omega), by omega⟩
                           have y52 : (zDrop (iu zrr 15 (zrr 15 + zrr 54))) 52 = zrr 52 - 1 := by rw [zDrop_52, iu_ne (by decide)]
                           have hz : (if ov = 0 then zrr else zFive zrr) = iu (iu (iu (zDrop (iu zrr 15 (zrr 15 + zrr 54))) (53 + 2 * (zDrop (iu zrr 15 (zrr 15 + zrr 54))) 52) (zHour (zrr 10))) (53 + 2 * (zDrop (iu zrr 15 (zrr 15 + zrr 54))) 52 + 1) (zHour (zrr 10))) 52 ((zDrop (iu zrr 15 (zrr 15 + zrr 54))) 52 + 1) := by
                             rw [if_neg hc.1, zFive, if_neg (fun q => q hc.2.1), if_neg hc.2.2.1, zMk, if_pos hc.2.2.2]
                           refine k_sub (kend _ ⟨_, _, _, _, _, ⟨(by repeat (first | exact hs_eq _ _ _ | refine hs_ne (by omega) ?_ | assumption)), (by repeat (first | exact hs_eq _ _ _ | refine hs_ne (by omega) ?_ | assumption)), (by repeat (first | exact hs_eq _ _ _ | refine hs_ne (by omega) ?_ | assumption)), (by repeat (first | exact hs_eq _ _ _ | refine hs_ne (by omega) ?_ | assumption)), (by repeat (first | exact hs_eq _ _ _ | refine hs_ne (by omega) ?_ | assumption))⟩, ?_⟩ (fun aaa haa => by repeat (first | rfl | refine hs_ne (by omega) ?_))) ((And.intro rfl (And.intro rfl (And.intro rfl (And.intro rfl (And.intro rfl (And.intro rfl (And.intro rfl trivial))))))))
                           rw [hz]
                           exact ((((hLR.n (j := 6) (q := 15) (by decide) (by omega)).dropm (by rw [iu_ne (by decide)]; omega) (by rw [iu_ne (by decide)]; omega) (by rw [iu_ne (by decide)])).d (by omega) rfl).d (by omega) rfl).n (by decide) (by omega)))
                  · try (exfalso; omega)
                    all_goals (
                      refine k_aload_n C dL_minute_491 rfl ?_
                      refine k_bipush C dL_minute_492 (by decide +kernel) ?_
                      refine k_iaload C dL_minute_494 (by repeat (first | exact hs_eq _ _ _ | refine hs_ne (by omega) ?_ | assumption)) (by omega) (by omega) (by omega) ?_
                      refine k_iconst C dL_minute_495 ?_
                      refine k_icmp_ne (tgt := 516) C dL_minute_496 (by decide) ⟨by omega, by omega⟩ ⟨by omega, by omega⟩ (fun c496 => ?_) (fun c496 => ?_)
                      · try (exfalso; omega)
                        all_goals (
                          refine k_aload C dL_minute_516 rfl ?_
                          refine k_iconst C dL_minute_518 ?_
                          refine k_aload_n C dL_minute_519 rfl ?_
                          refine k_bipush C dL_minute_520 (by decide +kernel) ?_
                          refine k_iaload C dL_minute_522 (by repeat (first | exact hs_eq _ _ _ | refine hs_ne (by omega) ?_ | assumption)) (by omega) (by omega) (by omega) ?_
                          refine k_imul C dL_minute_523 ?_
                          refine k_aload_n C dL_minute_524 rfl ?_
                          refine k_iconst C dL_minute_525 ?_
                          refine k_iaload C dL_minute_526 (by repeat (first | exact hs_eq _ _ _ | refine hs_ne (by omega) ?_ | assumption)) (by omega) (by omega) (by omega) ?_
                          refine k_callS C (n := 1) (as := [_]) (ct_L_hour l D tc base _ _ (by omega) (by omega)) ml_L_8 sm_L_hour ini_L co_L_hour ⟨by decide, by decide, by decide +kernel⟩ rfl ⟨by decide, by decide⟩ rfl (Nat.le_of_ble_eq_true rfl) ⟨Nat.zero_le _, Nat.zero_le _⟩ dL_minute_527 ?_
                          rintro _ _ ⟨rfl, rfl⟩
                          rw [e1]
                          refine k_iastore C dL_minute_530 (by repeat (first | exact hs_eq _ _ _ | refine hs_ne (by omega) ?_ | assumption)) (by omega) (by omega) (by omega) ?_
                          refine k_aload C dL_minute_531 rfl ?_
                          refine k_iconst C dL_minute_533 ?_
                          refine k_aload_n C dL_minute_534 rfl ?_
                          refine k_bipush C dL_minute_535 (by decide +kernel) ?_
                          refine k_iaload C dL_minute_537 (by repeat (first | exact hs_eq _ _ _ | refine hs_ne (by omega) ?_ | assumption)) (by omega) (by omega) (by omega) ?_
                          try simp (disch := omega) only [hs_hs, iu_ne, iu_eq]
                          refine k_imul C dL_minute_538 ?_
                          refine k_iconst C dL_minute_539 ?_
                          refine k_iadd C dL_minute_540 ?_
                          refine k_aload_n C dL_minute_541 rfl ?_
                          refine k_iconst C dL_minute_542 ?_
                          refine k_iaload C dL_minute_543 (by repeat (first | exact hs_eq _ _ _ | refine hs_ne (by omega) ?_ | assumption)) (by omega) (by omega) (by omega) ?_
                          try simp (disch := omega) only [hs_hs, iu_ne, iu_eq]
                          refine k_callS C (n := 1) (as := [_]) (ct_L_hour l D tc base _ _ (by omega) (by omega)) ml_L_8 sm_L_hour ini_L co_L_hour ⟨by decide, by decide, by decide +kernel⟩ rfl ⟨by decide, by decide⟩ rfl (Nat.le_of_ble_eq_true rfl) ⟨Nat.zero_le _, Nat.zero_le _⟩ dL_minute_544 ?_
                          rintro _ _ ⟨rfl, rfl⟩
                          rw [e1]
                          refine k_iastore C dL_minute_547 (by repeat (first | exact hs_eq _ _ _ | refine hs_ne (by omega) ?_ | assumption)) (by omega) (by omega) (by omega) ?_
                          refine k_aload_n C dL_minute_548 rfl ?_
                          refine k_bipush C dL_minute_549 (by decide +kernel) ?_
                          refine k_dup2 C dL_minute_551 rfl rfl ?_
                          refine k_iaload C dL_minute_552 (by repeat (first | exact hs_eq _ _ _ | refine hs_ne (by omega) ?_ | assumption)) (by omega) (by omega) (by omega) ?_
                          try simp (disch := omega) only [hs_hs, iu_ne, iu_eq]
                          refine k_iconst C dL_minute_553 ?_
                          refine k_iadd C dL_minute_554 ?_
                          refine k_iastore C dL_minute_555 (by repeat (first | exact hs_eq _ _ _ | refine hs_ne (by omega) ?_ | assumption)) (by omega) (by omega) (by omega) ?_
                          first
                            | (have hc : ov = 0 := by omega
                               have hz : (if ov = 0 then zrr else zFive zrr) = zrr := by
                                 exact if_pos hc
                               refine k_sub (kend _ ⟨_, _, _, _, _, ⟨(by repeat (first | exact hs_eq _ _ _ | refine hs_ne (by omega) ?_ | assumption)), (by repeat (first | exact hs_eq _ _ _ | refine hs_ne (by omega) ?_ | assumption)), (by repeat (first | exact hs_eq _ _ _ | refine hs_ne (by omega) ?_ | assumption)), (by repeat (first | exact hs_eq _ _ _ | refine hs_ne (by omega) ?_ | assumption)), (by repeat (first | exact hs_eq _ _ _ | refine hs_ne (by omega) ?_ | assumption))⟩, ?_⟩ (fun aaa haa => by repeat (first | rfl | refine hs_ne (by omega) ?_))) ((And.intro rfl (And.intro rfl (And.intro rfl (And.intro rfl (And.intro rfl (And.intro rfl (And.intro rfl trivial))))))))
                               rw [hz]
                               exact hLR)
                            | (have hc : ¬ ov = 0 ∧ ¬ zrr 10 % 60 = 0 := ⟨by omega, by omega⟩
                               have hz : (if ov = 0 then zrr else zFive zrr) = zrr := by
                                 rw [if_neg hc.1, zFive, if_pos hc.2]
                               refine k_sub (kend _ ⟨_, _, _, _, _, ⟨(by repeat (first | exact hs_eq _ _ _ | refine hs_ne (by omega) ?_ | assumption)), (by repeat (first | exact hs_eq _ _ _ | refine hs_ne (by omega) ?_ | assumption)), (by repeat (first | exact hs_eq _ _ _ | refine hs_ne (by omega) ?_ | assumption)), (by repeat (first | exact hs_eq _ _ _ | refine hs_ne (by omega) ?_ | assumption)), (by repeat (first | exact hs_eq _ _ _ | refine hs_ne (by omega) ?_ | assumption))⟩, ?_⟩ (fun aaa haa => by repeat (first | rfl | refine hs_ne (by omega) ?_))) ((And.intro rfl (And.intro rfl (And.intro rfl (And.intro rfl (And.intro rfl (And.intro rfl (And.intro rfl trivial))))))))
                               rw [hz]
                               exact hLR)
                            | (have hc : ¬ ov = 0 ∧ zrr 10 % 60 = 0 ∧ zSil zrr := ⟨by omega, by omega, hs1 (by omega)⟩
                               have hz : (if ov = 0 then zrr else zFive zrr) = iu zrr 15 (zrr 15 + (zHour (zrr 10))) := by
                                 rw [if_neg hc.1, zFive, if_neg (fun q => q hc.2.1), if_pos hc.2.2]
                               refine k_sub (kend _ ⟨_, _, _, _, _, ⟨(by repeat (first | exact hs_eq _ _ _ | refine hs_ne (by omega) ?_ | assumption)), (by repeat (first | exact hs_eq _ _ _ | refine hs_ne (by omega) ?_ | assumption)), (by repeat (first | exact hs_eq _ _ _ | refine hs_ne (by omega) ?_ | assumption)), (by repeat (first | exact hs_eq _ _ _ | refine hs_ne (by omega) ?_ | assumption)), (by repeat (first | exact hs_eq _ _ _ | refine hs_ne (by omega) ?_ | assumption))⟩, ?_⟩ (fun aaa haa => by repeat (first | rfl | refine hs_ne (by omega) ?_))) ((And.intro rfl (And.intro rfl (And.intro rfl (And.intro rfl (And.intro rfl (And.intro rfl (And.intro rfl trivial))))))))
                               rw [hz]
                               exact hLR.n (by decide) (by first | omega | (simp (disch := decide) only [iu_ne, iu_eq]; omega)))
                            | (have hc : ¬ ov = 0 ∧ zrr 10 % 60 = 0 ∧ ¬ zSil zrr ∧ ¬ zrr 52 = 4 := ⟨by omega, by omega, hs0 (by omega), by omega⟩
                               have hz : (if ov = 0 then zrr else zFive zrr) = iu (iu (iu zrr (53 + 2 * zrr 52) (zHour (zrr 10))) (53 + 2 * zrr 52 + 1) (zHour (zrr 10))) 52 (zrr 52 + 1) := by
                                 rw [if_neg hc.1, zFive, if_neg (fun q => q hc.2.1), if_neg hc.2.2.1, zMk, if_neg hc.2.2.2]
                               refine k_sub (kend _ ⟨_, _, _, _, _, ⟨(by repeat (first | exact hs_eq _ _ _ | refine hs_ne (by omega) ?_ | assumption)), (by repeat (first | exact hs_eq _ _ _ | refine hs_ne (by omega) ?_ | assumption)), (by repeat (first | exact hs_eq _ _ _ | refine hs_ne (by omega) ?_ | assumption)), (by repeat (first | exact hs_eq _ _ _ | refine hs_ne (by omega) ?_ | assumption)), (by repeat (first | exact hs_eq _ _ _ | refine hs_ne (by omega) ?_ | assumption))⟩, ?_⟩ (fun aaa haa => by repeat (first | rfl | refine hs_ne (by omega) ?_))) ((And.intro rfl (And.intro rfl (And.intro rfl (And.intro rfl (And.intro rfl (And.intro rfl (And.intro rfl trivial))))))))
                               rw [hz]
                               exact ((hLR.d (by omega) rfl).d (by omega) rfl).n (by decide) (by omega))
                            | (have hc : ¬ ov = 0 ∧ zrr 10 % 60 = 0 ∧ ¬ zSil zrr ∧ zrr 52 = 4 := ⟨by omega, by omega, hs0 (by omega), by omega⟩
                               have y52 : (zDrop (iu zrr 15 (zrr 15 + zrr 54))) 52 = zrr 52 - 1 := by rw [zDrop_52, iu_ne (by decide)]
                               have hz : (if ov = 0 then zrr else zFive zrr) = iu (iu (iu (zDrop (iu zrr 15 (zrr 15 + zrr 54))) (53 + 2 * (zDrop (iu zrr 15 (zrr 15 + zrr 54))) 52) (zHour (zrr 10))) (53 + 2 * (zDrop (iu zrr 15 (zrr 15 + zrr 54))) 52 + 1) (zHour (zrr 10))) 52 ((zDrop (iu zrr 15 (zrr 15 + zrr 54))) 52 + 1) := by
                                 rw [if_neg hc.1, zFive, if_neg (fun q => q hc.2.1), if_neg hc.2.2.1, zMk, if_pos hc.2.2.2]
                               refine k_sub (kend _ ⟨_, _, _, _, _, ⟨(by repeat (first | exact hs_eq _ _ _ | refine hs_ne (by omega) ?_ | assumption)), (by repeat (first | exact hs_eq _ _ _ | refine hs_ne (by omega) ?_ | assumption)), (by repeat (first | exact hs_eq _ _ _ | refine hs_ne (by omega) ?_ | assumption)), (by repeat (first | exact hs_eq _ _ _ | refine hs_ne (by omega) ?_ | assumption)), (by repeat (first | exact hs_eq _ _ _ | refine hs_ne (by omega) ?_ | assumption))⟩, ?_⟩ (fun aaa haa => by repeat (first | rfl | refine hs_ne (by omega) ?_))) ((And.intro rfl (And.intro rfl (And.intro rfl (And.intro rfl (And.intro rfl (And.intro rfl (And.intro rfl trivial))))))))
                               rw [hz]
                               exact ((((hLR.n (j := 6) (q := 15) (by decide) (by omega)).dropm (by rw [iu_ne (by decide)]; omega) (by rw [iu_ne (by decide)]; omega) (by rw [iu_ne (by decide)])).d (by omega) rfl).d (by omega) rfl).n (by decide) (by omega)))
                      · try (exfalso; omega)
                        all_goals (
                          refine k_aload_n C dL_minute_499 rfl ?_
                          refine k_bipush C dL_minute_500 (by decide +kernel) ?_
                          refine k_dup2 C dL_minute_502 rfl rfl ?_
                          refine k_iaload C dL_minute_503 (by repeat (first | exact hs_eq _ _ _ | refine hs_ne (by omega) ?_ | assumption)) (by omega) (by omega) (by omega) ?_
                          refine k_aload C dL_minute_504 rfl ?_
                          refine k_iconst C dL_minute_506 ?_
                          refine k_iaload C dL_minute_507 (by repeat (first | exact hs_eq _ _ _ | refine hs_ne (by omega) ?_ | assumption)) (by omega) (by omega) (by omega) ?_
                          refine k_iadd C dL_minute_508 ?_
                          refine k_iastore C dL_minute_509 (by repeat (first | exact hs_eq _ _ _ | refine hs_ne (by omega) ?_ | assumption)) (by omega) (by omega) (by omega) ?_
                          refine k_aload_n C dL_minute_510 rfl ?_
                          refine k_aload C dL_minute_511 rfl ?_
                          refine k_callS C (n := 2) (as := [_, _]) (ct_L_drop l D tc base an _ de _ (by repeat (first | exact hs_eq _ _ _ | refine hs_ne (by omega) ?_ | assumption)) (by repeat (first | exact hs_eq _ _ _ | refine hs_ne (by omega) ?_ | assumption)) (by simp (disch := decide) only [iu_ne]; omega)) ml_L_22 sm_L_drop ini_L co_L_drop ⟨by decide, by decide, by decide +kernel⟩ rfl ⟨by decide, by decide⟩ rfl (Nat.le_of_ble_eq_true rfl) ⟨Nat.zero_le _, Nat.zero_le _⟩ dL_minute_513 ?_
                          rintro _ _ ⟨rfl, rfl⟩
                          simp (disch := decide) only [iu_ne]
                          refine k_aload C dL_minute_516 rfl ?_
                          refine k_iconst C dL_minute_518 ?_
                          refine k_aload_n C dL_minute_519 rfl ?_
                          refine k_bipush C dL_minute_520 (by decide +kernel) ?_
                          refine k_iaload C dL_minute_522 (by repeat (first | exact hs_eq _ _ _ | refine hs_ne (by omega) ?_ | assumption)) (by omega) (by omega) (by omega) ?_
                          try simp (disch := omega) only [hs_hs, iu_ne, iu_eq]
                          refine k_imul C dL_minute_523 ?_
                          refine k_aload_n C dL_minute_524 rfl ?_
                          refine k_iconst C dL_minute_525 ?_
                          refine k_iaload C dL_minute_526 (by repeat (first | exact hs_eq _ _ _ | refine hs_ne (by omega) ?_ | assumption)) (by omega) (by omega) (by omega) ?_
                          try simp (disch := omega) only [hs_hs, iu_ne, iu_eq]
                          refine k_callS C (n := 1) (as := [_]) (ct_L_hour l D tc base _ _ (by omega) (by omega)) ml_L_8 sm_L_hour ini_L co_L_hour ⟨by decide, by decide, by decide +kernel⟩ rfl ⟨by decide, by decide⟩ rfl (Nat.le_of_ble_eq_true rfl) ⟨Nat.zero_le _, Nat.zero_le _⟩ dL_minute_527 ?_
                          rintro _ _ ⟨rfl, rfl⟩
                          rw [e1]
                          refine k_iastore C dL_minute_530 (by repeat (first | exact hs_eq _ _ _ | refine hs_ne (by omega) ?_ | assumption)) (by omega) (by omega) (by omega) ?_
                          refine k_aload C dL_minute_531 rfl ?_
                          refine k_iconst C dL_minute_533 ?_
                          refine k_aload_n C dL_minute_534 rfl ?_
                          refine k_bipush C dL_minute_535 (by decide +kernel) ?_
                          refine k_iaload C dL_minute_537 (by repeat (first | exact hs_eq _ _ _ | refine hs_ne (by omega) ?_ | assumption)) (by omega) (by omega) (by omega) ?_
                          try simp (disch := omega) only [hs_hs, iu_ne, iu_eq]
                          refine k_imul C dL_minute_538 ?_
                          refine k_iconst C dL_minute_539 ?_
                          refine k_iadd C dL_minute_540 ?_
                          refine k_aload_n C dL_minute_541 rfl ?_
                          refine k_iconst C dL_minute_542 ?_
                          refine k_iaload C dL_minute_543 (by repeat (first | exact hs_eq _ _ _ | refine hs_ne (by omega) ?_ | assumption)) (by omega) (by omega) (by omega) ?_
                          try simp (disch := omega) only [hs_hs, iu_ne, iu_eq]
                          refine k_callS C (n := 1) (as := [_]) (ct_L_hour l D tc base _ _ (by omega) (by omega)) ml_L_8 sm_L_hour ini_L co_L_hour ⟨by decide, by decide, by decide +kernel⟩ rfl ⟨by decide, by decide⟩ rfl (Nat.le_of_ble_eq_true rfl) ⟨Nat.zero_le _, Nat.zero_le _⟩ dL_minute_544 ?_
                          rintro _ _ ⟨rfl, rfl⟩
                          rw [e1]
                          refine k_iastore C dL_minute_547 (by repeat (first | exact hs_eq _ _ _ | refine hs_ne (by omega) ?_ | assumption)) (by omega) (by omega) (by omega) ?_
                          refine k_aload_n C dL_minute_548 rfl ?_
                          refine k_bipush C dL_minute_549 (by decide +kernel) ?_
                          refine k_dup2 C dL_minute_551 rfl rfl ?_
                          refine k_iaload C dL_minute_552 (by repeat (first | exact hs_eq _ _ _ | refine hs_ne (by omega) ?_ | assumption)) (by omega) (by omega) (by omega) ?_
                          try simp (disch := omega) only [hs_hs, iu_ne, iu_eq]
                          refine k_iconst C dL_minute_553 ?_
                          refine k_iadd C dL_minute_554 ?_
                          refine k_iastore C dL_minute_555 (by repeat (first | exact hs_eq _ _ _ | refine hs_ne (by omega) ?_ | assumption)) (by omega) (by omega) (by omega) ?_
                          first
                            | (have hc : ov = 0 := by omega
                               have hz : (if ov = 0 then zrr else zFive zrr) = zrr := by
                                 exact if_pos hc
                               refine k_sub (kend _ ⟨_, _, _, _, _, ⟨(by repeat (first | exact hs_eq _ _ _ | refine hs_ne (by omega) ?_ | assumption)), (by repeat (first | exact hs_eq _ _ _ | refine hs_ne (by omega) ?_ | assumption)), (by repeat (first | exact hs_eq _ _ _ | refine hs_ne (by omega) ?_ | assumption)), (by repeat (first | exact hs_eq _ _ _ | refine hs_ne (by omega) ?_ | assumption)), (by repeat (first | exact hs_eq _ _ _ | refine hs_ne (by omega) ?_ | assumption))⟩, ?_⟩ (fun aaa haa => by repeat (first | rfl | refine hs_ne (by omega) ?_))) ((And.intro rfl (And.intro rfl (And.intro rfl (And.intro rfl (And.intro rfl (And.intro rfl (And.intro rfl trivial))))))))
                               rw [hz]
                               exact hLR)
                            | (have hc : ¬ ov = 0 ∧ ¬ zrr 10 % 60 = 0 := ⟨by omega, by omega⟩
                               have hz : (if ov = 0 then zrr else zFive zrr) = zrr := by
                                 rw [if_neg hc.1, zFive, if_pos hc.2]
                               refine k_sub (kend _ ⟨_, _, _, _, _, ⟨(by repeat (first | exact hs_eq _ _ _ | refine hs_ne (by omega) ?_ | assumption)), (by repeat (first | exact hs_eq _ _ _ | refine hs_ne (by omega) ?_ | assumption)), (by repeat (first | exact hs_eq _ _ _ | refine hs_ne (by omega) ?_ | assumption)), (by repeat (first | exact hs_eq _ _ _ | refine hs_ne (by omega) ?_ | assumption)), (by repeat (first | exact hs_eq _ _ _ | refine hs_ne (by omega) ?_ | assumption))⟩, ?_⟩ (fun aaa haa => by repeat (first | rfl | refine hs_ne (by omega) ?_))) ((And.intro rfl (And.intro rfl (And.intro rfl (And.intro rfl (And.intro rfl (And.intro rfl (And.intro rfl trivial))))))))
                               rw [hz]
                               exact hLR)
                            | (have hc : ¬ ov = 0 ∧ zrr 10 % 60 = 0 ∧ zSil zrr := ⟨by omega, by omega, hs1 (by omega)⟩
                               have hz : (if ov = 0 then zrr else zFive zrr) = iu zrr 15 (zrr 15 + (zHour (zrr 10))) := by
                                 rw [if_neg hc.1, zFive, if_neg (fun q => q hc.2.1), if_pos hc.2.2]
                               refine k_sub (kend _ ⟨_, _, _, _, _, ⟨(by repeat (first | exact hs_eq _ _ _ | refine hs_ne (by omega) ?_ | assumption)), (by repeat (first | exact hs_eq _ _ _ | refine hs_ne (by omega) ?_ | assumption)), (by repeat (first | exact hs_eq _ _ _ | refine hs_ne (by omega) ?_ | assumption)), (by repeat (first | exact hs_eq _ _ _ | refine hs_ne (by omega) ?_ | assumption)), (by repeat (first | exact hs_eq _ _ _ | refine hs_ne (by omega) ?_ | assumption))⟩, ?_⟩ (fun aaa haa => by repeat (first | rfl | refine hs_ne (by omega) ?_))) ((And.intro rfl (And.intro rfl (And.intro rfl (And.intro rfl (And.intro rfl (And.intro rfl (And.intro rfl trivial))))))))
                               rw [hz]
                               exact hLR.n (by decide) (by first | omega | (simp (disch := decide) only [iu_ne, iu_eq]; omega)))
                            | (have hc : ¬ ov = 0 ∧ zrr 10 % 60 = 0 ∧ ¬ zSil zrr ∧ ¬ zrr 52 = 4 := ⟨by omega, by omega, hs0 (by omega), by omega⟩
                               have hz : (if ov = 0 then zrr else zFive zrr) = iu (iu (iu zrr (53 + 2 * zrr 52) (zHour (zrr 10))) (53 + 2 * zrr 52 + 1) (zHour (zrr 10))) 52 (zrr 52 + 1) := by
                                 rw [if_neg hc.1, zFive, if_neg (fun q => q hc.2.1), if_neg hc.2.2.1, zMk, if_neg hc.2.2.2]
                               refine k_sub (kend _ ⟨_, _, _, _, _, ⟨(by repeat (first | exact hs_eq _ _ _ | refine hs_ne (by omega) ?_ | assumption)), (by repeat (first | exact hs_eq _ _ _ | refine hs_ne (by omega) ?_ | assumption)), (by repeat (first | exact hs_eq _ _ _ | refine hs_ne (by omega) ?_ | assumption)), (by repeat (first | exact hs_eq _ _ _ | refine hs_ne (by omega) ?_ | assumption)), (by repeat (first | exact hs_eq _ _ _ | refine hs_ne (by omega) ?_ | assumption))⟩, ?_⟩ (fun aaa haa => by repeat (first | rfl | refine hs_ne (by omega) ?_))) ((And.intro rfl (And.intro rfl (And.intro rfl (And.intro rfl (And.intro rfl (And.intro rfl (And.intro rfl trivial))))))))
                               rw [hz]
                               exact ((hLR.d (by omega) rfl).d (by omega) rfl).n (by decide) (by omega))
                            | (have hc : ¬ ov = 0 ∧ zrr 10 % 60 = 0 ∧ ¬ zSil zrr ∧ zrr 52 = 4 := ⟨by omega, by omega, hs0 (by omega), by omega⟩
                               have y52 : (zDrop (iu zrr 15 (zrr 15 + zrr 54))) 52 = zrr 52 - 1 := by rw [zDrop_52, iu_ne (by decide)]
                               have hz : (if ov = 0 then zrr else zFive zrr) = iu (iu (iu (zDrop (iu zrr 15 (zrr 15 + zrr 54))) (53 + 2 * (zDrop (iu zrr 15 (zrr 15 + zrr 54))) 52) (zHour (zrr 10))) (53 + 2 * (zDrop (iu zrr 15 (zrr 15 + zrr 54))) 52 + 1) (zHour (zrr 10))) 52 ((zDrop (iu zrr 15 (zrr 15 + zrr 54))) 52 + 1) := by
                                 rw [if_neg hc.1, zFive, if_neg (fun q => q hc.2.1), if_neg hc.2.2.1, zMk, if_pos hc.2.2.2]
                               refine k_sub (kend _ ⟨_, _, _, _, _, ⟨(by repeat (first | exact hs_eq _ _ _ | refine hs_ne (by omega) ?_ | assumption)), (by repeat (first | exact hs_eq _ _ _ | refine hs_ne (by omega) ?_ | assumption)), (by repeat (first | exact hs_eq _ _ _ | refine hs_ne (by omega) ?_ | assumption)), (by repeat (first | exact hs_eq _ _ _ | refine hs_ne (by omega) ?_ | assumption)), (by repeat (first | exact hs_eq _ _ _ | refine hs_ne (by omega) ?_ | assumption))⟩, ?_⟩ (fun aaa haa => by repeat (first | rfl | refine hs_ne (by omega) ?_))) ((And.intro rfl (And.intro rfl (And.intro rfl (And.intro rfl (And.intro rfl (And.intro rfl (And.intro rfl trivial))))))))
                               rw [hz]
                               exact ((((hLR.n (j := 6) (q := 15) (by decide) (by omega)).dropm (by rw [iu_ne (by decide)]; omega) (by rw [iu_ne (by decide)]; omega) (by rw [iu_ne (by decide)])).d (by omega) rfl).d (by omega) rfl).n (by decide) (by omega)))))))
      · try (exfalso; omega)
        all_goals (
          refine k_iload C dL_minute_454 rfl ?_
          refine k_if_eq (tgt := 472) C dL_minute_456 (by decide) ⟨by omega, by omega⟩ (fun c456 => ?_) (fun c456 => ?_)
          · try (exfalso; omega)
            all_goals (
              refine k_iload C dL_minute_472 rfl ?_
              refine k_if_eq (tgt := 556) C dL_minute_474 (by decide) ⟨by omega, by omega⟩ (fun c474 => ?_) (fun c474 => ?_)
              · try (exfalso; omega)
                all_goals (
                  first
                    | (have hc : ov = 0 := by omega
                       have hz : (if ov = 0 then zrr else zFive zrr) = zrr := by
                         exact if_pos hc
                       refine k_sub (kend _ ⟨_, _, _, _, _, ⟨(by repeat (first | exact hs_eq _ _ _ | refine hs_ne (by omega) ?_ | assumption)), (by repeat (first | exact hs_eq _ _ _ | refine hs_ne (by omega) ?_ | assumption)), (by repeat (first | exact hs_eq _ _ _ | refine hs_ne (by omega) ?_ | assumption)), (by repeat (first | exact hs_eq _ _ _ | refine hs_ne (by omega) ?_ | assumption)), (by repeat (first | exact hs_eq _ _ _ | refine hs_ne (by omega) ?_ | assumption))⟩, ?_⟩ (fun aaa haa => by repeat (first | rfl | refine hs_ne (by omega) ?_))) ((And.intro rfl (And.intro rfl (And.intro rfl (And.intro rfl (And.intro rfl (And.intro rfl (And.intro rfl trivial))))))))
                       rw [hz]
                       exact hLR)
                    | (have hc : ¬ ov = 0 ∧ ¬ zrr 10 % 60 = 0 := ⟨by omega, by omega⟩
                       have hz : (if ov = 0 then zrr else zFive zrr) = zrr := by
                         rw [if_neg hc.1, zFive, if_pos hc.2]
                       refine k_sub (kend _ ⟨_, _, _, _, _, ⟨(by repeat (first | exact hs_eq _ _ _ | refine hs_ne (by omega) ?_ | assumption)), (by repeat (first | exact hs_eq _ _ _ | refine hs_ne (by omega) ?_ | assumption)), (by repeat (first | exact hs_eq _ _ _ | refine hs_ne (by omega) ?_ | assumption)), (by repeat (first | exact hs_eq _ _ _ | refine hs_ne (by omega) ?_ | assumption)), (by repeat (first | exact hs_eq _ _ _ | refine hs_ne (by omega) ?_ | assumption))⟩, ?_⟩ (fun aaa haa => by repeat (first | rfl | refine hs_ne (by omega) ?_))) ((And.intro rfl (And.intro rfl (And.intro rfl (And.intro rfl (And.intro rfl (And.intro rfl (And.intro rfl trivial))))))))
                       rw [hz]
                       exact hLR)
                    | (have hc : ¬ ov = 0 ∧ zrr 10 % 60 = 0 ∧ zSil zrr := ⟨by omega, by omega, hs1 (by omega)⟩
                       have hz : (if ov = 0 then zrr else zFive zrr) = iu zrr 15 (zrr 15 + (zHour (zrr 10))) := by
                         rw [if_neg hc.1, zFive, if_neg (fun q => q hc.2.1), if_pos hc.2.2]
                       refine k_sub (kend _ ⟨_, _, _, _, _, ⟨(by repeat (first | exact hs_eq _ _ _ | refine hs_ne (by omega) ?_ | assumption)), (by repeat (first | exact hs_eq _ _ _ | refine hs_ne (by omega) ?_ | assumption)), (by repeat (first | exact hs_eq _ _ _ | refine hs_ne (by omega) ?_ | assumption)), (by repeat (first | exact hs_eq _ _ _ | refine hs_ne (by omega) ?_ | assumption)), (by repeat (first | exact hs_eq _ _ _ | refine hs_ne (by omega) ?_ | assumption))⟩, ?_⟩ (fun aaa haa => by repeat (first | rfl | refine hs_ne (by omega) ?_))) ((And.intro rfl (And.intro rfl (And.intro rfl (And.intro rfl (And.intro rfl (And.intro rfl (And.intro rfl trivial))))))))
                       rw [hz]
                       exact hLR.n (by decide) (by first | omega | (simp (disch := decide) only [iu_ne, iu_eq]; omega)))
                    | (have hc : ¬ ov = 0 ∧ zrr 10 % 60 = 0 ∧ ¬ zSil zrr ∧ ¬ zrr 52 = 4 := ⟨by omega, by omega, hs0 (by omega), by omega⟩
                       have hz : (if ov = 0 then zrr else zFive zrr) = iu (iu (iu zrr (53 + 2 * zrr 52) (zHour (zrr 10))) (53 + 2 * zrr 52 + 1) (zHour (zrr 10))) 52 (zrr 52 + 1) := by
                         rw [if_neg hc.1, zFive, if_neg (fun q => q hc.2.1), if_neg hc.2.2.1, zMk, if_neg hc.2.2.2]
                       refine k_sub (kend _ ⟨_, _, _, _, _, ⟨(by repeat (first | exact hs_eq _ _ _ | refine hs_ne (by omega) ?_ | assumption)), (by repeat (first | exact hs_eq _ _ _ | refine hs_ne (by omega) ?_ | assumption)), (by repeat (first | exact hs_eq _ _ _ | refine hs_ne (by omega) ?_ | assumption)), (by repeat (first | exact hs_eq _ _ _ | refine hs_ne (by omega) ?_ | assumption)), (by repeat (first | exact hs_eq _ _ _ | refine hs_ne (by omega) ?_ | assumption))⟩, ?_⟩ (fun aaa haa => by repeat (first | rfl | refine hs_ne (by omega) ?_))) ((And.intro rfl (And.intro rfl (And.intro rfl (And.intro rfl (And.intro rfl (And.intro rfl (And.intro rfl trivial))))))))
                       rw [hz]
                       exact ((hLR.d (by omega) rfl).d (by omega) rfl).n (by decide) (by omega))
                    | (have hc : ¬ ov = 0 ∧ zrr 10 % 60 = 0 ∧ ¬ zSil zrr ∧ zrr 52 = 4 := ⟨by omega, by omega, hs0 (by omega), by omega⟩
                       have y52 : (zDrop (iu zrr 15 (zrr 15 + zrr 54))) 52 = zrr 52 - 1 := by rw [zDrop_52, iu_ne (by decide)]
                       have hz : (if ov = 0 then zrr else zFive zrr) = iu (iu (iu (zDrop (iu zrr 15 (zrr 15 + zrr 54))) (53 + 2 * (zDrop (iu zrr 15 (zrr 15 + zrr 54))) 52) (zHour (zrr 10))) (53 + 2 * (zDrop (iu zrr 15 (zrr 15 + zrr 54))) 52 + 1) (zHour (zrr 10))) 52 ((zDrop (iu zrr 15 (zrr 15 + zrr 54))) 52 + 1) := by
                         rw [if_neg hc.1, zFive, if_neg (fun q => q hc.2.1), if_neg hc.2.2.1, zMk, if_pos hc.2.2.2]
                       refine k_sub (kend _ ⟨_, _, _, _, _, ⟨(by repeat (first | exact hs_eq _ _ _ | refine hs_ne (by omega) ?_ | assumption)), (by repeat (first | exact hs_eq _ _ _ | refine hs_ne (by omega) ?_ | assumption)), (by repeat (first | exact hs_eq _ _ _ | refine hs_ne (by omega) ?_ | assumption)), (by repeat (first | exact hs_eq _ _ _ | refine hs_ne (by omega) ?_ | assumption)), (by repeat (first | exact hs_eq _ _ _ | refine hs_ne (by omega) ?_ | assumption))⟩, ?_⟩ (fun aaa haa => by repeat (first | rfl | refine hs_ne (by omega) ?_))) ((And.intro rfl (And.intro rfl (And.intro rfl (And.intro rfl (And.intro rfl (And.intro rfl (And.intro rfl trivial))))))))
                       rw [hz]
                       exact ((((hLR.n (j := 6) (q := 15) (by decide) (by omega)).dropm (by rw [iu_ne (by decide)]; omega) (by rw [iu_ne (by decide)]; omega) (by rw [iu_ne (by decide)])).d (by omega) rfl).d (by omega) rfl).n (by decide) (by omega)))
              · try (exfalso; omega)
                all_goals (
                  refine k_aload_n C dL_minute_477 rfl ?_
                  refine k_iconst C dL_minute_478 ?_
                  refine k_iaload C dL_minute_479 (by repeat (first | exact hs_eq _ _ _ | refine hs_ne (by omega) ?_ | assumption)) (by omega) (by omega) (by omega) ?_
                  refine k_bipush C dL_minute_480 (by decide +kernel) ?_
                  refine k_irem C dL_minute_482 (by omega) (by omega) (by omega) (by omega) ?_
                  refine k_if_ne (tgt := 556) C dL_minute_483 (by decide) ⟨by omega, by omega⟩ (fun c483 => ?_) (fun c483 => ?_)
                  · try (exfalso; omega)
                    all_goals (
                      first
                        | (have hc : ov = 0 := by omega
                           have hz : (if ov = 0 then zrr else zFive zrr) = zrr := by
                             exact if_pos hc
                           refine k_sub (kend _ ⟨_, _, _, _, _, ⟨(by repeat (first | exact hs_eq _ _ _ | refine hs_ne (by omega) ?_ | assumption)), (by repeat (first | exact hs_eq _ _ _ | refine hs_ne (by omega) ?_ | assumption)), (by repeat (first | exact hs_eq _ _ _ | refine hs_ne (by omega) ?_ | assumption)), (by repeat (first | exact hs_eq _ _ _ | refine hs_ne (by omega) ?_ | assumption)), (by repeat (first | exact hs_eq _ _ _ | refine hs_ne (by omega) ?_ | assumption))⟩, ?_⟩ (fun aaa haa => by repeat (first | rfl | refine hs_ne (by omega) ?_))) ((And.intro rfl (And.intro rfl (And.intro rfl (And.intro rfl (And.intro rfl (And.intro rfl (And.intro rfl trivial))))))))
                           rw [hz]
                           exact hLR)
                        | (have hc : ¬ ov = 0 ∧ ¬ zrr 10 % 60 = 0 := ⟨by omega, by omega⟩
                           have hz : (if ov = 0 then zrr else zFive zrr) = zrr := by
                             rw [if_neg hc.1, zFive, if_pos hc.2]
                           refine k_sub (kend _ ⟨_, _, _, _, _, ⟨(by repeat (first | exact hs_eq _ _ _ | refine hs_ne (by omega) ?_ | assumption)), (by repeat (first | exact hs_eq _ _ _ | refine hs_ne (by omega) ?_ | assumption)), (by repeat (first | exact hs_eq _ _ _ | refine hs_ne (by omega) ?_ | assumption)), (by repeat (first | exact hs_eq _ _ _ | refine hs_ne (by omega) ?_ | assumption)), (by repeat (first | exact hs_eq _ _ _ | refine hs_ne (by omega) ?_ | assumption))⟩, ?_⟩ (fun aaa haa => by repeat (first | rfl | refine hs_ne (by omega) ?_))) ((And.intro rfl (And.intro rfl (And.intro rfl (And.intro rfl (And.intro rfl (And.intro rfl (And.intro rfl trivial))))))))
                           rw [hz]
                           exact hLR)
                        | (have hc : ¬ ov = 0 ∧ zrr 10 % 60 = 0 ∧ zSil zrr := ⟨by omega, by omega, hs1 (by omega)⟩
                           have hz : (if ov = 0 then zrr else zFive zrr) = iu zrr 15 (zrr 15 + (zHour (zrr 10))) := by
                             rw [if_neg hc.1, zFive, if_neg (fun q => q hc.2.1), if_pos hc.2.2]
                           refine k_sub (kend _ ⟨_, _, _, _, _, ⟨(by repeat (first | exact hs_eq _ _ _ | refine hs_ne (by omega) ?_ | assumption)), (by repeat (first | exact hs_eq _ _ _ | refine hs_ne (by omega) ?_ | assumption)), (by repeat (first | exact hs_eq _ _ _ | refine hs_ne (by omega) ?_ | assumption)), (by repeat (first | exact hs_eq _ _ _ | refine hs_ne (by omega) ?_ | assumption)), (by repeat (first | exact hs_eq _ _ _ | refine hs_ne (by omega) ?_ | assumption))⟩, ?_⟩ (fun aaa haa => by repeat (first | rfl | refine hs_ne (by omega) ?_))) ((And.intro rfl (And.intro rfl (And.intro rfl (And.intro rfl (And.intro rfl (And.intro rfl (And.intro rfl trivial))))))))
                           rw [hz]
                           exact hLR.n (by decide) (by first | omega | (simp (disch := decide) only [iu_ne, iu_eq]; omega)))
                        | (have hc : ¬ ov = 0 ∧ zrr 10 % 60 = 0 ∧ ¬ zSil zrr ∧ ¬ zrr 52 = 4 := ⟨by omega, by omega, hs0 (by omega), by omega⟩
                           have hz : (if ov = 0 then zrr else zFive zrr) = iu (iu (iu zrr (53 + 2 * zrr 52) (zHour (zrr 10))) (53 + 2 * zrr 52 + 1) (zHour (zrr 10))) 52 (zrr 52 + 1) := by
                             rw [if_neg hc.1, zFive, if_neg (fun q => q hc.2.1), if_neg hc.2.2.1, zMk, if_neg hc.2.2.2]
                           refine k_sub (kend _ ⟨_, _, _, _, _, ⟨(by repeat (first | exact hs_eq _ _ _ | refine hs_ne (by omega) ?_ | assumption)), (by repeat (first | exact hs_eq _ _ _ | refine hs_ne (by omega) ?_ | assumption)), (by repeat (first | exact hs_eq _ _ _ | refine hs_ne (by omega) ?_ | assumption)), (by repeat (first | exact hs_eq _ _ _ | refine hs_ne (by omega) ?_ | assumption)), (by repeat (first | exact hs_eq _ _ _ | refine hs_ne (by omega) ?_ | assumption))⟩, ?_⟩ (fun aaa haa => by repeat (first | rfl | refine hs_ne (by omega) ?_))) ((And.intro rfl (And.intro rfl (And.intro rfl (And.intro rfl (And.intro rfl (And.intro rfl (And.intro rfl trivial))))))))
                           rw [hz]
                           exact ((hLR.d (by omega) rfl).d (by omega) rfl).n (by decide) (by omega))
                        | (have hc : ¬ ov = 0 ∧ zrr 10 % 60 = 0 ∧ ¬ zSil zrr ∧ zrr 52 = 4 := ⟨by omega, by omega, hs0 (by omega), by omega⟩
                           have y52 : (zDrop (iu zrr 15 (zrr 15 + zrr 54))) 52 = zrr 52 - 1 := by rw [zDrop_52, iu_ne (by decide)]
                           have hz : (if ov = 0 then zrr else zFive zrr) = iu (iu (iu (zDrop (iu zrr 15 (zrr 15 + zrr 54))) (53 + 2 * (zDrop (iu zrr 15 (zrr 15 + zrr 54))) 52) (zHour (zrr 10))) (53 + 2 * (zDrop (iu zrr 15 (zrr 15 + zrr 54))) 52 + 1) (zHour (zrr 10))) 52 ((zDrop (iu zrr 15 (zrr 15 + zrr 54))) 52 + 1) := by
                             rw [if_neg hc.1, zFive, if_neg (fun q => q hc.2.1), if_neg hc.2.2.1, zMk, if_pos hc.2.2.2]
                           refine k_sub (kend _ ⟨_, _, _, _, _, ⟨(by repeat (first | exact hs_eq _ _ _ | refine hs_ne (by omega) ?_ | assumption)), (by repeat (first | exact hs_eq _ _ _ | refine hs_ne (by omega) ?_ | assumption)), (by repeat (first | exact hs_eq _ _ _ | refine hs_ne (by omega) ?_ | assumption)), (by repeat (first | exact hs_eq _ _ _ | refine hs_ne (by omega) ?_ | assumption)), (by repeat (first | exact hs_eq _ _ _ | refine hs_ne (by omega) ?_ | assumption))⟩, ?_⟩ (fun aaa haa => by repeat (first | rfl | refine hs_ne (by omega) ?_))) ((And.intro rfl (And.intro rfl (And.intro rfl (And.intro rfl (And.intro rfl (And.intro rfl (And.intro rfl trivial))))))))
                           rw [hz]
                           exact ((((hLR.n (j := 6) (q := 15) (by decide) (by omega)).dropm (by rw [iu_ne (by decide)]; omega) (by rw [iu_ne (by decide)]; omega) (by rw [iu_ne (by decide)])).d (by omega) rfl).d (by omega) rfl).n (by decide) (by omega)))
                  · try (exfalso; omega)
                    all_goals (
                      refine k_iload C dL_minute_486 rfl ?_
                      refine k_if_ne (tgt := 556) C dL_minute_488 (by decide) ⟨by omega, by omega⟩ (fun c488 => ?_) (fun c488 => ?_)
                      · try (exfalso; omega)
                        all_goals (
                          first
                            | (have hc : ov = 0 := by omega
                               have hz : (if ov = 0 then zrr else zFive zrr) = zrr := by
                                 exact if_pos hc
                               refine k_sub (kend _ ⟨_, _, _, _, _, ⟨(by repeat (first | exact hs_eq _ _ _ | refine hs_ne (by omega) ?_ | assumption)), (by repeat (first | exact hs_eq _ _ _ | refine hs_ne (by omega) ?_ | assumption)), (by repeat (first | exact hs_eq _ _ _ | refine hs_ne (by omega) ?_ | assumption)), (by repeat (first | exact hs_eq _ _ _ | refine hs_ne (by omega) ?_ | assumption)), (by repeat (first | exact hs_eq _ _ _ | refine hs_ne (by omega) ?_ | assumption))⟩, ?_⟩ (fun aaa haa => by repeat (first | rfl | refine hs_ne (by omega) ?_))) ((And.intro rfl (And.intro rfl (And.intro rfl (And.intro rfl (And.intro rfl (And.intro rfl (And.intro rfl trivial))))))))
                               rw [hz]
                               exact hLR)
                            | (have hc : ¬ ov = 0 ∧ ¬ zrr 10 % 60 = 0 := ⟨by omega, by omega⟩
                               have hz : (if ov = 0 then zrr else zFive zrr) = zrr := by
                                 rw [if_neg hc.1, zFive, if_pos hc.2]
                               refine k_sub (kend _ ⟨_, _, _, _, _, ⟨(by repeat (first | exact hs_eq _ _ _ | refine hs_ne (by omega) ?_ | assumption)), (by repeat (first | exact hs_eq _ _ _ | refine hs_ne (by omega) ?_ | assumption)), (by repeat (first | exact hs_eq _ _ _ | refine hs_ne (by omega) ?_ | assumption)), (by repeat (first | exact hs_eq _ _ _ | refine hs_ne (by omega) ?_ | assumption)), (by repeat (first | exact hs_eq _ _ _ | refine hs_ne (by omega) ?_ | assumption))⟩, ?_⟩ (fun aaa haa => by repeat (first | rfl | refine hs_ne (by omega) ?_))) ((And.intro rfl (And.intro rfl (And.intro rfl (And.intro rfl (And.intro rfl (And.intro rfl (And.intro rfl trivial))))))))
                               rw [hz]
                               exact hLR)
                            | (have hc : ¬ ov = 0 ∧ zrr 10 % 60 = 0 ∧ zSil zrr := ⟨by omega, by omega, hs1 (by omega)⟩
                               have hz : (if ov = 0 then zrr else zFive zrr) = iu zrr 15 (zrr 15 + (zHour (zrr 10))) := by
                                 rw [if_neg hc.1, zFive, if_neg (fun q => q hc.2.1), if_pos hc.2.2]
                               refine k_sub (kend _ ⟨_, _, _, _, _, ⟨(by repeat (first | exact hs_eq _ _ _ | refine hs_ne (by omega) ?_ | assumption)), (by repeat (first | exact hs_eq _ _ _ | refine hs_ne (by omega) ?_ | assumption)), (by repeat (first | exact hs_eq _ _ _ | refine hs_ne (by omega) ?_ | assumption)), (by repeat (first | exact hs_eq _ _ _ | refine hs_ne (by omega) ?_ | assumption)), (by repeat (first | exact hs_eq _ _ _ | refine hs_ne (by omega) ?_ | assumption))⟩, ?_⟩ (fun aaa haa => by repeat (first | rfl | refine hs_ne (by omega) ?_))) ((And.intro rfl (And.intro rfl (And.intro rfl (And.intro rfl (And.intro rfl (And.intro rfl (And.intro rfl trivial))))))))
                               rw [hz]
                               exact hLR.n (by decide) (by first | omega | (simp (disch := decide) only [iu_ne, iu_eq]; omega)))
                            | (have hc : ¬ ov = 0 ∧ zrr 10 % 60 = 0 ∧ ¬ zSil zrr ∧ ¬ zrr 52 = 4 := ⟨by omega, by omega, hs0 (by omega), by omega⟩
                               have hz : (if ov = 0 then zrr else zFive zrr) = iu (iu (iu zrr (53 + 2 * zrr 52) (zHour (zrr 10))) (53 + 2 * zrr 52 + 1) (zHour (zrr 10))) 52 (zrr 52 + 1) := by
                                 rw [if_neg hc.1, zFive, if_neg (fun q => q hc.2.1), if_neg hc.2.2.1, zMk, if_neg hc.2.2.2]
                               refine k_sub (kend _ ⟨_, _, _, _, _, ⟨(by repeat (first | exact hs_eq _ _ _ | refine hs_ne (by omega) ?_ | assumption)), (by repeat (first | exact hs_eq _ _ _ | refine hs_ne (by omega) ?_ | assumption)), (by repeat (first | exact hs_eq _ _ _ | refine hs_ne (by omega) ?_ | assumption)), (by repeat (first | exact hs_eq _ _ _ | refine hs_ne (by omega) ?_ | assumption)), (by repeat (first | exact hs_eq _ _ _ | refine hs_ne (by omega) ?_ | assumption))⟩, ?_⟩ (fun aaa haa => by repeat (first | rfl | refine hs_ne (by omega) ?_))) ((And.intro rfl (And.intro rfl (And.intro rfl (And.intro rfl (And.intro rfl (And.intro rfl (And.intro rfl trivial))))))))
                               rw [hz]
                               exact ((hLR.d (by omega) rfl).d (by omega) rfl).n (by decide) (by omega))
                            | (have hc : ¬ ov = 0 ∧ zrr 10 % 60 = 0 ∧ ¬ zSil zrr ∧ zrr 52 = 4 := ⟨by omega, by omega, hs0 (by omega), by omega⟩
                               have y52 : (zDrop (iu zrr 15 (zrr 15 + zrr 54))) 52 = zrr 52 - 1 := by rw [zDrop_52, iu_ne (by decide)]
                               have hz : (if ov = 0 then zrr else zFive zrr) = iu (iu (iu (zDrop (iu zrr 15 (zrr 15 + zrr 54))) (53 + 2 * (zDrop (iu zrr 15 (zrr 15 + zrr 54))) 52) (zHour (zrr 10))) (53 + 2 * (zDrop (iu zrr 15 (zrr 15 + zrr 54))) 52 + 1) (zHour (zrr 10))) 52 ((zDrop (iu zrr 15 (zrr 15 + zrr 54))) 52 + 1) := by
                                 rw [if_neg hc.1, zFive, if_neg (fun q => q hc.2.1), if_neg hc.2.2.1, zMk, if_pos hc.2.2.2]
                               refine k_sub (kend _ ⟨_, _, _, _, _, ⟨(by repeat (first | exact hs_eq _ _ _ | refine hs_ne (by omega) ?_ | assumption)), (by repeat (first | exact hs_eq _ _ _ | refine hs_ne (by omega) ?_ | assumption)), (by repeat (first | exact hs_eq _ _ _ | refine hs_ne (by omega) ?_ | assumption)), (by repeat (first | exact hs_eq _ _ _ | refine hs_ne (by omega) ?_ | assumption)), (by repeat (first | exact hs_eq _ _ _ | refine hs_ne (by omega) ?_ | assumption))⟩, ?_⟩ (fun aaa haa => by repeat (first | rfl | refine hs_ne (by omega) ?_))) ((And.intro rfl (And.intro rfl (And.intro rfl (And.intro rfl (And.intro rfl (And.intro rfl (And.intro rfl trivial))))))))
                               rw [hz]
                               exact ((((hLR.n (j := 6) (q := 15) (by decide) (by omega)).dropm (by rw [iu_ne (by decide)]; omega) (by rw [iu_ne (by decide)]; omega) (by rw [iu_ne (by decide)])).d (by omega) rfl).d (by omega) rfl).n (by decide) (by omega)))
                      · try (exfalso; omega)
                        all_goals (
                          refine k_aload_n C dL_minute_491 rfl ?_
                          refine k_bipush C dL_minute_492 (by decide +kernel) ?_
                          refine k_iaload C dL_minute_494 (by repeat (first | exact hs_eq _ _ _ | refine hs_ne (by omega) ?_ | assumption)) (by omega) (by omega) (by omega) ?_
                          refine k_iconst C dL_minute_495 ?_
                          refine k_icmp_ne (tgt := 516) C dL_minute_496 (by decide) ⟨by omega, by omega⟩ ⟨by omega, by omega⟩ (fun c496 => ?_) (fun c496 => ?_)
                          · try (exfalso; omega)
                            all_goals (
                              refine k_aload C dL_minute_516 rfl ?_
                              refine k_iconst C dL_minute_518 ?_
                              refine k_aload_n C dL_minute_519 rfl ?_
                              refine k_bipush C dL_minute_520 (by decide +kernel) ?_
                              refine k_iaload C dL_minute_522 (by repeat (first | exact hs_eq _ _ _ | refine hs_ne (by omega) ?_ | assumption)) (by omega) (by omega) (by omega) ?_
                              refine k_imul C dL_minute_523 ?_
                              refine k_aload_n C dL_minute_524 rfl ?_
                              refine k_iconst C dL_minute_525 ?_
                              refine k_iaload C dL_minute_526 (by repeat (first | exact hs_eq _ _ _ | refine hs_ne (by omega) ?_ | assumption)) (by omega) (by omega) (by omega) ?_
                              refine k_callS C (n := 1) (as := [_]) (ct_L_hour l D tc base _ _ (by omega) (by omega)) ml_L_8 sm_L_hour ini_L co_L_hour ⟨by decide, by decide, by decide +kernel⟩ rfl ⟨by decide, by decide⟩ rfl (Nat.le_of_ble_eq_true rfl) ⟨Nat.zero_le _, Nat.zero_le _⟩ dL_minute_527 ?_
                              rintro _ _ ⟨rfl, rfl⟩
                              rw [e1]
                              refine k_iastore C dL_minute_530 (by repeat (first | exact hs_eq _ _ _ | refine hs_ne (by omega) ?_ | assumption)) (by omega) (by omega) (by omega) ?_
                              refine k_aload C dL_minute_531 rfl ?_
                              refine k_iconst C dL_minute_533 ?_
                              refine k_aload_n C dL_minute_534 rfl ?_
                              refine k_bipush C dL_minute_535 (by decide +kernel) ?_
                              refine k_iaload C dL_minute_537 (by repeat (first | exact hs_eq _ _ _ | refine hs_ne (by omega) ?_ | assumption)) (by omega) (by omega) (by omega) ?_
                              try simp (disch := omega) only [hs_hs, iu_ne, iu_eq]
                              refine k_imul C dL_minute_538 ?_
                              refine k_iconst C dL_minute_539 ?_
                              refine k_iadd C dL_minute_540 ?_
                              refine k_aload_n C dL_minute_541 rfl ?_
                              refine k_iconst C dL_minute_542 ?_
                              refine k_iaload C dL_minute_543 (by repeat (first | exact hs_eq _ _ _ | refine hs_ne (by omega) ?_ | assumption)) (by omega) (by omega) (by omega) ?_
                              try simp (disch := omega) only [hs_hs, iu_ne, iu_eq]
                              refine k_callS C (n := 1) (as := [_]) (ct_L_hour l D tc base _ _ (by omega) (by omega)) ml_L_8 sm_L_hour ini_L co_L_hour ⟨by decide, by decide, by decide +kernel⟩ rfl ⟨by decide, by decide⟩ rfl (Nat.le_of_ble_eq_true rfl) ⟨Nat.zero_le _, Nat.zero_le _⟩ dL_minute_544 ?_
                              rintro _ _ ⟨rfl, rfl⟩
                              rw [e1]
                              refine k_iastore C dL_minute_547 (by repeat (first | exact hs_eq _ _ _ | refine hs_ne (by omega) ?_ | assumption)) (by omega) (by omega) (by omega) ?_
                              refine k_aload_n C dL_minute_548 rfl ?_
                              refine k_bipush C dL_minute_549 (by decide +kernel) ?_
                              refine k_dup2 C dL_minute_551 rfl rfl ?_
                              refine k_iaload C dL_minute_552 (by repeat (first | exact hs_eq _ _ _ | refine hs_ne (by omega) ?_ | assumption)) (by omega) (by omega) (by omega) ?_
                              try simp (disch := omega) only [hs_hs, iu_ne, iu_eq]
                              refine k_iconst C dL_minute_553 ?_
                              refine k_iadd C dL_minute_554 ?_
                              refine k_iastore C dL_minute_555 (by repeat (first | exact hs_eq _ _ _ | refine hs_ne (by omega) ?_ | assumption)) (by omega) (by omega) (by omega) ?_
                              first
                                | (have hc : ov = 0 := by omega
                                   have hz : (if ov = 0 then zrr else zFive zrr) = zrr := by
                                     exact if_pos hc
                                   refine k_sub (kend _ ⟨_, _, _, _, _, ⟨(by repeat (first | exact hs_eq _ _ _ | refine hs_ne (by omega) ?_ | assumption)), (by repeat (first | exact hs_eq _ _ _ | refine hs_ne (by omega) ?_ | assumption)), (by repeat (first | exact hs_eq _ _ _ | refine hs_ne (by omega) ?_ | assumption)), (by repeat (first | exact hs_eq _ _ _ | refine hs_ne (by omega) ?_ | assumption)), (by repeat (first | exact hs_eq _ _ _ | refine hs_ne (by omega) ?_ | assumption))⟩, ?_⟩ (fun aaa haa => by repeat (first | rfl | refine hs_ne (by omega) ?_))) ((And.intro rfl (And.intro rfl (And.intro rfl (And.intro rfl (And.intro rfl (And.intro rfl (And.intro rfl trivial))))))))
                                   rw [hz]
                                   exact hLR)
                                | (have hc : ¬ ov = 0 ∧ ¬ zrr 10 % 60 = 0 := ⟨by omega, by omega⟩
                                   have hz : (if ov = 0 then zrr else zFive zrr) = zrr := by
                                     rw [if_neg hc.1, zFive, if_pos hc.2]
                                   refine k_sub (kend _ ⟨_, _, _, _, _, ⟨(by repeat (first | exact hs_eq _ _ _ | refine hs_ne (by omega) ?_ | assumption)), (by repeat (first | exact hs_eq _ _ _ | refine hs_ne (by omega) ?_ | assumption)), (by repeat (first | exact hs_eq _ _ _ | refine hs_ne (by omega) ?_ | assumption)), (by repeat (first | exact hs_eq _ _ _ | refine hs_ne (by omega) ?_ | assumption)), (by repeat (first | exact hs_eq _ _ _ | refine hs_ne (by omega) ?_ | assumption))⟩, ?_⟩ (fun aaa haa => by repeat (first | rfl | refine hs_ne (by omega) ?_))) ((And.intro rfl (And.intro rfl (And.intro rfl (And.intro rfl (And.intro rfl (And.intro rfl (And.intro rfl trivial))))))))
                                   rw [hz]
                                   exact hLR)
                                | (have hc : ¬ ov = 0 ∧ zrr 10 % 60 = 0 ∧ zSil zrr := ⟨by omega, by omega, hs1 (by omega)⟩
                                   have hz : (if ov = 0 then zrr else zFive zrr) = iu zrr 15 (zrr 15 + (zHour (zrr 10))) := by
                                     rw [if_neg hc.1, zFive, if_neg (fun q => q hc.2.1), if_pos hc.2.2]
                                   refine k_sub (kend _ ⟨_, _, _, _, _, ⟨(by repeat (first | exact hs_eq _ _ _ | refine hs_ne (by omega) ?_ | assumption)), (by repeat (first | exact hs_eq _ _ _ | refine hs_ne (by omega) ?_ | assumption)), (by repeat (first | exact hs_eq _ _ _ | refine hs_ne (by omega) ?_ | assumption)), (by repeat (first | exact hs_eq _ _ _ | refine hs_ne (by omega) ?_ | assumption)), (by repeat (first | exact hs_eq _ _ _ | refine hs_ne (by omega) ?_ | assumption))⟩, ?_⟩ (fun aaa haa => by repeat (first | rfl | refine hs_ne (by omega) ?_))) ((And.intro rfl (And.intro rfl (And.intro rfl (And.intro rfl (And.intro rfl (And.intro rfl (And.intro rfl trivial))))))))
                                   rw [hz]
                                   exact hLR.n (by decide) (by first | omega | (simp (disch := decide) only [iu_ne, iu_eq]; omega)))
                                | (have hc : ¬ ov = 0 ∧ zrr 10 % 60 = 0 ∧ ¬ zSil zrr ∧ ¬ zrr 52 = 4 := ⟨by omega, by omega, hs0 (by omega), by omega⟩
                                   have hz : (if ov = 0 then zrr else zFive zrr) = iu (iu (iu zrr (53 + 2 * zrr 52) (zHour (zrr 10))) (53 + 2 * zrr 52 + 1) (zHour (zrr 10))) 52 (zrr 52 + 1) := by
                                     rw [if_neg hc.1, zFive, if_neg (fun q => q hc.2.1), if_neg hc.2.2.1, zMk, if_neg hc.2.2.2]
                                   refine k_sub (kend _ ⟨_, _, _, _, _, ⟨(by repeat (first | exact hs_eq _ _ _ | refine hs_ne (by omega) ?_ | assumption)), (by repeat (first | exact hs_eq _ _ _ | refine hs_ne (by omega) ?_ | assumption)), (by repeat (first | exact hs_eq _ _ _ | refine hs_ne (by omega) ?_ | assumption)), (by repeat (first | exact hs_eq _ _ _ | refine hs_ne (by omega) ?_ | assumption)), (by repeat (first | exact hs_eq _ _ _ | refine hs_ne (by omega) ?_ | assumption))⟩, ?_⟩ (fun aaa haa => by repeat (first | rfl | refine hs_ne (by omega) ?_))) ((And.intro rfl (And.intro rfl (And.intro rfl (And.intro rfl (And.intro rfl (And.intro rfl (And.intro rfl trivial))))))))
                                   rw [hz]
                                   exact ((hLR.d (by omega) rfl).d (by omega) rfl).n (by decide) (by omega))
                                | (have hc : ¬ ov = 0 ∧ zrr 10 % 60 = 0 ∧ ¬ zSil zrr ∧ zrr 52 = 4 := ⟨by omega, by omega, hs0 (by omega), by omega⟩
                                   have y52 : (zDrop (iu zrr 15 (zrr 15 + zrr 54))) 52 = zrr 52 - 1 := by rw [zDrop_52, iu_ne (by decide)]
                                   have hz : (if ov = 0 then zrr else zFive zrr) = iu (iu (iu (zDrop (iu zrr 15 (zrr 15 + zrr 54))) (53 + 2 * (zDrop (iu zrr 15 (zrr 15 + zrr 54))) 52) (zHour (zrr 10))) (53 + 2 * (zDrop (iu zrr 15 (zrr 15 + zrr 54))) 52 + 1) (zHour (zrr 10))) 52 ((zDrop (iu zrr 15 (zrr 15 + zrr 54))) 52 + 1) := by
                                     rw [if_neg hc.1, zFive, if_neg (fun q => q hc.2.1), if_neg hc.2.2.1, zMk, if_pos hc.2.2.2]
                                   refine k_sub (kend _ ⟨_, _, _, _, _, ⟨(by repeat (first | exact hs_eq _ _ _ | refine hs_ne (by omega) ?_ | assumption)), (by repeat (first | exact hs_eq _ _ _ | refine hs_ne (by omega) ?_ | assumption)), (by repeat (first | exact hs_eq _ _ _ | refine hs_ne (by omega) ?_ | assumption)), (by repeat (first | exact hs_eq _ _ _ | refine hs_ne (by omega) ?_ | assumption)), (by repeat (first | exact hs_eq _ _ _ | refine hs_ne (by omega) ?_ | assumption))⟩, ?_⟩ (fun aaa haa => by repeat (first | rfl | refine hs_ne (by omega) ?_))) ((And.intro rfl (And.intro rfl (And.intro rfl (And.intro rfl (And.intro rfl (And.intro rfl (And.intro rfl trivial))))))))
                                   rw [hz]
                                   exact ((((hLR.n (j := 6) (q := 15) (by decide) (by omega)).dropm (by rw [iu_ne (by decide)]; omega) (by rw [iu_ne (by decide)]; omega) (by rw [iu_ne (by decide)])).d (by omega) rfl).d (by omega) rfl).n (by decide) (by omega)))
                          · try (exfalso; omega)
                            all_goals (
                              refine k_aload_n C dL_minute_499 rfl ?_
                              refine k_bipush C dL_minute_500 (by decide +kernel) ?_
                              refine k_dup2 C dL_minute_502 rfl rfl ?_
                              refine k_iaload C dL_minute_503 (by repeat (first | exact hs_eq _ _ _ | refine hs_ne (by omega) ?_ | assumption)) (by omega) (by omega) (by omega) ?_
                              refine k_aload C dL_minute_504 rfl ?_
                              refine k_iconst C dL_minute_506 ?_
                              refine k_iaload C dL_minute_507 (by repeat (first | exact hs_eq _ _ _ | refine hs_ne (by omega) ?_ | assumption)) (by omega) (by omega) (by omega) ?_
                              refine k_iadd C dL_minute_508 ?_
                              refine k_iastore C dL_minute_509 (by repeat (first | exact hs_eq _ _ _ | refine hs_ne (by omega) ?_ | assumption)) (by omega) (by omega) (by omega) ?_
                              refine k_aload_n C dL_minute_510 rfl ?_
                              refine k_aload C dL_minute_511 rfl ?_
                              refine k_callS C (n := 2) (as := [_, _]) (ct_L_drop l D tc base an _ de _ (by repeat (first | exact hs_eq _ _ _ | refine hs_ne (by omega) ?_ | assumption)) (by repeat (first | exact hs_eq _ _ _ | refine hs_ne (by omega) ?_ | assumption)) (by simp (disch := decide) only [iu_ne]; omega)) ml_L_22 sm_L_drop ini_L co_L_drop ⟨by decide, by decide, by decide +kernel⟩ rfl ⟨by decide, by decide⟩ rfl (Nat.le_of_ble_eq_true rfl) ⟨Nat.zero_le _, Nat.zero_le _⟩ dL_minute_513 ?_
                              rintro _ _ ⟨rfl, rfl⟩
                              simp (disch := decide) only [iu_ne]
                              refine k_aload C dL_minute_516 rfl ?_
                              refine k_iconst C dL_minute_518 ?_
                              refine k_aload_n C dL_minute_519 rfl ?_
                              refine k_bipush C dL_minute_520 (by decide +kernel) ?_
                              refine k_iaload C dL_minute_522 (by repeat (first | exact hs_eq _ _ _ | refine hs_ne (by omega) ?_ | assumption)) (by omega) (by omega) (by omega) ?_
                              try simp (disch := omega) only [hs_hs, iu_ne, iu_eq]
                              refine k_imul C dL_minute_523 ?_
                              refine k_aload_n C dL_minute_524 rfl ?_
                              refine k_iconst C dL_minute_525 ?_
                              refine k_iaload C dL_minute_526 (by repeat (first | exact hs_eq _ _ _ | refine hs_ne (by omega) ?_ | assumption)) (by omega) (by omega) (by omega) ?_
                              try simp (disch := omega) only [hs_hs, iu_ne, iu_eq]
                              refine k_callS C (n := 1) (as := [_]) (ct_L_hour l D tc base _ _ (by omega) (by omega)) ml_L_8 sm_L_hour ini_L co_L_hour ⟨by decide, by decide, by decide +kernel⟩ rfl ⟨by decide, by decide⟩ rfl (Nat.le_of_ble_eq_true rfl) ⟨Nat.zero_le _, Nat.zero_le _⟩ dL_minute_527 ?_
                              rintro _ _ ⟨rfl, rfl⟩
                              rw [e1]
                              refine k_iastore C dL_minute_530 (by repeat (first | exact hs_eq _ _ _ | refine hs_ne (by omega) ?_ | assumption)) (by omega) (by omega) (by omega) ?_
                              refine k_aload C dL_minute_531 rfl ?_
                              refine k_iconst C dL_minute_533 ?_
                              refine k_aload_n C dL_minute_534 rfl ?_
                              refine k_bipush C dL_minute_535 (by decide +kernel) ?_
                              refine k_iaload C dL_minute_537 (by repeat (first | exact hs_eq _ _ _ | refine hs_ne (by omega) ?_ | assumption)) (by omega) (by omega) (by omega) ?_
                              try simp (disch := omega) only [hs_hs, iu_ne, iu_eq]
                              refine k_imul C dL_minute_538 ?_
                              refine k_iconst C dL_minute_539 ?_
                              refine k_iadd C dL_minute_540 ?_
                              refine k_aload_n C dL_minute_541 rfl ?_
                              refine k_iconst C dL_minute_542 ?_
                              refine k_iaload C dL_minute_543 (by repeat (first | exact hs_eq _ _ _ | refine hs_ne (by omega) ?_ | assumption)) (by omega) (by omega) (by omega) ?_
                              try simp (disch := omega) only [hs_hs, iu_ne, iu_eq]
                              refine k_callS C (n := 1) (as := [_]) (ct_L_hour l D tc base _ _ (by omega) (by omega)) ml_L_8 sm_L_hour ini_L co_L_hour ⟨by decide, by decide, by decide +kernel⟩ rfl ⟨by decide, by decide⟩ rfl (Nat.le_of_ble_eq_true rfl) ⟨Nat.zero_le _, Nat.zero_le _⟩ dL_minute_544 ?_
                              rintro _ _ ⟨rfl, rfl⟩
                              rw [e1]
                              refine k_iastore C dL_minute_547 (by repeat (first | exact hs_eq _ _ _ | refine hs_ne (by omega) ?_ | assumption)) (by omega) (by omega) (by omega) ?_
                              refine k_aload_n C dL_minute_548 rfl ?_
                              refine k_bipush C dL_minute_549 (by decide +kernel) ?_
                              refine k_dup2 C dL_minute_551 rfl rfl ?_
                              refine k_iaload C dL_minute_552 (by repeat (first | exact hs_eq _ _ _ | refine hs_ne (by omega) ?_ | assumption)) (by omega) (by omega) (by omega) ?_
                              try simp (disch := omega) only [hs_hs, iu_ne, iu_eq]
                              refine k_iconst C dL_minute_553 ?_
                              refine k_iadd C dL_minute_554 ?_
                              refine k_iastore C dL_minute_555 (by repeat (first | exact hs_eq _ _ _ | refine hs_ne (by omega) ?_ | assumption)) (by omega) (by omega) (by omega) ?_
                              first
                                | (have hc : ov = 0 := by omega
                                   have hz : (if ov = 0 then zrr else zFive zrr) = zrr := by
                                     exact if_pos hc
                                   refine k_sub (kend _ ⟨_, _, _, _, _, ⟨(by repeat (first | exact hs_eq _ _ _ | refine hs_ne (by omega) ?_ | assumption)), (by repeat (first | exact hs_eq _ _ _ | refine hs_ne (by omega) ?_ | assumption)), (by repeat (first | exact hs_eq _ _ _ | refine hs_ne (by omega) ?_ | assumption)), (by repeat (first | exact hs_eq _ _ _ | refine hs_ne (by omega) ?_ | assumption)), (by repeat (first | exact hs_eq _ _ _ | refine hs_ne (by omega) ?_ | assumption))⟩, ?_⟩ (fun aaa haa => by repeat (first | rfl | refine hs_ne (by omega) ?_))) ((And.intro rfl (And.intro rfl (And.intro rfl (And.intro rfl (And.intro rfl (And.intro rfl (And.intro rfl trivial))))))))
                                   rw [hz]
                                   exact hLR)
                                | (have hc : ¬ ov = 0 ∧ ¬ zrr 10 % 60 = 0 := ⟨by omega, by omega⟩
                                   have hz : (if ov = 0 then zrr else zFive zrr) = zrr := by
                                     rw [if_neg hc.1, zFive, if_pos hc.2]
                                   refine k_sub (kend _ ⟨_, _, _, _, _, ⟨(by repeat (first | exact hs_eq _ _ _ | refine hs_ne (by omega) ?_ | assumption)), (by repeat (first | exact hs_eq _ _ _ | refine hs_ne (by omega) ?_ | assumption)), (by repeat (first | exact hs_eq _ _ _ | refine hs_ne (by omega) ?_ | assumption)), (by repeat (first | exact hs_eq _ _ _ | refine hs_ne (by omega) ?_ | assumption)), (by repeat (first | exact hs_eq _ _ _ | refine hs_ne (by omega) ?_ | assumption))⟩, ?_⟩ (fun aaa haa => by repeat (first | rfl | refine hs_ne (by omega) ?_))) ((And.intro rfl (And.intro rfl (And.intro rfl (And.intro rfl (And.intro rfl (And.intro rfl (And.intro rfl trivial))))))))
                                   rw [hz]
                                   exact hLR)
                                | (have hc : ¬ ov = 0 ∧ zrr 10 % 60 = 0 ∧ zSil zrr := ⟨by omega, by omega, hs1 (by omega)⟩
                                   have hz : (if ov = 0 then zrr else zFive zrr) = iu zrr 15 (zrr 15 + (zHour (zrr 10))) := by
                                     rw [if_neg hc.1, zFive, if_neg (fun q => q hc.2.1), if_pos hc.2.2]
                                   refine k_sub (kend _ ⟨_, _, _, _, _, ⟨(by repeat (first | exact hs_eq _ _ _ | refine hs_ne (by omega) ?_ | assumption)), (by repeat (first | exact hs_eq _ _ _ | refine hs_ne (by omega) ?_ | assumption)), (by repeat (first | exact hs_eq _ _ _ | refine hs_ne (by omega) ?_ | assumption)), (by repeat (first | exact hs_eq _ _ _ | refine hs_ne (by omega) ?_ | assumption)), (by repeat (first | exact hs_eq _ _ _ | refine hs_ne (by omega) ?_ | assumption))⟩, ?_⟩ (fun aaa haa => by repeat (first | rfl | refine hs_ne (by omega) ?_))) ((And.intro rfl (And.intro rfl (And.intro rfl (And.intro rfl (And.intro rfl (And.intro rfl (And.intro rfl trivial))))))))
                                   rw [hz]
                                   exact hLR.n (by decide) (by first | omega | (simp (disch := decide) only [iu_ne, iu_eq]; omega)))
                                | (have hc : ¬ ov = 0 ∧ zrr 10 % 60 = 0 ∧ ¬ zSil zrr ∧ ¬ zrr 52 = 4 := ⟨by omega, by omega, hs0 (by omega), by omega⟩
                                   have hz : (if ov = 0 then zrr else zFive zrr) = iu (iu (iu zrr (53 + 2 * zrr 52) (zHour (zrr 10))) (53 + 2 * zrr 52 + 1) (zHour (zrr 10))) 52 (zrr 52 + 1) := by
                                     rw [if_neg hc.1, zFive, if_neg (fun q => q hc.2.1), if_neg hc.2.2.1, zMk, if_neg hc.2.2.2]
                                   refine k_sub (kend _ ⟨_, _, _, _, _, ⟨(by repeat (first | exact hs_eq _ _ _ | refine hs_ne (by omega) ?_ | assumption)), (by repeat (first | exact hs_eq _ _ _ | refine hs_ne (by omega) ?_ | assumption)), (by repeat (first | exact hs_eq _ _ _ | refine hs_ne (by omega) ?_ | assumption)), (by repeat (first | exact hs_eq _ _ _ | refine hs_ne (by omega) ?_ | assumption)), (by repeat (first | exact hs_eq _ _ _ | refine hs_ne (by omega) ?_ | assumption))⟩, ?_⟩ (fun aaa haa => by repeat (first | rfl | refine hs_ne (by omega) ?_))) ((And.intro rfl (And.intro rfl (And.intro rfl (And.intro rfl (And.intro rfl (And.intro rfl (And.intro rfl trivial))))))))
                                   rw [hz]
                                   exact ((hLR.d (by omega) rfl).d (by omega) rfl).n (by decide) (by omega))
                                | (have hc : ¬ ov = 0 ∧ zrr 10 % 60 = 0 ∧ ¬ zSil zrr ∧ zrr 52 = 4 := ⟨by omega, by omega, hs0 (by omega), by omega⟩
                                   have y52 : (zDrop (iu zrr 15 (zrr 15 + zrr 54))) 52 = zrr 52 - 1 := by rw [zDrop_52, iu_ne (by decide)]
                                   have hz : (if ov = 0 then zrr else zFive zrr) = iu (iu (iu (zDrop (iu zrr 15 (zrr 15 + zrr 54))) (53 + 2 * (zDrop (iu zrr 15 (zrr 15 + zrr 54))) 52) (zHour (zrr 10))) (53 + 2 * (zDrop (iu zrr 15 (zrr 15 + zrr 54))) 52 + 1) (zHour (zrr 10))) 52 ((zDrop (iu zrr 15 (zrr 15 + zrr 54))) 52 + 1) := by
                                     rw [if_neg hc.1, zFive, if_neg (fun q => q hc.2.1), if_neg hc.2.2.1, zMk, if_pos hc.2.2.2]
                                   refine k_sub (kend _ ⟨_, _, _, _, _, ⟨(by repeat (first | exact hs_eq _ _ _ | refine hs_ne (by omega) ?_ | assumption)), (by repeat (first | exact hs_eq _ _ _ | refine hs_ne (by omega) ?_ | assumption)), (by repeat (first | exact hs_eq _ _ _ | refine hs_ne (by omega) ?_ | assumption)), (by repeat (first | exact hs_eq _ _ _ | refine hs_ne (by omega) ?_ | assumption)), (by repeat (first | exact hs_eq _ _ _ | refine hs_ne (by omega) ?_ | assumption))⟩, ?_⟩ (fun aaa haa => by repeat (first | rfl | refine hs_ne (by omega) ?_))) ((And.intro rfl (And.intro rfl (And.intro rfl (And.intro rfl (And.intro rfl (And.intro rfl (And.intro rfl trivial))))))))
                                   rw [hz]
                                   exact ((((hLR.n (j := 6) (q := 15) (by decide) (by omega)).dropm (by rw [iu_ne (by decide)]; omega) (by rw [iu_ne (by decide)]; omega) (by rw [iu_ne (by decide)])).d (by omega) rfl).d (by omega) rfl).n (by decide) (by omega)))))))
          · try (exfalso; omega)
            all_goals (
              refine k_aload_n C dL_minute_459 rfl ?_
              refine k_bipush C dL_minute_460 (by decide +kernel) ?_
              refine k_dup2 C dL_minute_462 rfl rfl ?_
              refine k_iaload C dL_minute_463 (by repeat (first | exact hs_eq _ _ _ | refine hs_ne (by omega) ?_ | assumption)) (by omega) (by omega) (by omega) ?_
              refine k_aload_n C dL_minute_464 rfl ?_
              refine k_iconst C dL_minute_465 ?_
              refine k_iaload C dL_minute_466 (by repeat (first | exact hs_eq _ _ _ | refine hs_ne (by omega) ?_ | assumption)) (by omega) (by omega) (by omega) ?_
              refine k_callS C (n := 1) (as := [_]) (ct_L_hour l D tc base _ _ (by omega) (by omega)) ml_L_8 sm_L_hour ini_L co_L_hour ⟨by decide, by decide, by decide +kernel⟩ rfl ⟨by decide, by decide⟩ rfl (Nat.le_of_ble_eq_true rfl) ⟨Nat.zero_le _, Nat.zero_le _⟩ dL_minute_467 ?_
              rintro _ _ ⟨rfl, rfl⟩
              rw [e1]
              refine k_iadd C dL_minute_470 ?_
              refine k_iastore C dL_minute_471 (by repeat (first | exact hs_eq _ _ _ | refine hs_ne (by omega) ?_ | assumption)) (by omega) (by omega) (by omega) ?_
              refine k_iload C dL_minute_472 rfl ?_
              refine k_if_eq (tgt := 556) C dL_minute_474 (by decide) ⟨by omega, by omega⟩ (fun c474 => ?_) (fun c474 => ?_)
              · try (exfalso; omega)
                all_goals (
                  first
                    | (have hc : ov = 0 := by omega
                       have hz : (if ov = 0 then zrr else zFive zrr) = zrr := by
                         exact if_pos hc
                       refine k_sub (kend _ ⟨_, _, _, _, _, ⟨(by repeat (first | exact hs_eq _ _ _ | refine hs_ne (by omega) ?_ | assumption)), (by repeat (first | exact hs_eq _ _ _ | refine hs_ne (by omega) ?_ | assumption)), (by repeat (first | exact hs_eq _ _ _ | refine hs_ne (by omega) ?_ | assumption)), (by repeat (first | exact hs_eq _ _ _ | refine hs_ne (by omega) ?_ | assumption)), (by repeat (first | exact hs_eq _ _ _ | refine hs_ne (by omega) ?_ | assumption))⟩, ?_⟩ (fun aaa haa => by repeat (first | rfl | refine hs_ne (by omega) ?_))) ((And.intro rfl (And.intro rfl (And.intro rfl (And.intro rfl (And.intro rfl (And.intro rfl (And.intro rfl trivial))))))))
                       rw [hz]
                       exact hLR)
                    | (have hc : ¬ ov = 0 ∧ ¬ zrr 10 % 60 = 0 := ⟨by omega, by omega⟩
                       have hz : (if ov = 0 then zrr else zFive zrr) = zrr := by
                         rw [if_neg hc.1, zFive, if_pos hc.2]
                       refine k_sub (kend _ ⟨_, _, _, _, _, ⟨(by repeat (first | exact hs_eq _ _ _ | refine hs_ne (by omega) ?_ | assumption)), (by repeat (first | exact hs_eq _ _ _ | refine hs_ne (by omega) ?_ | assumption)), (by repeat (first | exact hs_eq _ _ _ | refine hs_ne (by omega) ?_ | assumption)), (by repeat (first | exact hs_eq _ _ _ | refine hs_ne (by omega) ?_ | assumption)), (by repeat (first | exact hs_eq _ _ _ | refine hs_ne (by omega) ?_ | assumption))⟩, ?_⟩ (fun aaa haa => by repeat (first | rfl | refine hs_ne (by omega) ?_))) ((And.intro rfl (And.intro rfl (And.intro rfl (And.intro rfl (And.intro rfl (And.intro rfl (And.intro rfl trivial))))))))
                       rw [hz]
                       exact hLR)
                    | (have hc : ¬ ov = 0 ∧ zrr 10 % 60 = 0 ∧ zSil zrr := ⟨by omega, by omega, hs1 (by omega)⟩
                       have hz : (if ov = 0 then zrr else zFive zrr) = iu zrr 15 (zrr 15 + (zHour (zrr 10))) := by
                         rw [if_neg hc.1, zFive, if_neg (fun q => q hc.2.1), if_pos hc.2.2]
                       refine k_sub (kend _ ⟨_, _, _, _, _, ⟨(by repeat (first | exact hs_eq _ _ _ | refine hs_ne (by omega) ?_ | assumption)), (by repeat (first | exact hs_eq _ _ _ | refine hs_ne (by omega) ?_ | assumption)), (by repeat (first | exact hs_eq _ _ _ | refine hs_ne (by omega) ?_ | assumption)), (by repeat (first | exact hs_eq _ _ _ | refine hs_ne (by omega) ?_ | assumption)), (by repeat (first | exact hs_eq _ _ _ | refine hs_ne (by omega) ?_ | assumption))⟩, ?_⟩ (fun aaa haa => by repeat (first | rfl | refine hs_ne (by omega) ?_))) ((And.intro rfl (And.intro rfl (And.intro rfl (And.intro rfl (And.intro rfl (And.intro rfl (And.intro rfl trivial))))))))
                       rw [hz]
                       exact hLR.n (by decide) (by first | omega | (simp (disch := decide) only [iu_ne, iu_eq]; omega)))
                    | (have hc : ¬ ov = 0 ∧ zrr 10 % 60 = 0 ∧ ¬ zSil zrr ∧ ¬ zrr 52 = 4 := ⟨by omega, by omega, hs0 (by omega), by omega⟩
                       have hz : (if ov = 0 then zrr else zFive zrr) = iu (iu (iu zrr (53 + 2 * zrr 52) (zHour (zrr 10))) (53 + 2 * zrr 52 + 1) (zHour (zrr 10))) 52 (zrr 52 + 1) := by
                         rw [if_neg hc.1, zFive, if_neg (fun q => q hc.2.1), if_neg hc.2.2.1, zMk, if_neg hc.2.2.2]
                       refine k_sub (kend _ ⟨_, _, _, _, _, ⟨(by repeat (first | exact hs_eq _ _ _ | refine hs_ne (by omega) ?_ | assumption)), (by repeat (first | exact hs_eq _ _ _ | refine hs_ne (by omega) ?_ | assumption)), (by repeat (first | exact hs_eq _ _ _ | refine hs_ne (by omega) ?_ | assumption)), (by repeat (first | exact hs_eq _ _ _ | refine hs_ne (by omega) ?_ | assumption)), (by repeat (first | exact hs_eq _ _ _ | refine hs_ne (by omega) ?_ | assumption))⟩, ?_⟩ (fun aaa haa => by repeat (first | rfl | refine hs_ne (by omega) ?_))) ((And.intro rfl (And.intro rfl (And.intro rfl (And.intro rfl (And.intro rfl (And.intro rfl (And.intro rfl trivial))))))))
                       rw [hz]
                       exact ((hLR.d (by omega) rfl).d (by omega) rfl).n (by decide) (by omega))
                    | (have hc : ¬ ov = 0 ∧ zrr 10 % 60 = 0 ∧ ¬ zSil zrr ∧ zrr 52 = 4 := ⟨by omega, by omega, hs0 (by omega), by omega⟩
                       have y52 : (zDrop (iu zrr 15 (zrr 15 + zrr 54))) 52 = zrr 52 - 1 := by rw [zDrop_52, iu_ne (by decide)]
                       have hz : (if ov = 0 then zrr else zFive zrr) = iu (iu (iu (zDrop (iu zrr 15 (zrr 15 + zrr 54))) (53 + 2 * (zDrop (iu zrr 15 (zrr 15 + zrr 54))) 52) (zHour (zrr 10))) (53 + 2 * (zDrop (iu zrr 15 (zrr 15 + zrr 54))) 52 + 1) (zHour (zrr 10))) 52 ((zDrop (iu zrr 15 (zrr 15 + zrr 54))) 52 + 1) := by
                         rw [if_neg hc.1, zFive, if_neg (fun q => q hc.2.1), if_neg hc.2.2.1, zMk, if_pos hc.2.2.2]
                       refine k_sub (kend _ ⟨_, _, _, _, _, ⟨(by repeat (first | exact hs_eq _ _ _ | refine hs_ne (by omega) ?_ | assumption)), (by repeat (first | exact hs_eq _ _ _ | refine hs_ne (by omega) ?_ | assumption)), (by repeat (first | exact hs_eq _ _ _ | refine hs_ne (by omega) ?_ | assumption)), (by repeat (first | exact hs_eq _ _ _ | refine hs_ne (by omega) ?_ | assumption)), (by repeat (first | exact hs_eq _ _ _ | refine hs_ne (by omega) ?_ | assumption))⟩, ?_⟩ (fun aaa haa => by repeat (first | rfl | refine hs_ne (by omega) ?_))) ((And.intro rfl (And.intro rfl (And.intro rfl (And.intro rfl (And.intro rfl (And.intro rfl (And.intro rfl trivial))))))))
                       rw [hz]
                       exact ((((hLR.n (j := 6) (q := 15) (by decide) (by omega)).dropm (by rw [iu_ne (by decide)]; omega) (by rw [iu_ne (by decide)]; omega) (by rw [iu_ne (by decide)])).d (by omega) rfl).d (by omega) rfl).n (by decide) (by omega)))
              · try (exfalso; omega)
                all_goals (
                  refine k_aload_n C dL_minute_477 rfl ?_
                  refine k_iconst C dL_minute_478 ?_
                  refine k_iaload C dL_minute_479 (by repeat (first | exact hs_eq _ _ _ | refine hs_ne (by omega) ?_ | assumption)) (by omega) (by omega) (by omega) ?_
                  try simp (disch := omega) only [hs_hs, iu_ne, iu_eq]
                  refine k_bipush C dL_minute_480 (by decide +kernel) ?_
                  refine k_irem C dL_minute_482 (by omega) (by omega) (by omega) (by omega) ?_
                  refine k_if_ne (tgt := 556) C dL_minute_483 (by decide) ⟨by omega, by omega⟩ (fun c483 => ?_) (fun c483 => ?_)
                  · try (exfalso; omega)
                    all_goals (
                      first
                        | (have hc : ov = 0 := by omega
                           have hz : (if ov = 0 then zrr else zFive zrr) = zrr := by
                             exact if_pos hc
                           refine k_sub (kend _ ⟨_, _, _, _, _, ⟨(by repeat (first | exact hs_eq _ _ _ | refine hs_ne (by omega) ?_ | assumption)), (by repeat (first | exact hs_eq _ _ _ | refine hs_ne (by omega) ?_ | assumption)), (by repeat (first | exact hs_eq _ _ _ | refine hs_ne (by omega) ?_ | assumption)), (by repeat (first | exact hs_eq _ _ _ | refine hs_ne (by omega) ?_ | assumption)), (by repeat (first | exact hs_eq _ _ _ | refine hs_ne (by omega) ?_ | assumption))⟩, ?_⟩ (fun aaa haa => by repeat (first | rfl | refine hs_ne (by omega) ?_))) ((And.intro rfl (And.intro rfl (And.intro rfl (And.intro rfl (And.intro rfl (And.intro rfl (And.intro rfl trivial))))))))
                           rw [hz]
                           exact hLR)
                        | (have hc : ¬ ov = 0 ∧ ¬ zrr 10 % 60 = 0 := ⟨by omega, by omega⟩
                           have hz : (if ov = 0 then zrr else zFive zrr) = zrr := by
                             rw [if_neg hc.1, zFive, if_pos hc.2]
                           refine k_sub (kend _ ⟨_, _, _, _, _, ⟨(by repeat (first | exact hs_eq _ _ _ | refine hs_ne (by omega) ?_ | assumption)), (by repeat (first | exact hs_eq _ _ _ | refine hs_ne (by omega) ?_ | assumption)), (by repeat (first | exact hs_eq _ _ _ | refine hs_ne (by omega) ?_ | assumption)), (by repeat (first | exact hs_eq _ _ _ | refine hs_ne (by omega) ?_ | assumption)), (by repeat (first | exact hs_eq _ _ _ | refine hs_ne (by omega) ?_ | assumption))⟩, ?_⟩ (fun aaa haa => by repeat (first | rfl | refine hs_ne (by omega) ?_))) ((And.intro rfl (And.intro rfl (And.intro rfl (And.intro rfl (And.intro rfl (And.intro rfl (And.intro rfl trivial))))))))
                           rw [hz]
                           exact hLR)
                        | (have hc : ¬ ov = 0 ∧ zrr 10 % 60 = 0 ∧ zSil zrr := ⟨by omega, by omega, hs1 (by omega)⟩
                           have hz : (if ov = 0 then zrr else zFive zrr) = iu zrr 15 (zrr 15 + (zHour (zrr 10))) := by
                             rw [if_neg hc.1, zFive, if_neg (fun q => q hc.2.1), if_pos hc.2.2]
                           refine k_sub (kend _ ⟨_, _, _, _, _, ⟨(by repeat (first | exact hs_eq _ _ _ | refine hs_ne (by omega) ?_ | assumption)), (by repeat (first | exact hs_eq _ _ _ | refine hs_ne (by omega) ?_ | assumption)), (by repeat (first | exact hs_eq _ _ _ | refine hs_ne (by omega) ?_ | assumption)), (by repeat (first | exact hs_eq _ _ _ | refine hs_ne (by omega) ?_ | assumption)), (by repeat (first | exact hs_eq _ _ _ | refine hs_ne (by omega) ?_ | assumption))⟩, ?_⟩ (fun aaa haa => by repeat (first | rfl | refine hs_ne (by omega) ?_))) ((And.intro rfl (And.intro rfl (And.intro rfl (And.intro rfl (And.intro rfl (And.intro rfl (And.intro rfl trivial))))))))
                           rw [hz]
                           exact hLR.n (by decide) (by first | omega | (simp (disch := decide) only [iu_ne, iu_eq]; omega)))
                        | (have hc : ¬ ov = 0 ∧ zrr 10 % 60 = 0 ∧ ¬ zSil zrr ∧ ¬ zrr 52 = 4 := ⟨by omega, by omega, hs0 (by omega), by omega⟩
                           have hz : (if ov = 0 then zrr else zFive zrr) = iu (iu (iu zrr (53 + 2 * zrr 52) (zHour (zrr 10))) (53 + 2 * zrr 52 + 1) (zHour (zrr 10))) 52 (zrr 52 + 1) := by
                             rw [if_neg hc.1, zFive, if_neg (fun q => q hc.2.1), if_neg hc.2.2.1, zMk, if_neg hc.2.2.2]
                           refine k_sub (kend _ ⟨_, _, _, _, _, ⟨(by repeat (first | exact hs_eq _ _ _ | refine hs_ne (by omega) ?_ | assumption)), (by repeat (first | exact hs_eq _ _ _ | refine hs_ne (by omega) ?_ | assumption)), (by repeat (first | exact hs_eq _ _ _ | refine hs_ne (by omega) ?_ | assumption)), (by repeat (first | exact hs_eq _ _ _ | refine hs_ne (by omega) ?_ | assumption)), (by repeat (first | exact hs_eq _ _ _ | refine hs_ne (by omega) ?_ | assumption))⟩, ?_⟩ (fun aaa haa => by repeat (first | rfl | refine hs_ne (by omega) ?_))) ((And.intro rfl (And.intro rfl (And.intro rfl (And.intro rfl (And.intro rfl (And.intro rfl (And.intro rfl trivial))))))))
                           rw [hz]
                           exact ((hLR.d (by omega) rfl).d (by omega) rfl).n (by decide) (by omega))
                        | (have hc : ¬ ov = 0 ∧ zrr 10 % 60 = 0 ∧ ¬ zSil zrr ∧ zrr 52 = 4 := ⟨by omega, by omega, hs0 (by omega), by omega⟩
                           have y52 : (zDrop (iu zrr 15 (zrr 15 + zrr 54))) 52 = zrr 52 - 1 := by rw [zDrop_52, iu_ne (by decide)]
                           have hz : (if ov = 0 then zrr else zFive zrr) = iu (iu (iu (zDrop (iu zrr 15 (zrr 15 + zrr 54))) (53 + 2 * (zDrop (iu zrr 15 (zrr 15 + zrr 54))) 52) (zHour (zrr 10))) (53 + 2 * (zDrop (iu zrr 15 (zrr 15 + zrr 54))) 52 + 1) (zHour (zrr 10))) 52 ((zDrop (iu zrr 15 (zrr 15 + zrr 54))) 52 + 1) := by
                             rw [if_neg hc.1, zFive, if_neg (fun q => q hc.2.1), if_neg hc.2.2.1, zMk, if_pos hc.2.2.2]
                           refine k_sub (kend _ ⟨_, _, _, _, _, ⟨(by repeat (first | exact hs_eq _ _ _ | refine hs_ne (by omega) ?_ | assumption)), (by repeat (first | exact hs_eq _ _ _ | refine hs_ne (by omega) ?_ | assumption)), (by repeat (first | exact hs_eq _ _ _ | refine hs_ne (by omega) ?_ | assumption)), (by repeat (first | exact hs_eq _ _ _ | refine hs_ne (by omega) ?_ | assumption)), (by repeat (first | exact hs_eq _ _ _ | refine hs_ne (by omega) ?_ | assumption))⟩, ?_⟩ (fun aaa haa => by repeat (first | rfl | refine hs_ne (by omega) ?_))) ((And.intro rfl (And.intro rfl (And.intro rfl (And.intro rfl (And.intro rfl (And.intro rfl (And.intro rfl trivial))))))))
                           rw [hz]
                           exact ((((hLR.n (j := 6) (q := 15) (by decide) (by omega)).dropm (by rw [iu_ne (by decide)]; omega) (by rw [iu_ne (by decide)]; omega) (by rw [iu_ne (by decide)])).d (by omega) rfl).d (by omega) rfl).n (by decide) (by omega)))
                  · try (exfalso; omega)
                    all_goals (
                      refine k_iload C dL_minute_486 rfl ?_
                      refine k_if_ne (tgt := 556) C dL_minute_488 (by decide) ⟨by omega, by omega⟩ (fun c488 => ?_) (fun c488 => ?_)
                      · try (exfalso; omega)
                        all_goals (
                          first
                            | (have hc : ov = 0 := by omega
                               have hz : (if ov = 0 then zrr else zFive zrr) = zrr := by
                                 exact if_pos hc
                               refine k_sub (kend _ ⟨_, _, _, _, _, ⟨(by repeat (first | exact hs_eq _ _ _ | refine hs_ne (by omega) ?_ | assumption)), (by repeat (first | exact hs_eq _ _ _ | refine hs_ne (by omega) ?_ | assumption)), (by repeat (first | exact hs_eq _ _ _ | refine hs_ne (by omega) ?_ | assumption)), (by repeat (first | exact hs_eq _ _ _ | refine hs_ne (by omega) ?_ | assumption)), (by repeat (first | exact hs_eq _ _ _ | refine hs_ne (by omega) ?_ | assumption))⟩, ?_⟩ (fun aaa haa => by repeat (first | rfl | refine hs_ne (by omega) ?_))) ((And.intro rfl (And.intro rfl (And.intro rfl (And.intro rfl (And.intro rfl (And.intro rfl (And.intro rfl trivial))))))))
                               rw [hz]
                               exact hLR)
                            | (have hc : ¬ ov = 0 ∧ ¬ zrr 10 % 60 = 0 := ⟨by omega, by omega⟩
                               have hz : (if ov = 0 then zrr else zFive zrr) = zrr := by
                                 rw [if_neg hc.1, zFive, if_pos hc.2]
                               refine k_sub (kend _ ⟨_, _, _, _, _, ⟨(by repeat (first | exact hs_eq _ _ _ | refine hs_ne (by omega) ?_ | assumption)), (by repeat (first | exact hs_eq _ _ _ | refine hs_ne (by omega) ?_ | assumption)), (by repeat (first | exact hs_eq _ _ _ | refine hs_ne (by omega) ?_ | assumption)), (by repeat (first | exact hs_eq _ _ _ | refine hs_ne (by omega) ?_ | assumption)), (by repeat (first | exact hs_eq _ _ _ | refine hs_ne (by omega) ?_ | assumption))⟩, ?_⟩ (fun aaa haa => by repeat (first | rfl | refine hs_ne (by omega) ?_))) ((And.intro rfl (And.intro rfl (And.intro rfl (And.intro rfl (And.intro rfl (And.intro rfl (And.intro rfl trivial))))))))
                               rw [hz]
                               exact hLR)
                            | (have hc : ¬ ov = 0 ∧ zrr 10 % 60 = 0 ∧ zSil zrr := ⟨by omega, by omega, hs1 (by omega)⟩
                               have hz : (if ov = 0 then zrr else zFive zrr) = iu zrr 15 (zrr 15 + (zHour (zrr 10))) := by
                                 rw [if_neg hc.1, zFive, if_neg (fun q => q hc.2.1), if_pos hc.2.2]
                               refine k_sub (kend _ ⟨_, _, _, _, _, ⟨(by repeat (first | exact hs_eq _ _ _ | refine hs_ne (by omega) ?_ | assumption)), (by repeat (first | exact hs_eq _ _ _ | refine hs_ne (by omega) ?_ | assumption)), (by repeat (first | exact hs_eq _ _ _ | refine hs_ne (by omega) ?_ | assumption)), (by repeat (first | exact hs_eq _ _ _ | refine hs_ne (by omega) ?_ | assumption)), (by repeat (first | exact hs_eq _ _ _ | refine hs_ne (by omega) ?_ | assumption))⟩, ?_⟩ (fun aaa haa => by repeat (first | rfl | refine hs_ne (by omega) ?_))) ((And.intro rfl (And.intro rfl (And.intro rfl (And.intro rfl (And.intro rfl (And.intro rfl (And.intro rfl trivial))))))))
                               rw [hz]
                               exact hLR.n (by decide) (by first | omega | (simp (disch := decide) only [iu_ne, iu_eq]; omega)))
                            | (have hc : ¬ ov = 0 ∧ zrr 10 % 60 = 0 ∧ ¬ zSil zrr ∧ ¬ zrr 52 = 4 := ⟨by omega, by omega, hs0 (by omega), by omega⟩
                               have hz : (if ov = 0 then zrr else zFive zrr) = iu (iu (iu zrr (53 + 2 * zrr 52) (zHour (zrr 10))) (53 + 2 * zrr 52 + 1) (zHour (zrr 10))) 52 (zrr 52 + 1) := by
                                 rw [if_neg hc.1, zFive, if_neg (fun q => q hc.2.1), if_neg hc.2.2.1, zMk, if_neg hc.2.2.2]
                               refine k_sub (kend _ ⟨_, _, _, _, _, ⟨(by repeat (first | exact hs_eq _ _ _ | refine hs_ne (by omega) ?_ | assumption)), (by repeat (first | exact hs_eq _ _ _ | refine hs_ne (by omega) ?_ | assumption)), (by repeat (first | exact hs_eq _ _ _ | refine hs_ne (by omega) ?_ | assumption)), (by repeat (first | exact hs_eq _ _ _ | refine hs_ne (by omega) ?_ | assumption)), (by repeat (first | exact hs_eq _ _ _ | refine hs_ne (by omega) ?_ | assumption))⟩, ?_⟩ (fun aaa haa => by repeat (first | rfl | refine hs_ne (by omega) ?_))) ((And.intro rfl (And.intro rfl (And.intro rfl (And.intro rfl (And.intro rfl (And.intro rfl (And.intro rfl trivial))))))))
                               rw [hz]
                               exact ((hLR.d (by omega) rfl).d (by omega) rfl).n (by decide) (by omega))
                            | (have hc : ¬ ov = 0 ∧ zrr 10 % 60 = 0 ∧ ¬ zSil zrr ∧ zrr 52 = 4 := ⟨by omega, by omega, hs0 (by omega), by omega⟩
                               have y52 : (zDrop (iu zrr 15 (zrr 15 + zrr 54))) 52 = zrr 52 - 1 := by rw [zDrop_52, iu_ne (by decide)]
                               have hz : (if ov = 0 then zrr else zFive zrr) = iu (iu (iu (zDrop (iu zrr 15 (zrr 15 + zrr 54))) (53 + 2 * (zDrop (iu zrr 15 (zrr 15 + zrr 54))) 52) (zHour (zrr 10))) (53 + 2 * (zDrop (iu zrr 15 (zrr 15 + zrr 54))) 52 + 1) (zHour (zrr 10))) 52 ((zDrop (iu zrr 15 (zrr 15 + zrr 54))) 52 + 1) := by
                                 rw [if_neg hc.1, zFive, if_neg (fun q => q hc.2.1), if_neg hc.2.2.1, zMk, if_pos hc.2.2.2]
                               refine k_sub (kend _ ⟨_, _, _, _, _, ⟨(by repeat (first | exact hs_eq _ _ _ | refine hs_ne (by omega) ?_ | assumption)), (by repeat (first | exact hs_eq _ _ _ | refine hs_ne (by omega) ?_ | assumption)), (by repeat (first | exact hs_eq _ _ _ | refine hs_ne (by omega) ?_ | assumption)), (by repeat (first | exact hs_eq _ _ _ | refine hs_ne (by omega) ?_ | assumption)), (by repeat (first | exact hs_eq _ _ _ | refine hs_ne (by omega) ?_ | assumption))⟩, ?_⟩ (fun aaa haa => by repeat (first | rfl | refine hs_ne (by omega) ?_))) ((And.intro rfl (And.intro rfl (And.intro rfl (And.intro rfl (And.intro rfl (And.intro rfl (And.intro rfl trivial))))))))
                               rw [hz]
                               exact ((((hLR.n (j := 6) (q := 15) (by decide) (by omega)).dropm (by rw [iu_ne (by decide)]; omega) (by rw [iu_ne (by decide)]; omega) (by rw [iu_ne (by decide)])).d (by omega) rfl).d (by omega) rfl).n (by decide) (by omega)))
                      · try (exfalso; omega)
                        all_goals (
                          refine k_aload_n C dL_minute_491 rfl ?_
                          refine k_bipush C dL_minute_492 (by decide +kernel) ?_
                          refine k_iaload C dL_minute_494 (by repeat (first | exact hs_eq _ _ _ | refine hs_ne (by omega) ?_ | assumption)) (by omega) (by omega) (by omega) ?_
                          try simp (disch := omega) only [hs_hs, iu_ne, iu_eq]
                          refine k_iconst C dL_minute_495 ?_
                          refine k_icmp_ne (tgt := 516) C dL_minute_496 (by decide) ⟨by omega, by omega⟩ ⟨by omega, by omega⟩ (fun c496 => ?_) (fun c496 => ?_)
                          · try (exfalso; omega)
                            all_goals (
                              refine k_aload C dL_minute_516 rfl ?_
                              refine k_iconst C dL_minute_518 ?_
                              refine k_aload_n C dL_minute_519 rfl ?_
                              refine k_bipush C dL_minute_520 (by decide +kernel) ?_
                              refine k_iaload C dL_minute_522 (by repeat (first | exact hs_eq _ _ _ | refine hs_ne (by omega) ?_ | assumption)) (by omega) (by omega) (by omega) ?_
                              try simp (disch := omega) only [hs_hs, iu_ne, iu_eq]
                              refine k_imul C dL_minute_523 ?_
                              refine k_aload_n C dL_minute_524 rfl ?_
                              refine k_iconst C dL_minute_525 ?_
                              refine k_iaload C dL_minute_526 (by repeat (first | exact hs_eq _ _ _ | refine hs_ne (by omega) ?_ | assumption)) (by omega) (by omega) (by omega) ?_
                              try simp (disch := omega) only [hs_hs, iu_ne, iu_eq]
                              refine k_callS C (n := 1) (as := [_]) (ct_L_hour l D tc base _ _ (by omega) (by omega)) ml_L_8 sm_L_hour ini_L co_L_hour ⟨by decide, by decide, by decide +kernel⟩ rfl ⟨by decide, by decide⟩ rfl (Nat.le_of_ble_eq_true rfl) ⟨Nat.zero_le _, Nat.zero_le _⟩ dL_minute_527 ?_
                              rintro _ _ ⟨rfl, rfl⟩
                              rw [e1]
                              refine k_iastore C dL_minute_530 (by repeat (first | exact hs_eq _ _ _ | refine hs_ne (by omega) ?_ | assumption)) (by omega) (by omega) (by omega) ?_
                              refine k_aload C dL_minute_531 rfl ?_
                              refine k_iconst C dL_minute_533 ?_
                              refine k_aload_n C dL_minute_534 rfl ?_
                              refine k_bipush C dL_minute_535 (by decide +kernel) ?_
                              refine k_iaload C dL_minute_537 (by repeat (first | exact hs_eq _ _ _ | refine hs_ne (by omega) ?_ | assumption)) (by omega) (by omega) (by omega) ?_
                              try simp (disch := omega) only [hs_hs, iu_ne, iu_eq]
                              refine k_imul C dL_minute_538 ?_
                              refine k_iconst C dL_minute_539 ?_
                              refine k_iadd C dL_minute_540 ?_
                              refine k_aload_n C dL_minute_541 rfl ?_
                              refine k_iconst C dL_minute_542 ?_
                              refine k_iaload C dL_minute_543 (by repeat (first | exact hs_eq _ _ _ | refine hs_ne (by omega) ?_ | assumption)) (by omega) (by omega) (by omega) ?_
                              try simp (disch := omega) only [hs_hs, iu_ne, iu_eq]
                              refine k_callS C (n := 1) (as := [_]) (ct_L_hour l D tc base _ _ (by omega) (by omega)) ml_L_8 sm_L_hour ini_L co_L_hour ⟨by decide, by decide, by decide +kernel⟩ rfl ⟨by decide, by decide⟩ rfl (Nat.le_of_ble_eq_true rfl) ⟨Nat.zero_le _, Nat.zero_le _⟩ dL_minute_544 ?_
                              rintro _ _ ⟨rfl, rfl⟩
                              rw [e1]
                              refine k_iastore C dL_minute_547 (by repeat (first | exact hs_eq _ _ _ | refine hs_ne (by omega) ?_ | assumption)) (by omega) (by omega) (by omega) ?_
                              refine k_aload_n C dL_minute_548 rfl ?_
                              refine k_bipush C dL_minute_549 (by decide +kernel) ?_
                              refine k_dup2 C dL_minute_551 rfl rfl ?_
                              refine k_iaload C dL_minute_552 (by repeat (first | exact hs_eq _ _ _ | refine hs_ne (by omega) ?_ | assumption)) (by omega) (by omega) (by omega) ?_
                              try simp (disch := omega) only [hs_hs, iu_ne, iu_eq]
                              refine k_iconst C dL_minute_553 ?_
                              refine k_iadd C dL_minute_554 ?_
                              refine k_iastore C dL_minute_555 (by repeat (first | exact hs_eq _ _ _ | refine hs_ne (by omega) ?_ | assumption)) (by omega) (by omega) (by omega) ?_
                              first
                                | (have hc : ov = 0 := by omega
                                   have hz : (if ov = 0 then zrr else zFive zrr) = zrr := by
                                     exact if_pos hc
                                   refine k_sub (kend _ ⟨_, _, _, _, _, ⟨(by repeat (first | exact hs_eq _ _ _ | refine hs_ne (by omega) ?_ | assumption)), (by repeat (first | exact hs_eq _ _ _ | refine hs_ne (by omega) ?_ | assumption)), (by repeat (first | exact hs_eq _ _ _ | refine hs_ne (by omega) ?_ | assumption)), (by repeat (first | exact hs_eq _ _ _ | refine hs_ne (by omega) ?_ | assumption)), (by repeat (first | exact hs_eq _ _ _ | refine hs_ne (by omega) ?_ | assumption))⟩, ?_⟩ (fun aaa haa => by repeat (first | rfl | refine hs_ne (by omega) ?_))) ((And.intro rfl (And.intro rfl (And.intro rfl (And.intro rfl (And.intro rfl (And.intro rfl (And.intro rfl trivial))))))))
                                   rw [hz]
                                   exact hLR)
                                | (have hc : ¬ ov = 0 ∧ ¬ zrr 10 % 60 = 0 := ⟨by omega, by omega⟩
                                   have hz : (if ov = 0 then zrr else zFive zrr) = zrr := by
                                     rw [if_neg hc.1, zFive, if_pos hc.2]
                                   refine k_sub (kend _ ⟨_, _, _, _, _, ⟨(by repeat (first | exact hs_eq _ _ _ | refine hs_ne (by omega) ?_ | assumption)), (by repeat (first | exact hs_eq _ _ _ | refine hs_ne (by omega) ?_ | assumption)), (by repeat (first | exact hs_eq _ _ _ | refine hs_ne (by omega) ?_ | assumption)), (by repeat (first | exact hs_eq _ _ _ | refine hs_ne (by omega) ?_ | assumption)), (by repeat (first | exact hs_eq _ _ _ | refine hs_ne (by omega) ?_ | assumption))⟩, ?_⟩ (fun aaa haa => by repeat (first | rfl | refine hs_ne (by omega) ?_))) ((And.intro rfl (And.intro rfl (And.intro rfl (And.intro rfl (And.intro rfl (And.intro rfl (And.intro rfl trivial))))))))
                                   rw [hz]
                                   exact hLR)
                                | (have hc : ¬ ov = 0 ∧ zrr 10 % 60 = 0 ∧ zSil zrr := ⟨by omega, by omega, hs1 (by omega)⟩
                                   have hz : (if ov = 0 then zrr else zFive zrr) = iu zrr 15 (zrr 15 + (zHour (zrr 10))) := by
                                     rw [if_neg hc.1, zFive, if_neg (fun q => q hc.2.1), if_pos hc.2.2]
                                   refine k_sub (kend _ ⟨_, _, _, _, _, ⟨(by repeat (first | exact hs_eq _ _ _ | refine hs_ne (by omega) ?_ | assumption)), (by repeat (first | exact hs_eq _ _ _ | refine hs_ne (by omega) ?_ | assumption)), (by repeat (first | exact hs_eq _ _ _ | refine hs_ne (by omega) ?_ | assumption)), (by repeat (first | exact hs_eq _ _ _ | refine hs_ne (by omega) ?_ | assumption)), (by repeat (first | exact hs_eq _ _ _ | refine hs_ne (by omega) ?_ | assumption))⟩, ?_⟩ (fun aaa haa => by repeat (first | rfl | refine hs_ne (by omega) ?_))) ((And.intro rfl (And.intro rfl (And.intro rfl (And.intro rfl (And.intro rfl (And.intro rfl (And.intro rfl trivial))))))))
                                   rw [hz]
                                   exact hLR.n (by decide) (by first | omega | (simp (disch := decide) only [iu_ne, iu_eq]; omega)))
                                | (have hc : ¬ ov = 0 ∧ zrr 10 % 60 = 0 ∧ ¬ zSil zrr ∧ ¬ zrr 52 = 4 := ⟨by omega, by omega, hs0 (by omega), by omega⟩
                                   have hz : (if ov = 0 then zrr else zFive zrr) = iu (iu (iu zrr (53 + 2 * zrr 52) (zHour (zrr 10))) (53 + 2 * zrr 52 + 1) (zHour (zrr 10))) 52 (zrr 52 + 1) := by
                                     rw [if_neg hc.1, zFive, if_neg (fun q => q hc.2.1), if_neg hc.2.2.1, zMk, if_neg hc.2.2.2]
                                   refine k_sub (kend _ ⟨_, _, _, _, _, ⟨(by repeat (first | exact hs_eq _ _ _ | refine hs_ne (by omega) ?_ | assumption)), (by repeat (first | exact hs_eq _ _ _ | refine hs_ne (by omega) ?_ | assumption)), (by repeat (first | exact hs_eq _ _ _ | refine hs_ne (by omega) ?_ | assumption)), (by repeat (first | exact hs_eq _ _ _ | refine hs_ne (by omega) ?_ | assumption)), (by repeat (first | exact hs_eq _ _ _ | refine hs_ne (by omega) ?_ | assumption))⟩, ?_⟩ (fun aaa haa => by repeat (first | rfl | refine hs_ne (by omega) ?_))) ((And.intro rfl (And.intro rfl (And.intro rfl (And.intro rfl (And.intro rfl (And.intro rfl (And.intro rfl trivial))))))))
                                   rw [hz]
                                   exact ((hLR.d (by omega) rfl).d (by omega) rfl).n (by decide) (by omega))
                                | (have hc : ¬ ov = 0 ∧ zrr 10 % 60 = 0 ∧ ¬ zSil zrr ∧ zrr 52 = 4 := ⟨by omega, by omega, hs0 (by omega), by omega⟩
                                   have y52 : (zDrop (iu zrr 15 (zrr 15 + zrr 54))) 52 = zrr 52 - 1 := by rw [zDrop_52, iu_ne (by decide)]
                                   have hz : (if ov = 0 then zrr else zFive zrr) = iu (iu (iu (zDrop (iu zrr 15 (zrr 15 + zrr 54))) (53 + 2 * (zDrop (iu zrr 15 (zrr 15 + zrr 54))) 52) (zHour (zrr 10))) (53 + 2 * (zDrop (iu zrr 15 (zrr 15 + zrr 54))) 52 + 1) (zHour (zrr 10))) 52 ((zDrop (iu zrr 15 (zrr 15 + zrr 54))) 52 + 1) := by
                                     rw [if_neg hc.1, zFive, if_neg (fun q => q hc.2.1), if_neg hc.2.2.1, zMk, if_pos hc.2.2.2]
                                   refine k_sub (kend _ ⟨_, _, _, _, _, ⟨(by repeat (first | exact hs_eq _ _ _ | refine hs_ne (by omega) ?_ | assumption)), (by repeat (first | exact hs_eq _ _ _ | refine hs_ne (by omega) ?_ | assumption)), (by repeat (first | exact hs_eq _ _ _ | refine hs_ne (by omega) ?_ | assumption)), (by repeat (first | exact hs_eq _ _ _ | refine hs_ne (by omega) ?_ | assumption)), (by repeat (first | exact hs_eq _ _ _ | refine hs_ne (by omega) ?_ | assumption))⟩, ?_⟩ (fun aaa haa => by repeat (first | rfl | refine hs_ne (by omega) ?_))) ((And.intro rfl (And.intro rfl (And.intro rfl (And.intro rfl (And.intro rfl (And.intro rfl (And.intro rfl trivial))))))))
                                   rw [hz]
                                   exact ((((hLR.n (j := 6) (q := 15) (by decide) (by omega)).dropm (by rw [iu_ne (by decide)]; omega) (by rw [iu_ne (by decide)]; omega) (by rw [iu_ne (by decide)])).d (by omega) rfl).d (by omega) rfl).n (by decide) (by omega)))
                          · try (exfalso; omega)
                            all_goals (
                              refine k_aload_n C dL_minute_499 rfl ?_
                              refine k_bipush C dL_minute_500 (by decide +kernel) ?_
                              refine k_dup2 C dL_minute_502 rfl rfl ?_
                              refine k_iaload C dL_minute_503 (by repeat (first | exact hs_eq _ _ _ | refine hs_ne (by omega) ?_ | assumption)) (by omega) (by omega) (by omega) ?_
                              try simp (disch := omega) only [hs_hs, iu_ne, iu_eq]
                              refine k_aload C dL_minute_504 rfl ?_
                              refine k_iconst C dL_minute_506 ?_
                              refine k_iaload C dL_minute_507 (by repeat (first | exact hs_eq _ _ _ | refine hs_ne (by omega) ?_ | assumption)) (by omega) (by omega) (by omega) ?_
                              try simp (disch := omega) only [hs_hs, iu_ne, iu_eq]
                              refine k_iadd C dL_minute_508 ?_
                              refine k_iastore C dL_minute_509 (by repeat (first | exact hs_eq _ _ _ | refine hs_ne (by omega) ?_ | assumption)) (by omega) (by omega) (by omega) ?_
                              refine k_aload_n C dL_minute_510 rfl ?_
                              refine k_aload C dL_minute_511 rfl ?_
                              refine k_callS C (n := 2) (as := [_, _]) (ct_L_drop l D tc base an _ de _ (by repeat (first | exact hs_eq _ _ _ | refine hs_ne (by omega) ?_ | assumption)) (by repeat (first | exact hs_eq _ _ _ | refine hs_ne (by omega) ?_ | assumption)) (by simp (disch := decide) only [iu_ne]; omega)) ml_L_22 sm_L_drop ini_L co_L_drop ⟨by decide, by decide, by decide +kernel⟩ rfl ⟨by decide, by decide⟩ rfl (Nat.le_of_ble_eq_true rfl) ⟨Nat.zero_le _, Nat.zero_le _⟩ dL_minute_513 ?_
                              rintro _ _ ⟨rfl, rfl⟩
                              simp (disch := decide) only [iu_ne]
                              refine k_aload C dL_minute_516 rfl ?_
                              refine k_iconst C dL_minute_518 ?_
                              refine k_aload_n C dL_minute_519 rfl ?_
                              refine k_bipush C dL_minute_520 (by decide +kernel) ?_
                              refine k_iaload C dL_minute_522 (by repeat (first | exact hs_eq _ _ _ | refine hs_ne (by omega) ?_ | assumption)) (by omega) (by omega) (by omega) ?_
                              try simp (disch := omega) only [hs_hs, iu_ne, iu_eq]
                              refine k_imul C dL_minute_523 ?_
                              refine k_aload_n C dL_minute_524 rfl ?_
                              refine k_iconst C dL_minute_525 ?_
                              refine k_iaload C dL_minute_526 (by repeat (first | exact hs_eq _ _ _ | refine hs_ne (by omega) ?_ | assumption)) (by omega) (by omega) (by omega) ?_
                              try simp (disch := omega) only [hs_hs, iu_ne, iu_eq]
                              refine k_callS C (n := 1) (as := [_]) (ct_L_hour l D tc base _ _ (by omega) (by omega)) ml_L_8 sm_L_hour ini_L co_L_hour ⟨by decide, by decide, by decide +kernel⟩ rfl ⟨by decide, by decide⟩ rfl (Nat.le_of_ble_eq_true rfl) ⟨Nat.zero_le _, Nat.zero_le _⟩ dL_minute_527 ?_
                              rintro _ _ ⟨rfl, rfl⟩
                              rw [e1]
                              refine k_iastore C dL_minute_530 (by repeat (first | exact hs_eq _ _ _ | refine hs_ne (by omega) ?_ | assumption)) (by omega) (by omega) (by omega) ?_
                              refine k_aload C dL_minute_531 rfl ?_
                              refine k_iconst C dL_minute_533 ?_
                              refine k_aload_n C dL_minute_534 rfl ?_
                              refine k_bipush C dL_minute_535 (by decide +kernel) ?_
                              refine k_iaload C dL_minute_537 (by repeat (first | exact hs_eq _ _ _ | refine hs_ne (by omega) ?_ | assumption)) (by omega) (by omega) (by omega) ?_
                              try simp (disch := omega) only [hs_hs, iu_ne, iu_eq]
                              refine k_imul C dL_minute_538 ?_
                              refine k_iconst C dL_minute_539 ?_
                              refine k_iadd C dL_minute_540 ?_
                              refine k_aload_n C dL_minute_541 rfl ?_
                              refine k_iconst C dL_minute_542 ?_
                              refine k_iaload C dL_minute_543 (by repeat (first | exact hs_eq _ _ _ | refine hs_ne (by omega) ?_ | assumption)) (by omega) (by omega) (by omega) ?_
                              try simp (disch := omega) only [hs_hs, iu_ne, iu_eq]
                              refine k_callS C (n := 1) (as := [_]) (ct_L_hour l D tc base _ _ (by omega) (by omega)) ml_L_8 sm_L_hour ini_L co_L_hour ⟨by decide, by decide, by decide +kernel⟩ rfl ⟨by decide, by decide⟩ rfl (Nat.le_of_ble_eq_true rfl) ⟨Nat.zero_le _, Nat.zero_le _⟩ dL_minute_544 ?_
                              rintro _ _ ⟨rfl, rfl⟩
                              rw [e1]
                              refine k_iastore C dL_minute_547 (by repeat (first | exact hs_eq _ _ _ | refine hs_ne (by omega) ?_ | assumption)) (by omega) (by omega) (by omega) ?_
                              refine k_aload_n C dL_minute_548 rfl ?_
                              refine k_bipush C dL_minute_549 (by decide +kernel) ?_
                              refine k_dup2 C dL_minute_551 rfl rfl ?_
                              refine k_iaload C dL_minute_552 (by repeat (first | exact hs_eq _ _ _ | refine hs_ne (by omega) ?_ | assumption)) (by omega) (by omega) (by omega) ?_
                              try simp (disch := omega) only [hs_hs, iu_ne, iu_eq]
                              refine k_iconst C dL_minute_553 ?_
                              refine k_iadd C dL_minute_554 ?_
                              refine k_iastore C dL_minute_555 (by repeat (first | exact hs_eq _ _ _ | refine hs_ne (by omega) ?_ | assumption)) (by omega) (by omega) (by omega) ?_
                              first
                                | (have hc : ov = 0 := by omega
                                   have hz : (if ov = 0 then zrr else zFive zrr) = zrr := by
                                     exact if_pos hc
                                   refine k_sub (kend _ ⟨_, _, _, _, _, ⟨(by repeat (first | exact hs_eq _ _ _ | refine hs_ne (by omega) ?_ | assumption)), (by repeat (first | exact hs_eq _ _ _ | refine hs_ne (by omega) ?_ | assumption)), (by repeat (first | exact hs_eq _ _ _ | refine hs_ne (by omega) ?_ | assumption)), (by repeat (first | exact hs_eq _ _ _ | refine hs_ne (by omega) ?_ | assumption)), (by repeat (first | exact hs_eq _ _ _ | refine hs_ne (by omega) ?_ | assumption))⟩, ?_⟩ (fun aaa haa => by repeat (first | rfl | refine hs_ne (by omega) ?_))) ((And.intro rfl (And.intro rfl (And.intro rfl (And.intro rfl (And.intro rfl (And.intro rfl (And.intro rfl trivial))))))))
                                   rw [hz]
                                   exact hLR)
                                | (have hc : ¬ ov = 0 ∧ ¬ zrr 10 % 60 = 0 := ⟨by omega, by omega⟩
                                   have hz : (if ov = 0 then zrr else zFive zrr) = zrr := by
                                     rw [if_neg hc.1, zFive, if_pos hc.2]
                                   refine k_sub (kend _ ⟨_, _, _, _, _, ⟨(by repeat (first | exact hs_eq _ _ _ | refine hs_ne (by omega) ?_ | assumption)), (by repeat (first | exact hs_eq _ _ _ | refine hs_ne (by omega) ?_ | assumption)), (by repeat (first | exact hs_eq _ _ _ | refine hs_ne (by omega) ?_ | assumption)), (by repeat (first | exact hs_eq _ _ _ | refine hs_ne (by omega) ?_ | assumption)), (by repeat (first | exact hs_eq _ _ _ | refine hs_ne (by omega) ?_ | assumption))⟩, ?_⟩ (fun aaa haa => by repeat (first | rfl | refine hs_ne (by omega) ?_))) ((And.intro rfl (And.intro rfl (And.intro rfl (And.intro rfl (And.intro rfl (And.intro rfl (And.intro rfl trivial))))))))
                                   rw [hz]
                                   exact hLR)
                                | (have hc : ¬ ov = 0 ∧ zrr 10 % 60 = 0 ∧ zSil zrr := ⟨by omega, by omega, hs1 (by omega)⟩
                                   have hz : (if ov = 0 then zrr else zFive zrr) = iu zrr 15 (zrr 15 + (zHour (zrr 10))) := by
                                     rw [if_neg hc.1, zFive, if_neg (fun q => q hc.2.1), if_pos hc.2.2]
                                   refine k_sub (kend _ ⟨_, _, _, _, _, ⟨(by repeat (first | exact hs_eq _ _ _ | refine hs_ne (by omega) ?_ | assumption)), (by repeat (first | exact hs_eq _ _ _ | refine hs_ne (by omega) ?_ | assumption)), (by repeat (first | exact hs_eq _ _ _ | refine hs_ne (by omega) ?_ | assumption)), (by repeat (first | exact hs_eq _ _ _ | refine hs_ne (by omega) ?_ | assumption)), (by repeat (first | exact hs_eq _ _ _ | refine hs_ne (by omega) ?_ | assumption))⟩, ?_⟩ (fun aaa haa => by repeat (first | rfl | refine hs_ne (by omega) ?_))) ((And.intro rfl (And.intro rfl (And.intro rfl (And.intro rfl (And.intro rfl (And.intro rfl (And.intro rfl trivial))))))))
                                   rw [hz]
                                   exact hLR.n (by decide) (by first | omega | (simp (disch := decide) only [iu_ne, iu_eq]; omega)))
                                | (have hc : ¬ ov = 0 ∧ zrr 10 % 60 = 0 ∧ ¬ zSil zrr ∧ ¬ zrr 52 = 4 := ⟨by omega, by omega, hs0 (by omega), by omega⟩
                                   have hz : (if ov = 0 then zrr else zFive zrr) = iu (iu (iu zrr (53 + 2 * zrr 52) (zHour (zrr 10))) (53 + 2 * zrr 52 + 1) (zHour (zrr 10))) 52 (zrr 52 + 1) := by
                                     rw [if_neg hc.1, zFive, if_neg (fun q => q hc.2.1), if_neg hc.2.2.1, zMk, if_neg hc.2.2.2]
                                   refine k_sub (kend _ ⟨_, _, _, _, _, ⟨(by repeat (first | exact hs_eq _ _ _ | refine hs_ne (by omega) ?_ | assumption)), (by repeat (first | exact hs_eq _ _ _ | refine hs_ne (by omega) ?_ | assumption)), (by repeat (first | exact hs_eq _ _ _ | refine hs_ne (by omega) ?_ | assumption)), (by repeat (first | exact hs_eq _ _ _ | refine hs_ne (by omega) ?_ | assumption)), (by repeat (first | exact hs_eq _ _ _ | refine hs_ne (by omega) ?_ | assumption))⟩, ?_⟩ (fun aaa haa => by repeat (first | rfl | refine hs_ne (by omega) ?_))) ((And.intro rfl (And.intro rfl (And.intro rfl (And.intro rfl (And.intro rfl (And.intro rfl (And.intro rfl trivial))))))))
                                   rw [hz]
                                   exact ((hLR.d (by omega) rfl).d (by omega) rfl).n (by decide) (by omega))
                                | (have hc : ¬ ov = 0 ∧ zrr 10 % 60 = 0 ∧ ¬ zSil zrr ∧ zrr 52 = 4 := ⟨by omega, by omega, hs0 (by omega), by omega⟩
                                   have y52 : (zDrop (iu zrr 15 (zrr 15 + zrr 54))) 52 = zrr 52 - 1 := by rw [zDrop_52, iu_ne (by decide)]
                                   have hz : (if ov = 0 then zrr else zFive zrr) = iu (iu (iu (zDrop (iu zrr 15 (zrr 15 + zrr 54))) (53 + 2 * (zDrop (iu zrr 15 (zrr 15 + zrr 54))) 52) (zHour (zrr 10))) (53 + 2 * (zDrop (iu zrr 15 (zrr 15 + zrr 54))) 52 + 1) (zHour (zrr 10))) 52 ((zDrop (iu zrr 15 (zrr 15 + zrr 54))) 52 + 1) := by
                                     rw [if_neg hc.1, zFive, if_neg (fun q => q hc.2.1), if_neg hc.2.2.1, zMk, if_pos hc.2.2.2]
                                   refine k_sub (kend _ ⟨_, _, _, _, _, ⟨(by repeat (first | exact hs_eq _ _ _ | refine hs_ne (by omega) ?_ | assumption)), (by repeat (first | exact hs_eq _ _ _ | refine hs_ne (by omega) ?_ | assumption)), (by repeat (first | exact hs_eq _ _ _ | refine hs_ne (by omega) ?_ | assumption)), (by repeat (first | exact hs_eq _ _ _ | refine hs_ne (by omega) ?_ | assumption)), (by repeat (first | exact hs_eq _ _ _ | refine hs_ne (by omega) ?_ | assumption))⟩, ?_⟩ (fun aaa haa => by repeat (first | rfl | refine hs_ne (by omega) ?_))) ((And.intro rfl (And.intro rfl (And.intro rfl (And.intro rfl (And.intro rfl (And.intro rfl (And.intro rfl trivial))))))))
                                   rw [hz]
                                   exact ((((hLR.n (j := 6) (q := 15) (by decide) (by omega)).dropm (by rw [iu_ne (by decide)]; omega) (by rw [iu_ne (by decide)]; omega) (by rw [iu_ne (by decide)])).d (by omega) rfl).d (by omega) rfl).n (by decide) (by omega)))))))))

set_option maxRecDepth 20000 in
set_option maxHeartbeats 1000000 in
theorem sg_six {D : va_G} {tc : Nat → ClassId} {base : Nat} {p : Program} {l : Launch} {e : Env} {s : State} {m : MethodId} {args : Array Value} {below : List Frame} {meth : Method} {c : Code} {Q : State → Prop} (C : Cx D tc base RL cL_minute 10 p s m args meth c) (an : Nat) (zrr : RZ) (kc : Int) (hpp : AH) (hA : LA hpp an zrr kc) (hi : zInv zrr) (hm : zrr 13 ≤ 100000) (ha : zrr 18 + zrr 19 ≤ zrr 13 + 1) (sv : Int) (hs1 : ¬ sv = 0 → zSil zrr) (hs0 : sv = 0 → ¬ zSil zrr) (hsv : sv = 0 ∨ sv = 1) (kend : ∀ (hx : AH), LA hx an (zSix zrr) kc → Fr hpp hx an 5 → Wk D tc base 10 p l e (lvR 2) s m args below meth c 0 0 Q 640 [some (aR an), some (aR (an + 1)), some (aR (an + 2)), some (aR (an + 3)), some (aR (an + 4)), none, none, none, none, none] [] hx) : Wk D tc base 10 p l e (lvR 2) s m args below meth c 0 0 Q 556 [some (aR an), some (aR (an + 1)), some (aR (an + 2)), some (aR (an + 3)), some (aR (an + 4)), none, none, some (aI sv), none, none] [] hpp := by
  obtain ⟨nu, hh, se, wi, de, ⟨y0, y1, y2, y3, y4⟩, hLR⟩ := id hA
  obtain ⟨⟨e0, e1, e2, e3, e4, e5, e6, e7, e8, e9, e10, e11, e12, e13, e14⟩, eh, es, ew, ed⟩ := id hLR
  obtain ⟨⟨g0, g1, g2, g9, g10, g11, g12, g13, g21, g52, g61, g62, g63, g64, g65, g66⟩, hwi, hde⟩ := id hi
  have h1 : hh 1 = zrr 1 := eh 1 (by omega) (by omega)
  have h4 : hh 4 = zrr 4 := eh 4 (by omega) (by omega)
  have s3 : se 3 = zrr 64 := es 3 (by omega) (by omega)
  have d1 : de 1 = zrr 54 := ed 1 (by omega) (by omega)
  refine k_aload_n C dL_minute_556 rfl ?_
  refine k_bipush C dL_minute_557 (by decide +kernel) ?_
  refine k_iaload C dL_minute_559 (by repeat (first | exact hs_eq _ _ _ | refine hs_ne (by omega) ?_ | assumption)) (by omega) (by omega) (by omega) ?_
  refine k_if_le (tgt := 640) C dL_minute_560 (by decide) ⟨by omega, by omega⟩ (fun c560 => ?_) (fun c560 => ?_)
  · try (exfalso; omega)
    all_goals (
      first
        | (have hc : zrr 52 = 0 := by omega
           have hz : zSix zrr = zrr := if_pos (Or.inl hc)
           exact k_sub (kend _ (by rw [hz]; exact hA) (fun aaa haa => by repeat (first | rfl | refine hs_ne (by omega) ?_))) ((And.intro rfl (And.intro rfl (And.intro rfl (And.intro rfl (And.intro rfl trivial)))))))
        | (have hc : zSil zrr := hs1 (by omega)
           have hz : zSix zrr = zrr := if_pos (Or.inr hc)
           exact k_sub (kend _ (by rw [hz]; exact hA) (fun aaa haa => by repeat (first | rfl | refine hs_ne (by omega) ?_))) ((And.intro rfl (And.intro rfl (And.intro rfl (And.intro rfl (And.intro rfl trivial)))))))
        | (have hs : ¬ (zrr 52 = 0 ∨ zSil zrr) := fun q => q.elim (by omega) (hs0 (by omega))
           have ek : zStk zrr = kk := by
             have a1 := mnI_le (zrr 54) (zrr 1)
             have a2 := mnI_le (zrr 64) (mnI (zrr 54) (zrr 1))
             unfold zStk
             omega
           have hc : ¬ zrr 54 - kk = 0 := by omega
           have hz : zSix zrr = iu (iu (iu (iu zrr 1 (zrr 1 - kk)) 4 (zrr 4 + kk)) 54 (zrr 54 - kk)) 14 (zrr 14 + kk) := by
             rw [zSix, if_neg hs, ek, if_neg hc]
             rfl
           refine k_sub (kend _ ⟨_, _, _, _, _, ⟨(by repeat (first | exact hs_eq _ _ _ | refine hs_ne (by omega) ?_ | assumption)), (by repeat (first | exact hs_eq _ _ _ | refine hs_ne (by omega) ?_ | assumption)), (by repeat (first | exact hs_eq _ _ _ | refine hs_ne (by omega) ?_ | assumption)), (by repeat (first | exact hs_eq _ _ _ | refine hs_ne (by omega) ?_ | assumption)), (by repeat (first | exact hs_eq _ _ _ | refine hs_ne (by omega) ?_ | assumption))⟩, ?_⟩ (fun aaa haa => by repeat (first | rfl | refine hs_ne (by omega) ?_))) ((And.intro rfl (And.intro rfl (And.intro rfl (And.intro rfl (And.intro rfl trivial))))))
           rw [hz]
           exact (((hLR.h (by decide) (by omega)).h (by decide) (by omega)).d (j := 1) (by decide) (by omega)).n (j := 5) (by decide) (by omega))
        | (have hs : ¬ (zrr 52 = 0 ∨ zSil zrr) := fun q => q.elim (by omega) (hs0 (by omega))
           have ek : zStk zrr = kk := by
             have a1 := mnI_le (zrr 54) (zrr 1)
             have a2 := mnI_le (zrr 64) (mnI (zrr 54) (zrr 1))
             unfold zStk
             omega
           have hc : zrr 54 - kk = 0 := by omega
           have hz : zSix zrr = zDrop (iu (iu (iu (iu zrr 1 (zrr 1 - kk)) 4 (zrr 4 + kk)) 54 (zrr 54 - kk)) 14 (zrr 14 + kk)) := by
             rw [zSix, if_neg hs, ek, if_pos hc]
             rfl
           refine k_sub (kend _ ⟨_, _, _, _, _, ⟨(by repeat (first | exact hs_eq _ _ _ | refine hs_ne (by omega) ?_ | assumption)), (by repeat (first | exact hs_eq _ _ _ | refine hs_ne (by omega) ?_ | assumption)), (by repeat (first | exact hs_eq _ _ _ | refine hs_ne (by omega) ?_ | assumption)), (by repeat (first | exact hs_eq _ _ _ | refine hs_ne (by omega) ?_ | assumption)), (by repeat (first | exact hs_eq _ _ _ | refine hs_ne (by omega) ?_ | assumption))⟩, ?_⟩ (fun aaa haa => by repeat (first | rfl | refine hs_ne (by omega) ?_))) ((And.intro rfl (And.intro rfl (And.intro rfl (And.intro rfl (And.intro rfl trivial))))))
           rw [hz]
           exact ((((hLR.h (by decide) (by omega)).h (by decide) (by omega)).d (j := 1) (by decide) (by omega)).n (j := 5) (by decide) (by omega)).dropm (by simp (disch := decide) only [iu_ne]; omega) (by simp (disch := decide) only [iu_ne]; omega) (by simp (disch := decide) only [iu_ne])))
  · try (exfalso; omega)
    all_goals (
      refine k_iload C dL_minute_563 rfl ?_
      refine k_if_ne (tgt := 640) C dL_minute_565 (by decide) ⟨by omega, by omega⟩ (fun c565 => ?_) (fun c565 => ?_)
      · try (exfalso; omega)
        all_goals (
          first
            | (have hc : zrr 52 = 0 := by omega
               have hz : zSix zrr = zrr := if_pos (Or.inl hc)
               exact k_sub (kend _ (by rw [hz]; exact hA) (fun aaa haa => by repeat (first | rfl | refine hs_ne (by omega) ?_))) ((And.intro rfl (And.intro rfl (And.intro rfl (And.intro rfl (And.intro rfl trivial)))))))
            | (have hc : zSil zrr := hs1 (by omega)
               have hz : zSix zrr = zrr := if_pos (Or.inr hc)
               exact k_sub (kend _ (by rw [hz]; exact hA) (fun aaa haa => by repeat (first | rfl | refine hs_ne (by omega) ?_))) ((And.intro rfl (And.intro rfl (And.intro rfl (And.intro rfl (And.intro rfl trivial)))))))
            | (have hs : ¬ (zrr 52 = 0 ∨ zSil zrr) := fun q => q.elim (by omega) (hs0 (by omega))
               have ek : zStk zrr = kk := by
                 have a1 := mnI_le (zrr 54) (zrr 1)
                 have a2 := mnI_le (zrr 64) (mnI (zrr 54) (zrr 1))
                 unfold zStk
                 omega
               have hc : ¬ zrr 54 - kk = 0 := by omega
               have hz : zSix zrr = iu (iu (iu (iu zrr 1 (zrr 1 - kk)) 4 (zrr 4 + kk)) 54 (zrr 54 - kk)) 14 (zrr 14 + kk) := by
                 rw [zSix, if_neg hs, ek, if_neg hc]
                 rfl
               refine k_sub (kend _ ⟨_, _, _, _, _, ⟨(by repeat (first | exact hs_eq _ _ _ | refine hs_ne (by omega) ?_ | assumption)), (by repeat (first | exact hs_eq _ _ _ | refine hs_ne (by omega) ?_ | assumption)), (by repeat (first | exact hs_eq _ _ _ | refine hs_ne (by omega) ?_ | assumption)), (by repeat (first | exact hs_eq _ _ _ | refine hs_ne (by omega) ?_ | assumption)), (by repeat (first | exact hs_eq _ _ _ | refine hs_ne (by omega) ?_ | assumption))⟩, ?_⟩ (fun aaa haa => by repeat (first | rfl | refine hs_ne (by omega) ?_))) ((And.intro rfl (And.intro rfl (And.intro rfl (And.intro rfl (And.intro rfl trivial))))))
               rw [hz]
               exact (((hLR.h (by decide) (by omega)).h (by decide) (by omega)).d (j := 1) (by decide) (by omega)).n (j := 5) (by decide) (by omega))
            | (have hs : ¬ (zrr 52 = 0 ∨ zSil zrr) := fun q => q.elim (by omega) (hs0 (by omega))
               have ek : zStk zrr = kk := by
                 have a1 := mnI_le (zrr 54) (zrr 1)
                 have a2 := mnI_le (zrr 64) (mnI (zrr 54) (zrr 1))
                 unfold zStk
                 omega
               have hc : zrr 54 - kk = 0 := by omega
               have hz : zSix zrr = zDrop (iu (iu (iu (iu zrr 1 (zrr 1 - kk)) 4 (zrr 4 + kk)) 54 (zrr 54 - kk)) 14 (zrr 14 + kk)) := by
                 rw [zSix, if_neg hs, ek, if_pos hc]
                 rfl
               refine k_sub (kend _ ⟨_, _, _, _, _, ⟨(by repeat (first | exact hs_eq _ _ _ | refine hs_ne (by omega) ?_ | assumption)), (by repeat (first | exact hs_eq _ _ _ | refine hs_ne (by omega) ?_ | assumption)), (by repeat (first | exact hs_eq _ _ _ | refine hs_ne (by omega) ?_ | assumption)), (by repeat (first | exact hs_eq _ _ _ | refine hs_ne (by omega) ?_ | assumption)), (by repeat (first | exact hs_eq _ _ _ | refine hs_ne (by omega) ?_ | assumption))⟩, ?_⟩ (fun aaa haa => by repeat (first | rfl | refine hs_ne (by omega) ?_))) ((And.intro rfl (And.intro rfl (And.intro rfl (And.intro rfl (And.intro rfl trivial))))))
               rw [hz]
               exact ((((hLR.h (by decide) (by omega)).h (by decide) (by omega)).d (j := 1) (by decide) (by omega)).n (j := 5) (by decide) (by omega)).dropm (by simp (disch := decide) only [iu_ne]; omega) (by simp (disch := decide) only [iu_ne]; omega) (by simp (disch := decide) only [iu_ne])))
      · try (exfalso; omega)
        all_goals (
          have hd0 := hde 0 (by omega) (by omega)
          rw [show (53 : Int) + 2 * 0 + 1 = 54 from rfl] at hd0
          refine k_iconst C dL_minute_568 ?_
          refine k_istore C dL_minute_569 (by decide) rfl ?_
          have loop571 : ∀ (n : Nat) (kk : Int), 0 ≤ kk → kk ≤ zrr 64 → kk ≤ zrr 54 → kk ≤ zrr 1 → zrr 64 - kk < (n : Int) → Wk D tc base 10 p l e (lvR 2) s m args below meth c 0 0 Q 571 [some (aR an), some (aR (an + 1)), some (aR (an + 2)), some (aR (an + 3)), some (aR (an + 4)), none, none, some (aI sv), none, some (aI kk)] [] (hs (hs (hs hpp (an + 4) (eA 0 10 (iu de 1 (de 1 - kk)))) (an + 1) (eA 0 9 (iu (iu hh 1 (hh 1 - kk)) 4 (hh 4 + kk)))) an (eA 0 15 (iu nu 5 (nu 5 + kk)))) := by
            intro n
            induction n with
            | zero =>
              intro kk k0 k1 k2 k3 hmu
              exfalso
              omega
            | succ n ih =>
              intro kk k0 k1 k2 k3 hmu
              refine k_iload C dL_minute_571 rfl ?_
              refine k_aload_n C dL_minute_573 rfl ?_
              refine k_iconst C dL_minute_574 ?_
              refine k_iaload C dL_minute_575 (by repeat (first | exact hs_eq _ _ _ | refine hs_ne (by omega) ?_ | assumption)) (by omega) (by omega) (by omega) ?_
              try simp (disch := omega) only [hs_hs, iu_ne, iu_eq]
              refine k_icmp_ge (tgt := 627) C dL_minute_576 (by decide) ⟨by omega, by omega⟩ ⟨by omega, by omega⟩ (fun c576 => ?_) (fun c576 => ?_)
              · try (exfalso; omega)
                all_goals (
                  refine k_aload C dL_minute_627 rfl ?_
                  refine k_iconst C dL_minute_629 ?_
                  refine k_iaload C dL_minute_630 (by repeat (first | exact hs_eq _ _ _ | refine hs_ne (by omega) ?_ | assumption)) (by omega) (by omega) (by omega) ?_
                  try simp (disch := omega) only [hs_hs, iu_ne, iu_eq]
                  refine k_if_ne (tgt := 640) C dL_minute_631 (by decide) ⟨by omega, by omega⟩ (fun c631 => ?_) (fun c631 => ?_)
                  · try (exfalso; omega)
                    all_goals (
                      first
                        | (have hc : zrr 52 = 0 := by omega
                           have hz : zSix zrr = zrr := if_pos (Or.inl hc)
                           exact k_sub (kend _ (by rw [hz]; exact hA) (fun aaa haa => by repeat (first | rfl | refine hs_ne (by omega) ?_))) ((And.intro rfl (And.intro rfl (And.intro rfl (And.intro rfl (And.intro rfl trivial)))))))
                        | (have hc : zSil zrr := hs1 (by omega)
                           have hz : zSix zrr = zrr := if_pos (Or.inr hc)
                           exact k_sub (kend _ (by rw [hz]; exact hA) (fun aaa haa => by repeat (first | rfl | refine hs_ne (by omega) ?_))) ((And.intro rfl (And.intro rfl (And.intro rfl (And.intro rfl (And.intro rfl trivial)))))))
                        | (have hs : ¬ (zrr 52 = 0 ∨ zSil zrr) := fun q => q.elim (by omega) (hs0 (by omega))
                           have ek : zStk zrr = kk := by
                             have a1 := mnI_le (zrr 54) (zrr 1)
                             have a2 := mnI_le (zrr 64) (mnI (zrr 54) (zrr 1))
                             unfold zStk
                             omega
                           have hc : ¬ zrr 54 - kk = 0 := by omega
                           have hz : zSix zrr = iu (iu (iu (iu zrr 1 (zrr 1 - kk)) 4 (zrr 4 + kk)) 54 (zrr 54 - kk)) 14 (zrr 14 + kk) := by
                             rw [zSix, if_neg hs, ek, if_neg hc]
                             rfl
                           refine k_sub (kend _ ⟨_, _, _, _, _, ⟨(by repeat (first | exact hs_eq _ _ _ | refine hs_ne (by omega) ?_ | assumption)), (by repeat (first | exact hs_eq _ _ _ | refine hs_ne (by omega) ?_ | assumption)), (by repeat (first | exact hs_eq _ _ _ | refine hs_ne (by omega) ?_ | assumption)), (by repeat (first | exact hs_eq _ _ _ | refine hs_ne (by omega) ?_ | assumption)), (by repeat (first | exact hs_eq _ _ _ | refine hs_ne (by omega) ?_ | assumption))⟩, ?_⟩ (fun aaa haa => by repeat (first | rfl | refine hs_ne (by omega) ?_))) ((And.intro rfl (And.intro rfl (And.intro rfl (And.intro rfl (And.intro rfl trivial))))))
                           rw [hz]
                           exact (((hLR.h (by decide) (by omega)).h (by decide) (by omega)).d (j := 1) (by decide) (by omega)).n (j := 5) (by decide) (by omega))
                        | (have hs : ¬ (zrr 52 = 0 ∨ zSil zrr) := fun q => q.elim (by omega) (hs0 (by omega))
                           have ek : zStk zrr = kk := by
                             have a1 := mnI_le (zrr 54) (zrr 1)
                             have a2 := mnI_le (zrr 64) (mnI (zrr 54) (zrr 1))
                             unfold zStk
                             omega
                           have hc : zrr 54 - kk = 0 := by omega
                           have hz : zSix zrr = zDrop (iu (iu (iu (iu zrr 1 (zrr 1 - kk)) 4 (zrr 4 + kk)) 54 (zrr 54 - kk)) 14 (zrr 14 + kk)) := by
                             rw [zSix, if_neg hs, ek, if_pos hc]
                             rfl
                           refine k_sub (kend _ ⟨_, _, _, _, _, ⟨(by repeat (first | exact hs_eq _ _ _ | refine hs_ne (by omega) ?_ | assumption)), (by repeat (first | exact hs_eq _ _ _ | refine hs_ne (by omega) ?_ | assumption)), (by repeat (first | exact hs_eq _ _ _ | refine hs_ne (by omega) ?_ | assumption)), (by repeat (first | exact hs_eq _ _ _ | refine hs_ne (by omega) ?_ | assumption)), (by repeat (first | exact hs_eq _ _ _ | refine hs_ne (by omega) ?_ | assumption))⟩, ?_⟩ (fun aaa haa => by repeat (first | rfl | refine hs_ne (by omega) ?_))) ((And.intro rfl (And.intro rfl (And.intro rfl (And.intro rfl (And.intro rfl trivial))))))
                           rw [hz]
                           exact ((((hLR.h (by decide) (by omega)).h (by decide) (by omega)).d (j := 1) (by decide) (by omega)).n (j := 5) (by decide) (by omega)).dropm (by simp (disch := decide) only [iu_ne]; omega) (by simp (disch := decide) only [iu_ne]; omega) (by simp (disch := decide) only [iu_ne])))
                  · try (exfalso; omega)
                    all_goals (
                      refine k_aload_n C dL_minute_634 rfl ?_
                      refine k_aload C dL_minute_635 rfl ?_
                      refine k_callS C (n := 2) (as := [_, _]) (ct_L_drop l D tc base an _ _ _ (by repeat (first | exact hs_eq _ _ _ | refine hs_ne (by omega) ?_ | assumption)) (by repeat (first | exact hs_eq _ _ _ | refine hs_ne (by omega) ?_ | assumption)) (by simp (disch := decide) only [iu_ne]; omega)) ml_L_22 sm_L_drop ini_L co_L_drop ⟨by decide, by decide, by decide +kernel⟩ rfl ⟨by decide, by decide⟩ rfl (Nat.le_of_ble_eq_true rfl) ⟨Nat.zero_le _, Nat.zero_le _⟩ dL_minute_637 ?_
                      rintro _ _ ⟨rfl, rfl⟩
                      simp (disch := decide) only [iu_ne]
                      first
                        | (have hc : zrr 52 = 0 := by omega
                           have hz : zSix zrr = zrr := if_pos (Or.inl hc)
                           exact k_sub (kend _ (by rw [hz]; exact hA) (fun aaa haa => by repeat (first | rfl | refine hs_ne (by omega) ?_))) ((And.intro rfl (And.intro rfl (And.intro rfl (And.intro rfl (And.intro rfl trivial)))))))
                        | (have hc : zSil zrr := hs1 (by omega)
                           have hz : zSix zrr = zrr := if_pos (Or.inr hc)
                           exact k_sub (kend _ (by rw [hz]; exact hA) (fun aaa haa => by repeat (first | rfl | refine hs_ne (by omega) ?_))) ((And.intro rfl (And.intro rfl (And.intro rfl (And.intro rfl (And.intro rfl trivial)))))))
                        | (have hs : ¬ (zrr 52 = 0 ∨ zSil zrr) := fun q => q.elim (by omega) (hs0 (by omega))
                           have ek : zStk zrr = kk := by
                             have a1 := mnI_le (zrr 54) (zrr 1)
                             have a2 := mnI_le (zrr 64) (mnI (zrr 54) (zrr 1))
                             unfold zStk
                             omega
                           have hc : ¬ zrr 54 - kk = 0 := by omega
                           have hz : zSix zrr = iu (iu (iu (iu zrr 1 (zrr 1 - kk)) 4 (zrr 4 + kk)) 54 (zrr 54 - kk)) 14 (zrr 14 + kk) := by
                             rw [zSix, if_neg hs, ek, if_neg hc]
                             rfl
                           refine k_sub (kend _ ⟨_, _, _, _, _, ⟨(by repeat (first | exact hs_eq _ _ _ | refine hs_ne (by omega) ?_ | assumption)), (by repeat (first | exact hs_eq _ _ _ | refine hs_ne (by omega) ?_ | assumption)), (by repeat (first | exact hs_eq _ _ _ | refine hs_ne (by omega) ?_ | assumption)), (by repeat (first | exact hs_eq _ _ _ | refine hs_ne (by omega) ?_ | assumption)), (by repeat (first | exact hs_eq _ _ _ | refine hs_ne (by omega) ?_ | assumption))⟩, ?_⟩ (fun aaa haa => by repeat (first | rfl | refine hs_ne (by omega) ?_))) ((And.intro rfl (And.intro rfl (And.intro rfl (And.intro rfl (And.intro rfl trivial))))))
                           rw [hz]
                           exact (((hLR.h (by decide) (by omega)).h (by decide) (by omega)).d (j := 1) (by decide) (by omega)).n (j := 5) (by decide) (by omega))
                        | (have hs : ¬ (zrr 52 = 0 ∨ zSil zrr) := fun q => q.elim (by omega) (hs0 (by omega))
                           have ek : zStk zrr = kk := by
                             have a1 := mnI_le (zrr 54) (zrr 1)
                             have a2 := mnI_le (zrr 64) (mnI (zrr 54) (zrr 1))
                             unfold zStk
                             omega
                           have hc : zrr 54 - kk = 0 := by omega
                           have hz : zSix zrr = zDrop (iu (iu (iu (iu zrr 1 (zrr 1 - kk)) 4 (zrr 4 + kk)) 54 (zrr 54 - kk)) 14 (zrr 14 + kk)) := by
                             rw [zSix, if_neg hs, ek, if_pos hc]
                             rfl
                           refine k_sub (kend _ ⟨_, _, _, _, _, ⟨(by repeat (first | exact hs_eq _ _ _ | refine hs_ne (by omega) ?_ | assumption)), (by repeat (first | exact hs_eq _ _ _ | refine hs_ne (by omega) ?_ | assumption)), (by repeat (first | exact hs_eq _ _ _ | refine hs_ne (by omega) ?_ | assumption)), (by repeat (first | exact hs_eq _ _ _ | refine hs_ne (by omega) ?_ | assumption)), (by repeat (first | exact hs_eq _ _ _ | refine hs_ne (by omega) ?_ | assumption))⟩, ?_⟩ (fun aaa haa => by repeat (first | rfl | refine hs_ne (by omega) ?_))) ((And.intro rfl (And.intro rfl (And.intro rfl (And.intro rfl (And.intro rfl trivial))))))
                           rw [hz]
                           exact ((((hLR.h (by decide) (by omega)).h (by decide) (by omega)).d (j := 1) (by decide) (by omega)).n (j := 5) (by decide) (by omega)).dropm (by simp (disch := decide) only [iu_ne]; omega) (by simp (disch := decide) only [iu_ne]; omega) (by simp (disch := decide) only [iu_ne]))))
              · try (exfalso; omega)
                all_goals (
                  refine k_aload C dL_minute_579 rfl ?_
                  refine k_iconst C dL_minute_581 ?_
                  refine k_iaload C dL_minute_582 (by repeat (first | exact hs_eq _ _ _ | refine hs_ne (by omega) ?_ | assumption)) (by omega) (by omega) (by omega) ?_
                  try simp (disch := omega) only [hs_hs, iu_ne, iu_eq]
                  refine k_if_le (tgt := 627) C dL_minute_583 (by decide) ⟨by omega, by omega⟩ (fun c583 => ?_) (fun c583 => ?_)
                  · try (exfalso; omega)
                    all_goals (
                      refine k_aload C dL_minute_627 rfl ?_
                      refine k_iconst C dL_minute_629 ?_
                      refine k_iaload C dL_minute_630 (by repeat (first | exact hs_eq _ _ _ | refine hs_ne (by omega) ?_ | assumption)) (by omega) (by omega) (by omega) ?_
                      try simp (disch := omega) only [hs_hs, iu_ne, iu_eq]
                      refine k_if_ne (tgt := 640) C dL_minute_631 (by decide) ⟨by omega, by omega⟩ (fun c631 => ?_) (fun c631 => ?_)
                      · try (exfalso; omega)
                        all_goals (
                          first
                            | (have hc : zrr 52 = 0 := by omega
                               have hz : zSix zrr = zrr := if_pos (Or.inl hc)
                               exact k_sub (kend _ (by rw [hz]; exact hA) (fun aaa haa => by repeat (first | rfl | refine hs_ne (by omega) ?_))) ((And.intro rfl (And.intro rfl (And.intro rfl (And.intro rfl (And.intro rfl trivial)))))))
                            | (have hc : zSil zrr := hs1 (by omega)
                               have hz : zSix zrr = zrr := if_pos (Or.inr hc)
                               exact k_sub (kend _ (by rw [hz]; exact hA) (fun aaa haa => by repeat (first | rfl | refine hs_ne (by omega) ?_))) ((And.intro rfl (And.intro rfl (And.intro rfl (And.intro rfl (And.intro rfl trivial)))))))
                            | (have hs : ¬ (zrr 52 = 0 ∨ zSil zrr) := fun q => q.elim (by omega) (hs0 (by omega))
                               have ek : zStk zrr = kk := by
                                 have a1 := mnI_le (zrr 54) (zrr 1)
                                 have a2 := mnI_le (zrr 64) (mnI (zrr 54) (zrr 1))
                                 unfold zStk
                                 omega
                               have hc : ¬ zrr 54 - kk = 0 := by omega
                               have hz : zSix zrr = iu (iu (iu (iu zrr 1 (zrr 1 - kk)) 4 (zrr 4 + kk)) 54 (zrr 54 - kk)) 14 (zrr 14 + kk) := by
                                 rw [zSix, if_neg hs, ek, if_neg hc]
                                 rfl
                               refine k_sub (kend _ ⟨_, _, _, _, _, ⟨(by repeat (first | exact hs_eq _ _ _ | refine hs_ne (by omega) ?_ | assumption)), (by repeat (first | exact hs_eq _ _ _ | refine hs_ne (by omega) ?_ | assumption)), (by repeat (first | exact hs_eq _ _ _ | refine hs_ne (by omega) ?_ | assumption)), (by repeat (first | exact hs_eq _ _ _ | refine hs_ne (by omega) ?_ | assumption)), (by repeat (first | exact hs_eq _ _ _ | refine hs_ne (by omega) ?_ | assumption))⟩, ?_⟩ (fun aaa haa => by repeat (first | rfl | refine hs_ne (by omega) ?_))) ((And.intro rfl (And.intro rfl (And.intro rfl (And.intro rfl (And.intro rfl trivial))))))
                               rw [hz]
                               exact (((hLR.h (by decide) (by omega)).h (by decide) (by omega)).d (j := 1) (by decide) (by omega)).n (j := 5) (by decide) (by omega))
                            | (have hs : ¬ (zrr 52 = 0 ∨ zSil zrr) := fun q => q.elim (by omega) (hs0 (by omega))
                               have ek : zStk zrr = kk := by
                                 have a1 := mnI_le (zrr 54) (zrr 1)
                                 have a2 := mnI_le (zrr 64) (mnI (zrr 54) (zrr 1))
                                 unfold zStk
                                 omega
                               have hc : zrr 54 - kk = 0 := by omega
                               have hz : zSix zrr = zDrop (iu (iu (iu (iu zrr 1 (zrr 1 - kk)) 4 (zrr 4 + kk)) 54 (zrr 54 - kk)) 14 (zrr 14 + kk)) := by
                                 rw [zSix, if_neg hs, ek, if_pos hc]
                                 rfl
                               refine k_sub (kend _ ⟨_, _, _, _, _, ⟨(by repeat (first | exact hs_eq _ _ _ | refine hs_ne (by omega) ?_ | assumption)), (by repeat (first | exact hs_eq _ _ _ | refine hs_ne (by omega) ?_ | assumption)), (by repeat (first | exact hs_eq _ _ _ | refine hs_ne (by omega) ?_ | assumption)), (by repeat (first | exact hs_eq _ _ _ | refine hs_ne (by omega) ?_ | assumption)), (by repeat (first | exact hs_eq _ _ _ | refine hs_ne (by omega) ?_ | assumption))⟩, ?_⟩ (fun aaa haa => by repeat (first | rfl | refine hs_ne (by omega) ?_))) ((And.intro rfl (And.intro rfl (And.intro rfl (And.intro rfl (And.intro rfl trivial))))))
                               rw [hz]
                               exact ((((hLR.h (by decide) (by omega)).h (by decide) (by omega)).d (j := 1) (by decide) (by omega)).n (j := 5) (by decide) (by omega)).dropm (by simp (disch := decide) only [iu_ne]; omega) (by simp (disch := decide) only [iu_ne]; omega) (by simp (disch := decide) only [iu_ne])))
                      · try (exfalso; omega)
                        all_goals (
                          refine k_aload_n C dL_minute_634 rfl ?_
                          refine k_aload C dL_minute_635 rfl ?_
                          refine k_callS C (n := 2) (as := [_, _]) (ct_L_drop l D tc base an _ _ _ (by repeat (first | exact hs_eq _ _ _ | refine hs_ne (by omega) ?_ | assumption)) (by repeat (first | exact hs_eq _ _ _ | refine hs_ne (by omega) ?_ | assumption)) (by simp (disch := decide) only [iu_ne]; omega)) ml_L_22 sm_L_drop ini_L co_L_drop ⟨by decide, by decide, by decide +kernel⟩ rfl ⟨by decide, by decide⟩ rfl (Nat.le_of_ble_eq_true rfl) ⟨Nat.zero_le _, Nat.zero_le _⟩ dL_minute_637 ?_
                          rintro _ _ ⟨rfl, rfl⟩
                          simp (disch := decide) only [iu_ne]
                          first
                            | (have hc : zrr 52 = 0 := by omega
                               have hz : zSix zrr = zrr := if_pos (Or.inl hc)
                               exact k_sub (kend _ (by rw [hz]; exact hA) (fun aaa haa => by repeat (first | rfl | refine hs_ne (by omega) ?_))) ((And.intro rfl (And.intro rfl (And.intro rfl (And.intro rfl (And.intro rfl trivial)))))))
                            | (have hc : zSil zrr := hs1 (by omega)
                               have hz : zSix zrr = zrr := if_pos (Or.inr hc)
                               exact k_sub (kend _ (by rw [hz]; exact hA) (fun aaa haa => by repeat (first | rfl | refine hs_ne (by omega) ?_))) ((And.intro rfl (And.intro rfl (And.intro rfl (And.intro rfl (And.intro rfl trivial)))))))
                            | (have hs : ¬ (zrr 52 = 0 ∨ zSil zrr) := fun q => q.elim (by omega) (hs0 (by omega))
                               have ek : zStk zrr = kk := by
                                 have a1 := mnI_le (zrr 54) (zrr 1)
                                 have a2 := mnI_le (zrr 64) (mnI (zrr 54) (zrr 1))
                                 unfold zStk
                                 omega
                               have hc : ¬ zrr 54 - kk = 0 := by omega
                               have hz : zSix zrr = iu (iu (iu (iu zrr 1 (zrr 1 - kk)) 4 (zrr 4 + kk)) 54 (zrr 54 - kk)) 14 (zrr 14 + kk) := by
                                 rw [zSix, if_neg hs, ek, if_neg hc]
                                 rfl
                               refine k_sub (kend _ ⟨_, _, _, _, _, ⟨(by repeat (first | exact hs_eq _ _ _ | refine hs_ne (by omega) ?_ | assumption)), (by repeat (first | exact hs_eq _ _ _ | refine hs_ne (by omega) ?_ | assumption)), (by repeat (first | exact hs_eq _ _ _ | refine hs_ne (by omega) ?_ | assumption)), (by repeat (first | exact hs_eq _ _ _ | refine hs_ne (by omega) ?_ | assumption)), (by repeat (first | exact hs_eq _ _ _ | refine hs_ne (by omega) ?_ | assumption))⟩, ?_⟩ (fun aaa haa => by repeat (first | rfl | refine hs_ne (by omega) ?_))) ((And.intro rfl (And.intro rfl (And.intro rfl (And.intro rfl (And.intro rfl trivial))))))
                               rw [hz]
                               exact (((hLR.h (by decide) (by omega)).h (by decide) (by omega)).d (j := 1) (by decide) (by omega)).n (j := 5) (by decide) (by omega))
                            | (have hs : ¬ (zrr 52 = 0 ∨ zSil zrr) := fun q => q.elim (by omega) (hs0 (by omega))
                               have ek : zStk zrr = kk := by
                                 have a1 := mnI_le (zrr 54) (zrr 1)
                                 have a2 := mnI_le (zrr 64) (mnI (zrr 54) (zrr 1))
                                 unfold zStk
                                 omega
                               have hc : zrr 54 - kk = 0 := by omega
                               have hz : zSix zrr = zDrop (iu (iu (iu (iu zrr 1 (zrr 1 - kk)) 4 (zrr 4 + kk)) 54 (zrr 54 - kk)) 14 (zrr 14 + kk)) := by
                                 rw [zSix, if_neg hs, ek, if_pos hc]
                                 rfl
                               refine k_sub (kend _ ⟨_, _, _, _, _, ⟨(by repeat (first | exact hs_eq _ _ _ | refine hs_ne (by omega) ?_ | assumption)), (by repeat (first | exact hs_eq _ _ _ | refine hs_ne (by omega) ?_ | assumption)), (by repeat (first | exact hs_eq _ _ _ | refine hs_ne (by omega) ?_ | assumption)), (by repeat (first | exact hs_eq _ _ _ | refine hs_ne (by omega) ?_ | assumption)), (by repeat (first | exact hs_eq _ _ _ | refine hs_ne (by omega) ?_ | assumption))⟩, ?_⟩ (fun aaa haa => by repeat (first | rfl | refine hs_ne (by omega) ?_))) ((And.intro rfl (And.intro rfl (And.intro rfl (And.intro rfl (And.intro rfl trivial))))))
                               rw [hz]
                               exact ((((hLR.h (by decide) (by omega)).h (by decide) (by omega)).d (j := 1) (by decide) (by omega)).n (j := 5) (by decide) (by omega)).dropm (by simp (disch := decide) only [iu_ne]; omega) (by simp (disch := decide) only [iu_ne]; omega) (by simp (disch := decide) only [iu_ne]))))
                  · try (exfalso; omega)
                    all_goals (
                      refine k_aload_n C dL_minute_586 rfl ?_
                      refine k_iconst C dL_minute_587 ?_
                      refine k_iaload C dL_minute_588 (by repeat (first | exact hs_eq _ _ _ | refine hs_ne (by omega) ?_ | assumption)) (by omega) (by omega) (by omega) ?_
                      try simp (disch := omega) only [hs_hs, iu_ne, iu_eq]
                      refine k_if_le (tgt := 627) C dL_minute_589 (by decide) ⟨by omega, by omega⟩ (fun c589 => ?_) (fun c589 => ?_)
                      · try (exfalso; omega)
                        all_goals (
                          refine k_aload C dL_minute_627 rfl ?_
                          refine k_iconst C dL_minute_629 ?_
                          refine k_iaload C dL_minute_630 (by repeat (first | exact hs_eq _ _ _ | refine hs_ne (by omega) ?_ | assumption)) (by omega) (by omega) (by omega) ?_
                          try simp (disch := omega) only [hs_hs, iu_ne, iu_eq]
                          refine k_if_ne (tgt := 640) C dL_minute_631 (by decide) ⟨by omega, by omega⟩ (fun c631 => ?_) (fun c631 => ?_)
                          · try (exfalso; omega)
                            all_goals (
                              first
                                | (have hc : zrr 52 = 0 := by omega
                                   have hz : zSix zrr = zrr := if_pos (Or.inl hc)
                                   exact k_sub (kend _ (by rw [hz]; exact hA) (fun aaa haa => by repeat (first | rfl | refine hs_ne (by omega) ?_))) ((And.intro rfl (And.intro rfl (And.intro rfl (And.intro rfl (And.intro rfl trivial)))))))
                                | (have hc : zSil zrr := hs1 (by omega)
                                   have hz : zSix zrr = zrr := if_pos (Or.inr hc)
                                   exact k_sub (kend _ (by rw [hz]; exact hA) (fun aaa haa => by repeat (first | rfl | refine hs_ne (by omega) ?_))) ((And.intro rfl (And.intro rfl (And.intro rfl (And.intro rfl (And.intro rfl trivial)))))))
                                | (have hs : ¬ (zrr 52 = 0 ∨ zSil zrr) := fun q => q.elim (by omega) (hs0 (by omega))
                                   have ek : zStk zrr = kk := by
                                     have a1 := mnI_le (zrr 54) (zrr 1)
                                     have a2 := mnI_le (zrr 64) (mnI (zrr 54) (zrr 1))
                                     unfold zStk
                                     omega
                                   have hc : ¬ zrr 54 - kk = 0 := by omega
                                   have hz : zSix zrr = iu (iu (iu (iu zrr 1 (zrr 1 - kk)) 4 (zrr 4 + kk)) 54 (zrr 54 - kk)) 14 (zrr 14 + kk) := by
                                     rw [zSix, if_neg hs, ek, if_neg hc]
                                     rfl
                                   refine k_sub (kend _ ⟨_, _, _, _, _, ⟨(by repeat (first | exact hs_eq _ _ _ | refine hs_ne (by omega) ?_ | assumption)), (by repeat (first | exact hs_eq _ _ _ | refine hs_ne (by omega) ?_ | assumption)), (by repeat (first | exact hs_eq _ _ _ | refine hs_ne (by omega) ?_ | assumption)), (by repeat (first | exact hs_eq _ _ _ | refine hs_ne (by omega) ?_ | assumption)), (by repeat (first | exact hs_eq _ _ _ | refine hs_ne (by omega) ?_ | assumption))⟩, ?_⟩ (fun aaa haa => by repeat (first | rfl | refine hs_ne (by omega) ?_))) ((And.intro rfl (And.intro rfl (And.intro rfl (And.intro rfl (And.intro rfl trivial))))))
                                   rw [hz]
                                   exact (((hLR.h (by decide) (by omega)).h (by decide) (by omega)).d (j := 1) (by decide) (by omega)).n (j := 5) (by decide) (by omega))
                                | (have hs : ¬ (zrr 52 = 0 ∨ zSil zrr) := fun q => q.elim (by omega) (hs0 (by omega))
                                   have ek : zStk zrr = kk := by
                                     have a1 := mnI_le (zrr 54) (zrr 1)
                                     have a2 := mnI_le (zrr 64) (mnI (zrr 54) (zrr 1))
                                     unfold zStk
                                     omega
                                   have hc : zrr 54 - kk = 0 := by omega
                                   have hz : zSix zrr = zDrop (iu (iu (iu (iu zrr 1 (zrr 1 - kk)) 4 (zrr 4 + kk)) 54 (zrr 54 - kk)) 14 (zrr 14 + kk)) := by
                                     rw [zSix, if_neg hs, ek, if_pos hc]
                                     rfl
                                   refine k_sub (kend _ ⟨_, _, _, _, _, ⟨(by repeat (first | exact hs_eq _ _ _ | refine hs_ne (by omega) ?_ | assumption)), (by repeat (first | exact hs_eq _ _ _ | refine hs_ne (by omega) ?_ | assumption)), (by repeat (first | exact hs_eq _ _ _ | refine hs_ne (by omega) ?_ | assumption)), (by repeat (first | exact hs_eq _ _ _ | refine hs_ne (by omega) ?_ | assumption)), (by repeat (first | exact hs_eq _ _ _ | refine hs_ne (by omega) ?_ | assumption))⟩, ?_⟩ (fun aaa haa => by repeat (first | rfl | refine hs_ne (by omega) ?_))) ((And.intro rfl (And.intro rfl (And.intro rfl (And.intro rfl (And.intro rfl trivial))))))
                                   rw [hz]
                                   exact ((((hLR.h (by decide) (by omega)).h (by decide) (by omega)).d (j := 1) (by decide) (by omega)).n (j := 5) (by decide) (by omega)).dropm (by simp (disch := decide) only [iu_ne]; omega) (by simp (disch := decide) only [iu_ne]; omega) (by simp (disch := decide) only [iu_ne])))
                          · try (exfalso; omega)
                            all_goals (
                              refine k_aload_n C dL_minute_634 rfl ?_
                              refine k_aload C dL_minute_635 rfl ?_
                              refine k_callS C (n := 2) (as := [_, _]) (ct_L_drop l D tc base an _ _ _ (by repeat (first | exact hs_eq _ _ _ | refine hs_ne (by omega) ?_ | assumption)) (by repeat (first | exact hs_eq _ _ _ | refine hs_ne (by omega) ?_ | assumption)) (by simp (disch := decide) only [iu_ne]; omega)) ml_L_22 sm_L_drop ini_L co_L_drop ⟨by decide, by decide, by decide +kernel⟩ rfl ⟨by decide, by decide⟩ rfl (Nat.le_of_ble_eq_true rfl) ⟨Nat.zero_le _, Nat.zero_le _⟩ dL_minute_637 ?_
                              rintro _ _ ⟨rfl, rfl⟩
                              simp (disch := decide) only [iu_ne]
                              first
                                | (have hc : zrr 52 = 0 := by omega
                                   have hz : zSix zrr = zrr := if_pos (Or.inl hc)
                                   exact k_sub (kend _ (by rw [hz]; exact hA) (fun aaa haa => by repeat (first | rfl | refine hs_ne (by omega) ?_))) ((And.intro rfl (And.intro rfl (And.intro rfl (And.intro rfl (And.intro rfl trivial)))))))
                                | (have hc : zSil zrr := hs1 (by omega)
                                   have hz : zSix zrr = zrr := if_pos (Or.inr hc)
                                   exact k_sub (kend _ (by rw [hz]; exact hA) (fun aaa haa => by repeat (first | rfl | refine hs_ne (by omega) ?_))) ((And.intro rfl (And.intro rfl (And.intro rfl (And.intro rfl (And.intro rfl trivial)))))))
                                | (have hs : ¬ (zrr 52 = 0 ∨ zSil zrr) := fun q => q.elim (by omega) (hs0 (by omega))
                                   have ek : zStk zrr = kk := by
                                     have a1 := mnI_le (zrr 54) (zrr 1)
                                     have a2 := mnI_le (zrr 64) (mnI (zrr 54) (zrr 1))
                                     unfold zStk
                                     omega
                                   have hc : ¬ zrr 54 - kk = 0 := by omega
                                   have hz : zSix zrr = iu (iu (iu (iu zrr 1 (zrr 1 - kk)) 4 (zrr 4 + kk)) 54 (zrr 54 - kk)) 14 (zrr 14 + kk) := by
                                     rw [zSix, if_neg hs, ek, if_neg hc]
                                     rfl
                                   refine k_sub (kend _ ⟨_, _, _, _, _, ⟨(by repeat (first | exact hs_eq _ _ _ | refine hs_ne (by omega) ?_ | assumption)), (by repeat (first | exact hs_eq _ _ _ | refine hs_ne (by omega) ?_ | assumption)), (by repeat (first | exact hs_eq _ _ _ | refine hs_ne (by omega) ?_ | assumption)), (by repeat (first | exact hs_eq _ _ _ | refine hs_ne (by omega) ?_ | assumption)), (by repeat (first | exact hs_eq _ _ _ | refine hs_ne (by omega) ?_ | assumption))⟩, ?_⟩ (fun aaa haa => by repeat (first | rfl | refine hs_ne (by omega) ?_))) ((And.intro rfl (And.intro rfl (And.intro rfl (And.intro rfl (And.intro rfl trivial))))))
                                   rw [hz]
                                   exact (((hLR.h (by decide) (by omega)).h (by decide) (by omega)).d (j := 1) (by decide) (by omega)).n (j := 5) (by decide) (by omega))
                                | (have hs : ¬ (zrr 52 = 0 ∨ zSil zrr) := fun q => q.elim (by omega) (hs0 (by omega))
                                   have ek : zStk zrr = kk := by
                                     have a1 := mnI_le (zrr 54) (zrr 1)
                                     have a2 := mnI_le (zrr 64) (mnI (zrr 54) (zrr 1))
                                     unfold zStk
                                     omega
                                   have hc : zrr 54 - kk = 0 := by omega
                                   have hz : zSix zrr = zDrop (iu (iu (iu (iu zrr 1 (zrr 1 - kk)) 4 (zrr 4 + kk)) 54 (zrr 54 - kk)) 14 (zrr 14 + kk)) := by
                                     rw [zSix, if_neg hs, ek, if_pos hc]
                                     rfl
                                   refine k_sub (kend _ ⟨_, _, _, _, _, ⟨(by repeat (first | exact hs_eq _ _ _ | refine hs_ne (by omega) ?_ | assumption)), (by repeat (first | exact hs_eq _ _ _ | refine hs_ne (by omega) ?_ | assumption)), (by repeat (first | exact hs_eq _ _ _ | refine hs_ne (by omega) ?_ | assumption)), (by repeat (first | exact hs_eq _ _ _ | refine hs_ne (by omega) ?_ | assumption)), (by repeat (first | exact hs_eq _ _ _ | refine hs_ne (by omega) ?_ | assumption))⟩, ?_⟩ (fun aaa haa => by repeat (first | rfl | refine hs_ne (by omega) ?_))) ((And.intro rfl (And.intro rfl (And.intro rfl (And.intro rfl (And.intro rfl trivial))))))
                                   rw [hz]
                                   exact ((((hLR.h (by decide) (by omega)).h (by decide) (by omega)).d (j := 1) (by decide) (by omega)).n (j := 5) (by decide) (by omega)).dropm (by simp (disch := decide) only [iu_ne]; omega) (by simp (disch := decide) only [iu_ne]; omega) (by simp (disch := decide) only [iu_ne]))))
                      · try (exfalso; omega)
                        all_goals (
                          refine k_aload C dL_minute_592 rfl ?_
                          refine k_iconst C dL_minute_594 ?_
                          refine k_dup2 C dL_minute_595 rfl rfl ?_
                          refine k_iaload C dL_minute_596 (by repeat (first | exact hs_eq _ _ _ | refine hs_ne (by omega) ?_ | assumption)) (by omega) (by omega) (by omega) ?_
                          try simp (disch := omega) only [hs_hs, iu_ne, iu_eq]
                          refine k_iconst C dL_minute_597 ?_
                          refine k_isub C dL_minute_598 ?_
                          refine k_iastore C dL_minute_599 (by repeat (first | exact hs_eq _ _ _ | refine hs_ne (by omega) ?_ | assumption)) (by omega) (by omega) (by omega) ?_
                          refine k_aload_n C dL_minute_600 rfl ?_
                          refine k_iconst C dL_minute_601 ?_
                          refine k_dup2 C dL_minute_602 rfl rfl ?_
                          refine k_iaload C dL_minute_603 (by repeat (first | exact hs_eq _ _ _ | refine hs_ne (by omega) ?_ | assumption)) (by omega) (by omega) (by omega) ?_
                          try simp (disch := omega) only [hs_hs, iu_ne, iu_eq]
                          refine k_iconst C dL_minute_604 ?_
                          refine k_isub C dL_minute_605 ?_
                          refine k_iastore C dL_minute_606 (by repeat (first | exact hs_eq _ _ _ | refine hs_ne (by omega) ?_ | assumption)) (by omega) (by omega) (by omega) ?_
                          refine k_aload_n C dL_minute_607 rfl ?_
                          refine k_iconst C dL_minute_608 ?_
                          refine k_dup2 C dL_minute_609 rfl rfl ?_
                          refine k_iaload C dL_minute_610 (by repeat (first | exact hs_eq _ _ _ | refine hs_ne (by omega) ?_ | assumption)) (by omega) (by omega) (by omega) ?_
                          try simp (disch := omega) only [hs_hs, iu_ne, iu_eq]
                          refine k_iconst C dL_minute_611 ?_
                          refine k_iadd C dL_minute_612 ?_
                          refine k_iastore C dL_minute_613 (by repeat (first | exact hs_eq _ _ _ | refine hs_ne (by omega) ?_ | assumption)) (by omega) (by omega) (by omega) ?_
                          refine k_aload_n C dL_minute_614 rfl ?_
                          refine k_iconst C dL_minute_615 ?_
                          refine k_dup2 C dL_minute_616 rfl rfl ?_
                          refine k_iaload C dL_minute_617 (by repeat (first | exact hs_eq _ _ _ | refine hs_ne (by omega) ?_ | assumption)) (by omega) (by omega) (by omega) ?_
                          try simp (disch := omega) only [hs_hs, iu_ne, iu_eq]
                          refine k_iconst C dL_minute_618 ?_
                          refine k_iadd C dL_minute_619 ?_
                          refine k_iastore C dL_minute_620 (by repeat (first | exact hs_eq _ _ _ | refine hs_ne (by omega) ?_ | assumption)) (by omega) (by omega) (by omega) ?_
                          refine k_iinc C dL_minute_621 rfl (by decide) rfl ?_
                          refine k_goto (tgt := 571) C dL_minute_624 (by decide) ?_
                          have q1 := ih (kk + 1) (by omega) (by omega) (by omega) (by omega) (by omega)
                          rw [show de 1 - (kk + 1) = de 1 - kk - 1 by omega, show hh 1 - (kk + 1) = hh 1 - kk - 1 by omega, show hh 4 + (kk + 1) = hh 4 + kk + 1 by omega, show nu 5 + (kk + 1) = nu 5 + kk + 1 by omega] at q1
                          simp only [hs_hs, iu_iu, iu_com _ _ _ _ (show (1 : Int) ≠ 4 by decide)]
                          rw [hs3]
                          exact q1)))
          have q1 := loop571 (zrr 64 + 1).toNat 0 (by omega) (by omega) (by omega) (by omega) (by omega)
          rw [show de 1 - 0 = de 1 by omega, show hh 1 - 0 = hh 1 by omega, show hh 4 + 0 = hh 4 by omega, show nu 5 + 0 = nu 5 by omega, iu_self, iu_self, iu_self, iu_self, hs_same y4, hs_same y1, hs_same y0] at q1
          exact k_sub q1 (And.intro rfl (And.intro rfl (And.intro rfl (And.intro rfl (And.intro rfl (And.intro rfl (And.intro rfl trivial)))))))))
