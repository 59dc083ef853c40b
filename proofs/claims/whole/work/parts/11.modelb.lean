set_option maxRecDepth 20000 in
set_option maxHeartbeats 1000000 in
theorem ct_X8_comer (l : Launch) (D : va_G) (tc : Nat → ClassId) (base : Nat) (obb zqq : Nat) (fss : List AV) (zrr : RZ) (hpp : AH) (hob : hpp obb = some (eO 8 (aR zqq :: fss))) (hzq : hpp zqq = some (eA 0 67 zrr)) (hne : obb ≠ zqq) (hi : zInv zrr) (hm : zrr 13 ≤ 100000) : CT l D tc base yX8_comer cX8_comer 4 (some .int) 2 [aR obb] hpp (fun r h' => r = some (aI (zCom zrr)) ∧ hpp = h') := by
  refine CT.of [some (aR obb), none, none, none] (by decide +kernel) rfl (Nat.le_of_ble_eq_true rfl) ?_
  intro p e s m args below meth c C hr hnm
  obtain ⟨⟨g0, g1, g2, g9, g10, g11, g12, g13, g21, g52, g61, g62, g63, g64, g65, g66⟩, hwi, hde⟩ := id hi
  refine k_iconst C dX8_comer_0 ?_
  refine k_istore_n C dX8_comer_1 (by decide) rfl ?_
  refine k_iconst C dX8_comer_2 ?_
  refine k_istore_n C dX8_comer_3 (by decide) rfl ?_
  have loop4 : ∀ (n : Nat) (kk : Nat), (kk : Int) ≤ zrr 21 → zrr 21 - kk < (n : Int) → Wk D tc base 4 p l e (lvR 2) s m args below meth c 0 0 (MQ below (Qx D tc base (fun r h' => r = some (aI (zCom zrr)) ∧ hpp = h')) args s 0 0 (fun q => base ≤ q)) 4 [some (aR obb), some (aI (zComN zrr kk)), some (aI kk), none] [] hpp := by
    intro n
    induction n with
    | zero =>
      intro kk hk hmu
      exfalso
      omega
    | succ n ih =>
      intro kk hk hmu
      have hb := zComN_rng zrr kk
      refine k_iload_n C dX8_comer_4 rfl ?_
      refine k_aload_n C dX8_comer_5 rfl ?_
      refine k_get C (k := 0) inX8 (ci := 8) rfl (by decide) fl_X8_7 dX8_comer_6 (by repeat (first | exact hs_eq _ _ _ | refine hs_ne (by omega) ?_ | assumption)) rfl ?_
      refine k_bipush C dX8_comer_9 (by decide +kernel) ?_
      refine k_iaload C dX8_comer_11 (by repeat (first | exact hs_eq _ _ _ | refine hs_ne (by omega) ?_ | assumption)) (by omega) (by omega) (by omega) ?_
      refine k_icmp_ge (tgt := 83) C dX8_comer_12 (by decide) ⟨by omega, by omega⟩ ⟨by omega, by omega⟩ (fun c12 => ?_) (fun c12 => ?_)
      · try (exfalso; omega)
        all_goals (
          refine k_iload_n C dX8_comer_83 rfl ?_
          refine k_iret C hr dX8_comer_84 ?_
          refine ⟨?_, rfl⟩
          have e1 : (zrr 21).toNat = kk := by omega
          unfold zCom
          rw [e1])
      · try (exfalso; omega)
        all_goals (
          refine k_aload_n C dX8_comer_15 rfl ?_
          refine k_iload_n C dX8_comer_16 rfl ?_
          refine k_callV C (n := 1) (as := [_]) (ct_X8_isDue l D tc base obb zqq fss _ _ (by repeat (first | exact hs_eq _ _ _ | refine hs_ne (by omega) ?_ | assumption)) (by repeat (first | exact hs_eq _ _ _ | refine hs_ne (by omega) ?_ | assumption)) hne _ (by omega) (by omega) hi hm) ml_X8_39 im_X8_isDue se_X8_isDue ini_X8 co_X8_isDue ⟨rfl, by decide, by decide, by decide +kernel⟩ rfl (ci := 8) rfl (by repeat (first | exact hs_eq _ _ _ | refine hs_ne (by omega) ?_ | assumption)) ⟨by decide, by decide⟩ rfl (Nat.le_of_ble_eq_true rfl) ⟨Nat.zero_le _, Nat.zero_le _⟩ dX8_comer_17 ?_
          rintro _ _ (⟨rfl, rfl, hq17⟩ | ⟨rfl, rfl, hq17⟩)
          · skip
            refine k_if_eq (tgt := 35) C dX8_comer_20 (by decide) ⟨by omega, by omega⟩ (fun c20 => ?_) (fun c20 => ?_)
            · try (exfalso; omega)
              all_goals (
                refine k_iconst C dX8_comer_35 ?_
                refine k_istore_n C dX8_comer_36 (by decide) rfl ?_
                refine k_iload_n C dX8_comer_37 rfl ?_
                refine k_if_eq (tgt := 75) C dX8_comer_38 (by decide) ⟨by omega, by omega⟩ (fun c38 => ?_) (fun c38 => ?_)
                · try (exfalso; omega)
                  all_goals (
                    refine k_iload_n C dX8_comer_75 rfl ?_
                    refine k_istore_n C dX8_comer_76 (by decide) rfl ?_
                    refine k_iinc C dX8_comer_77 rfl (by decide) rfl ?_
                    refine k_goto (tgt := 4) C dX8_comer_80 (by decide) ?_
                    have e2 : ((kk + 1 : Nat) : Int) = (kk : Int) + 1 := by omega
                    have q1 := ih (kk + 1) (by omega) (by omega)
                    first
                      | (have e1 : zComN zrr (kk + 1) = (kk : Int) := by
                           show (if zBetter zrr (zComN zrr kk) kk then (kk : Int) else zComN zrr kk) = _
                           rw [if_pos (by omega)]
                         rw [e1, e2] at q1
                         exact k_sub q1 (And.intro rfl (And.intro rfl (And.intro rfl trivial))))
                      | (have e1 : zComN zrr (kk + 1) = zComN zrr kk := by
                           show (if zBetter zrr (zComN zrr kk) kk then (kk : Int) else zComN zrr kk) = _
                           rw [if_neg (by omega)]
                         rw [e1, e2] at q1
                         exact k_sub q1 (And.intro rfl (And.intro rfl (And.intro rfl trivial)))))
                · try (exfalso; omega)
                  all_goals (
                    refine k_iload_n C dX8_comer_41 rfl ?_
                    refine k_iconst C dX8_comer_42 ?_
                    refine k_icmp_eq (tgt := 71) C dX8_comer_43 (by decide) ⟨by omega, by omega⟩ ⟨by omega, by omega⟩ (fun c43 => ?_) (fun c43 => ?_)
                    · try (exfalso; omega)
                      all_goals (
                        refine k_iload_n C dX8_comer_71 rfl ?_
                        refine k_goto (tgt := 76) C dX8_comer_72 (by decide) ?_
                        refine k_istore_n C dX8_comer_76 (by decide) rfl ?_
                        refine k_iinc C dX8_comer_77 rfl (by decide) rfl ?_
                        refine k_goto (tgt := 4) C dX8_comer_80 (by decide) ?_
                        have e2 : ((kk + 1 : Nat) : Int) = (kk : Int) + 1 := by omega
                        have q1 := ih (kk + 1) (by omega) (by omega)
                        first
                          | (have e1 : zComN zrr (kk + 1) = (kk : Int) := by
                               show (if zBetter zrr (zComN zrr kk) kk then (kk : Int) else zComN zrr kk) = _
                               rw [if_pos (by omega)]
                             rw [e1, e2] at q1
                             exact k_sub q1 (And.intro rfl (And.intro rfl (And.intro rfl trivial))))
                          | (have e1 : zComN zrr (kk + 1) = zComN zrr kk := by
                               show (if zBetter zrr (zComN zrr kk) kk then (kk : Int) else zComN zrr kk) = _
                               rw [if_neg (by omega)]
                             rw [e1, e2] at q1
                             exact k_sub q1 (And.intro rfl (And.intro rfl (And.intro rfl trivial)))))
                    · try (exfalso; omega)
                      all_goals (
                        have w1 := hwi kk (by omega) (by omega)
                        have w2 := hwi (zComN zrr kk) (by omega) (by omega)
                        refine k_aload_n C dX8_comer_46 rfl ?_
                        refine k_get C (k := 0) inX8 (ci := 8) rfl (by decide) fl_X8_7 dX8_comer_47 (by repeat (first | exact hs_eq _ _ _ | refine hs_ne (by omega) ?_ | assumption)) rfl ?_
                        refine k_iload_n C dX8_comer_50 rfl ?_
                        refine k_callS C (n := 1) (as := [_]) (ct_X8_at l D tc base _ _) ml_X8_36 sm_X8_at ini_X8 co_X8_at ⟨by decide, by decide, by decide +kernel⟩ rfl ⟨by decide, by decide⟩ rfl (Nat.le_of_ble_eq_true rfl) ⟨Nat.zero_le _, Nat.zero_le _⟩ dX8_comer_51 ?_
                        rintro _ _ ⟨rfl, rfl⟩
                        refine k_iconst C dX8_comer_54 ?_
                        refine k_iadd C dX8_comer_55 ?_
                        refine k_iaload C dX8_comer_56 (by repeat (first | exact hs_eq _ _ _ | refine hs_ne (by omega) ?_ | assumption)) (by omega) (by omega) (by omega) ?_
                        refine k_aload_n C dX8_comer_57 rfl ?_
                        refine k_get C (k := 0) inX8 (ci := 8) rfl (by decide) fl_X8_7 dX8_comer_58 (by repeat (first | exact hs_eq _ _ _ | refine hs_ne (by omega) ?_ | assumption)) rfl ?_
                        refine k_iload_n C dX8_comer_61 rfl ?_
                        refine k_callS C (n := 1) (as := [_]) (ct_X8_at l D tc base _ _) ml_X8_36 sm_X8_at ini_X8 co_X8_at ⟨by decide, by decide, by decide +kernel⟩ rfl ⟨by decide, by decide⟩ rfl (Nat.le_of_ble_eq_true rfl) ⟨Nat.zero_le _, Nat.zero_le _⟩ dX8_comer_62 ?_
                        rintro _ _ ⟨rfl, rfl⟩
                        refine k_iconst C dX8_comer_65 ?_
                        refine k_iadd C dX8_comer_66 ?_
                        refine k_iaload C dX8_comer_67 (by repeat (first | exact hs_eq _ _ _ | refine hs_ne (by omega) ?_ | assumption)) (by omega) (by omega) (by omega) ?_
                        refine k_icmp_ge (tgt := 75) C dX8_comer_68 (by decide) ⟨by omega, by omega⟩ ⟨by omega, by omega⟩ (fun c68 => ?_) (fun c68 => ?_)
                        · try (exfalso; omega)
                          all_goals (
                            refine k_iload_n C dX8_comer_75 rfl ?_
                            refine k_istore_n C dX8_comer_76 (by decide) rfl ?_
                            refine k_iinc C dX8_comer_77 rfl (by decide) rfl ?_
                            refine k_goto (tgt := 4) C dX8_comer_80 (by decide) ?_
                            have e2 : ((kk + 1 : Nat) : Int) = (kk : Int) + 1 := by omega
                            have q1 := ih (kk + 1) (by omega) (by omega)
                            first
                              | (have e1 : zComN zrr (kk + 1) = (kk : Int) := by
                                   show (if zBetter zrr (zComN zrr kk) kk then (kk : Int) else zComN zrr kk) = _
                                   rw [if_pos (by omega)]
                                 rw [e1, e2] at q1
                                 exact k_sub q1 (And.intro rfl (And.intro rfl (And.intro rfl trivial))))
                              | (have e1 : zComN zrr (kk + 1) = zComN zrr kk := by
                                   show (if zBetter zrr (zComN zrr kk) kk then (kk : Int) else zComN zrr kk) = _
                                   rw [if_neg (by omega)]
                                 rw [e1, e2] at q1
                                 exact k_sub q1 (And.intro rfl (And.intro rfl (And.intro rfl trivial)))))
                        · try (exfalso; omega)
                          all_goals (
                            refine k_iload_n C dX8_comer_71 rfl ?_
                            refine k_goto (tgt := 76) C dX8_comer_72 (by decide) ?_
                            refine k_istore_n C dX8_comer_76 (by decide) rfl ?_
                            refine k_iinc C dX8_comer_77 rfl (by decide) rfl ?_
                            refine k_goto (tgt := 4) C dX8_comer_80 (by decide) ?_
                            have e2 : ((kk + 1 : Nat) : Int) = (kk : Int) + 1 := by omega
                            have q1 := ih (kk + 1) (by omega) (by omega)
                            first
                              | (have e1 : zComN zrr (kk + 1) = (kk : Int) := by
                                   show (if zBetter zrr (zComN zrr kk) kk then (kk : Int) else zComN zrr kk) = _
                                   rw [if_pos (by omega)]
                                 rw [e1, e2] at q1
                                 exact k_sub q1 (And.intro rfl (And.intro rfl (And.intro rfl trivial))))
                              | (have e1 : zComN zrr (kk + 1) = zComN zrr kk := by
                                   show (if zBetter zrr (zComN zrr kk) kk then (kk : Int) else zComN zrr kk) = _
                                   rw [if_neg (by omega)]
                                 rw [e1, e2] at q1
                                 exact k_sub q1 (And.intro rfl (And.intro rfl (And.intro rfl trivial))))))))
            · try (exfalso; omega)
              all_goals (
                refine k_aload_n C dX8_comer_23 rfl ?_
                refine k_iload_n C dX8_comer_24 rfl ?_
                refine k_callV C (n := 1) (as := [_]) (ct_X8_isKept l D tc base obb zqq fss _ _ (by repeat (first | exact hs_eq _ _ _ | refine hs_ne (by omega) ?_ | assumption)) (by repeat (first | exact hs_eq _ _ _ | refine hs_ne (by omega) ?_ | assumption)) hne _ (by omega) (by omega) hi) ml_X8_43 im_X8_isKept se_X8_isKept ini_X8 co_X8_isKept ⟨rfl, by decide, by decide, by decide +kernel⟩ rfl (ci := 8) rfl (by repeat (first | exact hs_eq _ _ _ | refine hs_ne (by omega) ?_ | assumption)) ⟨by decide, by decide⟩ rfl (Nat.le_of_ble_eq_true rfl) ⟨Nat.zero_le _, Nat.zero_le _⟩ dX8_comer_25 ?_
                rintro _ _ (⟨rfl, rfl, hq25⟩ | ⟨rfl, rfl, hq25⟩)
                · skip
                  refine k_if_ne (tgt := 35) C dX8_comer_28 (by decide) ⟨by omega, by omega⟩ (fun c28 => ?_) (fun c28 => ?_)
                  · try (exfalso; omega)
                    all_goals (
                      refine k_iconst C dX8_comer_35 ?_
                      refine k_istore_n C dX8_comer_36 (by decide) rfl ?_
                      refine k_iload_n C dX8_comer_37 rfl ?_
                      refine k_if_eq (tgt := 75) C dX8_comer_38 (by decide) ⟨by omega, by omega⟩ (fun c38 => ?_) (fun c38 => ?_)
                      · try (exfalso; omega)
                        all_goals (
                          refine k_iload_n C dX8_comer_75 rfl ?_
                          refine k_istore_n C dX8_comer_76 (by decide) rfl ?_
                          refine k_iinc C dX8_comer_77 rfl (by decide) rfl ?_
                          refine k_goto (tgt := 4) C dX8_comer_80 (by decide) ?_
                          have e2 : ((kk + 1 : Nat) : Int) = (kk : Int) + 1 := by omega
                          have q1 := ih (kk + 1) (by omega) (by omega)
                          first
                            | (have e1 : zComN zrr (kk + 1) = (kk : Int) := by
                                 show (if zBetter zrr (zComN zrr kk) kk then (kk : Int) else zComN zrr kk) = _
                                 rw [if_pos (by omega)]
                               rw [e1, e2] at q1
                               exact k_sub q1 (And.intro rfl (And.intro rfl (And.intro rfl trivial))))
                            | (have e1 : zComN zrr (kk + 1) = zComN zrr kk := by
                                 show (if zBetter zrr (zComN zrr kk) kk then (kk : Int) else zComN zrr kk) = _
                                 rw [if_neg (by omega)]
                               rw [e1, e2] at q1
                               exact k_sub q1 (And.intro rfl (And.intro rfl (And.intro rfl trivial)))))
                      · try (exfalso; omega)
                        all_goals (
                          refine k_iload_n C dX8_comer_41 rfl ?_
                          refine k_iconst C dX8_comer_42 ?_
                          refine k_icmp_eq (tgt := 71) C dX8_comer_43 (by decide) ⟨by omega, by omega⟩ ⟨by omega, by omega⟩ (fun c43 => ?_) (fun c43 => ?_)
                          · try (exfalso; omega)
                            all_goals (
                              refine k_iload_n C dX8_comer_71 rfl ?_
                              refine k_goto (tgt := 76) C dX8_comer_72 (by decide) ?_
                              refine k_istore_n C dX8_comer_76 (by decide) rfl ?_
                              refine k_iinc C dX8_comer_77 rfl (by decide) rfl ?_
                              refine k_goto (tgt := 4) C dX8_comer_80 (by decide) ?_
                              have e2 : ((kk + 1 : Nat) : Int) = (kk : Int) + 1 := by omega
                              have q1 := ih (kk + 1) (by omega) (by omega)
                              first
                                | (have e1 : zComN zrr (kk + 1) = (kk : Int) := by
                                     show (if zBetter zrr (zComN zrr kk) kk then (kk : Int) else zComN zrr kk) = _
                                     rw [if_pos (by omega)]
                                   rw [e1, e2] at q1
                                   exact k_sub q1 (And.intro rfl (And.intro rfl (And.intro rfl trivial))))
                                | (have e1 : zComN zrr (kk + 1) = zComN zrr kk := by
                                     show (if zBetter zrr (zComN zrr kk) kk then (kk : Int) else zComN zrr kk) = _
                                     rw [if_neg (by omega)]
                                   rw [e1, e2] at q1
                                   exact k_sub q1 (And.intro rfl (And.intro rfl (And.intro rfl trivial)))))
                          · try (exfalso; omega)
                            all_goals (
                              have w1 := hwi kk (by omega) (by omega)
                              have w2 := hwi (zComN zrr kk) (by omega) (by omega)
                              refine k_aload_n C dX8_comer_46 rfl ?_
                              refine k_get C (k := 0) inX8 (ci := 8) rfl (by decide) fl_X8_7 dX8_comer_47 (by repeat (first | exact hs_eq _ _ _ | refine hs_ne (by omega) ?_ | assumption)) rfl ?_
                              refine k_iload_n C dX8_comer_50 rfl ?_
                              refine k_callS C (n := 1) (as := [_]) (ct_X8_at l D tc base _ _) ml_X8_36 sm_X8_at ini_X8 co_X8_at ⟨by decide, by decide, by decide +kernel⟩ rfl ⟨by decide, by decide⟩ rfl (Nat.le_of_ble_eq_true rfl) ⟨Nat.zero_le _, Nat.zero_le _⟩ dX8_comer_51 ?_
                              rintro _ _ ⟨rfl, rfl⟩
                              refine k_iconst C dX8_comer_54 ?_
                              refine k_iadd C dX8_comer_55 ?_
                              refine k_iaload C dX8_comer_56 (by repeat (first | exact hs_eq _ _ _ | refine hs_ne (by omega) ?_ | assumption)) (by omega) (by omega) (by omega) ?_
                              refine k_aload_n C dX8_comer_57 rfl ?_
                              refine k_get C (k := 0) inX8 (ci := 8) rfl (by decide) fl_X8_7 dX8_comer_58 (by repeat (first | exact hs_eq _ _ _ | refine hs_ne (by omega) ?_ | assumption)) rfl ?_
                              refine k_iload_n C dX8_comer_61 rfl ?_
                              refine k_callS C (n := 1) (as := [_]) (ct_X8_at l D tc base _ _) ml_X8_36 sm_X8_at ini_X8 co_X8_at ⟨by decide, by decide, by decide +kernel⟩ rfl ⟨by decide, by decide⟩ rfl (Nat.le_of_ble_eq_true rfl) ⟨Nat.zero_le _, Nat.zero_le _⟩ dX8_comer_62 ?_
                              rintro _ _ ⟨rfl, rfl⟩
                              refine k_iconst C dX8_comer_65 ?_
                              refine k_iadd C dX8_comer_66 ?_
                              refine k_iaload C dX8_comer_67 (by repeat (first | exact hs_eq _ _ _ | refine hs_ne (by omega) ?_ | assumption)) (by omega) (by omega) (by omega) ?_
                              refine k_icmp_ge (tgt := 75) C dX8_comer_68 (by decide) ⟨by omega, by omega⟩ ⟨by omega, by omega⟩ (fun c68 => ?_) (fun c68 => ?_)
                              · try (exfalso; omega)
                                all_goals (
                                  refine k_iload_n C dX8_comer_75 rfl ?_
                                  refine k_istore_n C dX8_comer_76 (by decide) rfl ?_
                                  refine k_iinc C dX8_comer_77 rfl (by decide) rfl ?_
                                  refine k_goto (tgt := 4) C dX8_comer_80 (by decide) ?_
                                  have e2 : ((kk + 1 : Nat) : Int) = (kk : Int) + 1 := by omega
                                  have q1 := ih (kk + 1) (by omega) (by omega)
                                  first
                                    | (have e1 : zComN zrr (kk + 1) = (kk : Int) := by
                                         show (if zBetter zrr (zComN zrr kk) kk then (kk : Int) else zComN zrr kk) = _
                                         rw [if_pos (by omega)]
                                       rw [e1, e2] at q1
                                       exact k_sub q1 (And.intro rfl (And.intro rfl (And.intro rfl trivial))))
                                    | (have e1 : zComN zrr (kk + 1) = zComN zrr kk := by
                                         show (if zBetter zrr (zComN zrr kk) kk then (kk : Int) else zComN zrr kk) = _
                                         rw [if_neg (by omega)]
                                       rw [e1, e2] at q1
                                       exact k_sub q1 (And.intro rfl (And.intro rfl (And.intro rfl trivial)))))
                              · try (exfalso; omega)
                                all_goals (
                                  refine k_iload_n C dX8_comer_71 rfl ?_
                                  refine k_goto (tgt := 76) C dX8_comer_72 (by decide) ?_
                                  refine k_istore_n C dX8_comer_76 (by decide) rfl ?_
                                  refine k_iinc C dX8_comer_77 rfl (by decide) rfl ?_
                                  refine k_goto (tgt := 4) C dX8_comer_80 (by decide) ?_
                                  have e2 : ((kk + 1 : Nat) : Int) = (kk : Int) + 1 := by omega
                                  have q1 := ih (kk + 1) (by omega) (by omega)
                                  first
                                    | (have e1 : zComN zrr (kk + 1) = (kk : Int) := by
                                         show (if zBetter zrr (zComN zrr kk) kk then (kk : Int) else zComN zrr kk) = _
                                         rw [if_pos (by omega)]
                                       rw [e1, e2] at q1
                                       exact k_sub q1 (And.intro rfl (And.intro rfl (And.intro rfl trivial))))
                                    | (have e1 : zComN zrr (kk + 1) = zComN zrr kk := by
                                         show (if zBetter zrr (zComN zrr kk) kk then (kk : Int) else zComN zrr kk) = _
                                         rw [if_neg (by omega)]
                                       rw [e1, e2] at q1
                                       exact k_sub q1 (And.intro rfl (And.intro rfl (And.intro rfl trivial))))))))
                  · try (exfalso; omega)
                    all_goals (
                      refine k_iconst C dX8_comer_31 ?_
                      refine k_goto (tgt := 36) C dX8_comer_32 (by decide) ?_
                      refine k_istore_n C dX8_comer_36 (by decide) rfl ?_
                      refine k_iload_n C dX8_comer_37 rfl ?_
                      refine k_if_eq (tgt := 75) C dX8_comer_38 (by decide) ⟨by omega, by omega⟩ (fun c38 => ?_) (fun c38 => ?_)
                      · try (exfalso; omega)
                        all_goals (
                          refine k_iload_n C dX8_comer_75 rfl ?_
                          refine k_istore_n C dX8_comer_76 (by decide) rfl ?_
                          refine k_iinc C dX8_comer_77 rfl (by decide) rfl ?_
                          refine k_goto (tgt := 4) C dX8_comer_80 (by decide) ?_
                          have e2 : ((kk + 1 : Nat) : Int) = (kk : Int) + 1 := by omega
                          have q1 := ih (kk + 1) (by omega) (by omega)
                          first
                            | (have e1 : zComN zrr (kk + 1) = (kk : Int) := by
                                 show (if zBetter zrr (zComN zrr kk) kk then (kk : Int) else zComN zrr kk) = _
                                 rw [if_pos (by omega)]
                               rw [e1, e2] at q1
                               exact k_sub q1 (And.intro rfl (And.intro rfl (And.intro rfl trivial))))
                            | (have e1 : zComN zrr (kk + 1) = zComN zrr kk := by
                                 show (if zBetter zrr (zComN zrr kk) kk then (kk : Int) else zComN zrr kk) = _
                                 rw [if_neg (by omega)]
                               rw [e1, e2] at q1
                               exact k_sub q1 (And.intro rfl (And.intro rfl (And.intro rfl trivial)))))
                      · try (exfalso; omega)
                        all_goals (
                          refine k_iload_n C dX8_comer_41 rfl ?_
                          refine k_iconst C dX8_comer_42 ?_
                          refine k_icmp_eq (tgt := 71) C dX8_comer_43 (by decide) ⟨by omega, by omega⟩ ⟨by omega, by omega⟩ (fun c43 => ?_) (fun c43 => ?_)
                          · try (exfalso; omega)
                            all_goals (
                              refine k_iload_n C dX8_comer_71 rfl ?_
                              refine k_goto (tgt := 76) C dX8_comer_72 (by decide) ?_
                              refine k_istore_n C dX8_comer_76 (by decide) rfl ?_
                              refine k_iinc C dX8_comer_77 rfl (by decide) rfl ?_
                              refine k_goto (tgt := 4) C dX8_comer_80 (by decide) ?_
                              have e2 : ((kk + 1 : Nat) : Int) = (kk : Int) + 1 := by omega
                              have q1 := ih (kk + 1) (by omega) (by omega)
                              first
                                | (have e1 : zComN zrr (kk + 1) = (kk : Int) := by
                                     show (if zBetter zrr (zComN zrr kk) kk then (kk : Int) else zComN zrr kk) = _
                                     rw [if_pos (by omega)]
                                   rw [e1, e2] at q1
                                   exact k_sub q1 (And.intro rfl (And.intro rfl (And.intro rfl trivial))))
                                | (have e1 : zComN zrr (kk + 1) = zComN zrr kk := by
                                     show (if zBetter zrr (zComN zrr kk) kk then (kk : Int) else zComN zrr kk) = _
                                     rw [if_neg (by omega)]
                                   rw [e1, e2] at q1
                                   exact k_sub q1 (And.intro rfl (And.intro rfl (And.intro rfl trivial)))))
                          · try (exfalso; omega)
                            all_goals (
                              have w1 := hwi kk (by omega) (by omega)
                              have w2 := hwi (zComN zrr kk) (by omega) (by omega)
                              refine k_aload_n C dX8_comer_46 rfl ?_
                              refine k_get C (k := 0) inX8 (ci := 8) rfl (by decide) fl_X8_7 dX8_comer_47 (by repeat (first | exact hs_eq _ _ _ | refine hs_ne (by omega) ?_ | assumption)) rfl ?_
                              refine k_iload_n C dX8_comer_50 rfl ?_
                              refine k_callS C (n := 1) (as := [_]) (ct_X8_at l D tc base _ _) ml_X8_36 sm_X8_at ini_X8 co_X8_at ⟨by decide, by decide, by decide +kernel⟩ rfl ⟨by decide, by decide⟩ rfl (Nat.le_of_ble_eq_true rfl) ⟨Nat.zero_le _, Nat.zero_le _⟩ dX8_comer_51 ?_
                              rintro _ _ ⟨rfl, rfl⟩
                              refine k_iconst C dX8_comer_54 ?_
                              refine k_iadd C dX8_comer_55 ?_
                              refine k_iaload C dX8_comer_56 (by repeat (first | exact hs_eq _ _ _ | refine hs_ne (by omega) ?_ | assumption)) (by omega) (by omega) (by omega) ?_
                              refine k_aload_n C dX8_comer_57 rfl ?_
                              refine k_get C (k := 0) inX8 (ci := 8) rfl (by decide) fl_X8_7 dX8_comer_58 (by repeat (first | exact hs_eq _ _ _ | refine hs_ne (by omega) ?_ | assumption)) rfl ?_
                              refine k_iload_n C dX8_comer_61 rfl ?_
                              refine k_callS C (n := 1) (as := [_]) (ct_X8_at l D tc base _ _) ml_X8_36 sm_X8_at ini_X8 co_X8_at ⟨by decide, by decide, by decide +kernel⟩ rfl ⟨by decide, by decide⟩ rfl (Nat.le_of_ble_eq_true rfl) ⟨Nat.zero_le _, Nat.zero_le _⟩ dX8_comer_62 ?_
                              rintro _ _ ⟨rfl, rfl⟩
                              refine k_iconst C dX8_comer_65 ?_
                              refine k_iadd C dX8_comer_66 ?_
                              refine k_iaload C dX8_comer_67 (by repeat (first | exact hs_eq _ _ _ | refine hs_ne (by omega) ?_ | assumption)) (by omega) (by omega) (by omega) ?_
                              refine k_icmp_ge (tgt := 75) C dX8_comer_68 (by decide) ⟨by omega, by omega⟩ ⟨by omega, by omega⟩ (fun c68 => ?_) (fun c68 => ?_)
                              · try (exfalso; omega)
                                all_goals (
                                  refine k_iload_n C dX8_comer_75 rfl ?_
                                  refine k_istore_n C dX8_comer_76 (by decide) rfl ?_
                                  refine k_iinc C dX8_comer_77 rfl (by decide) rfl ?_
                                  refine k_goto (tgt := 4) C dX8_comer_80 (by decide) ?_
                                  have e2 : ((kk + 1 : Nat) : Int) = (kk : Int) + 1 := by omega
                                  have q1 := ih (kk + 1) (by omega) (by omega)
                                  first
                                    | (have e1 : zComN zrr (kk + 1) = (kk : Int) := by
                                         show (if zBetter zrr (zComN zrr kk) kk then (kk : Int) else zComN zrr kk) = _
                                         rw [if_pos (by omega)]
                                       rw [e1, e2] at q1
                                       exact k_sub q1 (And.intro rfl (And.intro rfl (And.intro rfl trivial))))
                                    | (have e1 : zComN zrr (kk + 1) = zComN zrr kk := by
                                         show (if zBetter zrr (zComN zrr kk) kk then (kk : Int) else zComN zrr kk) = _
                                         rw [if_neg (by omega)]
                                       rw [e1, e2] at q1
                                       exact k_sub q1 (And.intro rfl (And.intro rfl (And.intro rfl trivial)))))
                              · try (exfalso; omega)
                                all_goals (
                                  refine k_iload_n C dX8_comer_71 rfl ?_
                                  refine k_goto (tgt := 76) C dX8_comer_72 (by decide) ?_
                                  refine k_istore_n C dX8_comer_76 (by decide) rfl ?_
                                  refine k_iinc C dX8_comer_77 rfl (by decide) rfl ?_
                                  refine k_goto (tgt := 4) C dX8_comer_80 (by decide) ?_
                                  have e2 : ((kk + 1 : Nat) : Int) = (kk : Int) + 1 := by omega
                                  have q1 := ih (kk + 1) (by omega) (by omega)
                                  first
                                    | (have e1 : zComN zrr (kk + 1) = (kk : Int) := by
                                         show (if zBetter zrr (zComN zrr kk) kk then (kk : Int) else zComN zrr kk) = _
                                         rw [if_pos (by omega)]
                                       rw [e1, e2] at q1
                                       exact k_sub q1 (And.intro rfl (And.intro rfl (And.intro rfl trivial))))
                                    | (have e1 : zComN zrr (kk + 1) = zComN zrr kk := by
                                         show (if zBetter zrr (zComN zrr kk) kk then (kk : Int) else zComN zrr kk) = _
                                         rw [if_neg (by omega)]
                                       rw [e1, e2] at q1
                                       exact k_sub q1 (And.intro rfl (And.intro rfl (And.intro rfl trivial))))))))
                · skip
                  refine k_if_ne (tgt := 35) C dX8_comer_28 (by decide) ⟨by omega, by omega⟩ (fun c28 => ?_) (fun c28 => ?_)
                  · try (exfalso; omega)
                    all_goals (
                      refine k_iconst C dX8_comer_35 ?_
                      refine k_istore_n C dX8_comer_36 (by decide) rfl ?_
                      refine k_iload_n C dX8_comer_37 rfl ?_
                      refine k_if_eq (tgt := 75) C dX8_comer_38 (by decide) ⟨by omega, by omega⟩ (fun c38 => ?_) (fun c38 => ?_)
                      · try (exfalso; omega)
                        all_goals (
                          refine k_iload_n C dX8_comer_75 rfl ?_
                          refine k_istore_n C dX8_comer_76 (by decide) rfl ?_
                          refine k_iinc C dX8_comer_77 rfl (by decide) rfl ?_
                          refine k_goto (tgt := 4) C dX8_comer_80 (by decide) ?_
                          have e2 : ((kk + 1 : Nat) : Int) = (kk : Int) + 1 := by omega
                          have q1 := ih (kk + 1) (by omega) (by omega)
                          first
                            | (have e1 : zComN zrr (kk + 1) = (kk : Int) := by
                                 show (if zBetter zrr (zComN zrr kk) kk then (kk : Int) else zComN zrr kk) = _
                                 rw [if_pos (by omega)]
                               rw [e1, e2] at q1
                               exact k_sub q1 (And.intro rfl (And.intro rfl (And.intro rfl trivial))))
                            | (have e1 : zComN zrr (kk + 1) = zComN zrr kk := by
                                 show (if zBetter zrr (zComN zrr kk) kk then (kk : Int) else zComN zrr kk) = _
                                 rw [if_neg (by omega)]
                               rw [e1, e2] at q1
                               exact k_sub q1 (And.intro rfl (And.intro rfl (And.intro rfl trivial)))))
                      · try (exfalso; omega)
                        all_goals (
                          refine k_iload_n C dX8_comer_41 rfl ?_
                          refine k_iconst C dX8_comer_42 ?_
                          refine k_icmp_eq (tgt := 71) C dX8_comer_43 (by decide) ⟨by omega, by omega⟩ ⟨by omega, by omega⟩ (fun c43 => ?_) (fun c43 => ?_)
                          · try (exfalso; omega)
                            all_goals (
                              refine k_iload_n C dX8_comer_71 rfl ?_
                              refine k_goto (tgt := 76) C dX8_comer_72 (by decide) ?_
                              refine k_istore_n C dX8_comer_76 (by decide) rfl ?_
                              refine k_iinc C dX8_comer_77 rfl (by decide) rfl ?_
                              refine k_goto (tgt := 4) C dX8_comer_80 (by decide) ?_
                              have e2 : ((kk + 1 : Nat) : Int) = (kk : Int) + 1 := by omega
                              have q1 := ih (kk + 1) (by omega) (by omega)
                              first
                                | (have e1 : zComN zrr (kk + 1) = (kk : Int) := by
                                     show (if zBetter zrr (zComN zrr kk) kk then (kk : Int) else zComN zrr kk) = _
                                     rw [if_pos (by omega)]
                                   rw [e1, e2] at q1
                                   exact k_sub q1 (And.intro rfl (And.intro rfl (And.intro rfl trivial))))
                                | (have e1 : zComN zrr (kk + 1) = zComN zrr kk := by
                                     show (if zBetter zrr (zComN zrr kk) kk then (kk : Int) else zComN zrr kk) = _
                                     rw [if_neg (by omega)]
                                   rw [e1, e2] at q1
                                   exact k_sub q1 (And.intro rfl (And.intro rfl (And.intro rfl trivial)))))
                          · try (exfalso; omega)
                            all_goals (
                              have w1 := hwi kk (by omega) (by omega)
                              have w2 := hwi (zComN zrr kk) (by omega) (by omega)
                              refine k_aload_n C dX8_comer_46 rfl ?_
                              refine k_get C (k := 0) inX8 (ci := 8) rfl (by decide) fl_X8_7 dX8_comer_47 (by repeat (first | exact hs_eq _ _ _ | refine hs_ne (by omega) ?_ | assumption)) rfl ?_
                              refine k_iload_n C dX8_comer_50 rfl ?_
                              refine k_callS C (n := 1) (as := [_]) (ct_X8_at l D tc base _ _) ml_X8_36 sm_X8_at ini_X8 co_X8_at ⟨by decide, by decide, by decide +kernel⟩ rfl ⟨by decide, by decide⟩ rfl (Nat.le_of_ble_eq_true rfl) ⟨Nat.zero_le _, Nat.zero_le _⟩ dX8_comer_51 ?_
                              rintro _ _ ⟨rfl, rfl⟩
                              refine k_iconst C dX8_comer_54 ?_
                              refine k_iadd C dX8_comer_55 ?_
                              refine k_iaload C dX8_comer_56 (by repeat (first | exact hs_eq _ _ _ | refine hs_ne (by omega) ?_ | assumption)) (by omega) (by omega) (by omega) ?_
                              refine k_aload_n C dX8_comer_57 rfl ?_
                              refine k_get C (k := 0) inX8 (ci := 8) rfl (by decide) fl_X8_7 dX8_comer_58 (by repeat (first | exact hs_eq _ _ _ | refine hs_ne (by omega) ?_ | assumption)) rfl ?_
                              refine k_iload_n C dX8_comer_61 rfl ?_
                              refine k_callS C (n := 1) (as := [_]) (ct_X8_at l D tc base _ _) ml_X8_36 sm_X8_at ini_X8 co_X8_at ⟨by decide, by decide, by decide +kernel⟩ rfl ⟨by decide, by decide⟩ rfl (Nat.le_of_ble_eq_true rfl) ⟨Nat.zero_le _, Nat.zero_le _⟩ dX8_comer_62 ?_
                              rintro _ _ ⟨rfl, rfl⟩
                              refine k_iconst C dX8_comer_65 ?_
                              refine k_iadd C dX8_comer_66 ?_
                              refine k_iaload C dX8_comer_67 (by repeat (first | exact hs_eq _ _ _ | refine hs_ne (by omega) ?_ | assumption)) (by omega) (by omega) (by omega) ?_
                              refine k_icmp_ge (tgt := 75) C dX8_comer_68 (by decide) ⟨by omega, by omega⟩ ⟨by omega, by omega⟩ (fun c68 => ?_) (fun c68 => ?_)
                              · try (exfalso; omega)
                                all_goals (
                                  refine k_iload_n C dX8_comer_75 rfl ?_
                                  refine k_istore_n C dX8_comer_76 (by decide) rfl ?_
                                  refine k_iinc C dX8_comer_77 rfl (by decide) rfl ?_
                                  refine k_goto (tgt := 4) C dX8_comer_80 (by decide) ?_
                                  have e2 : ((kk + 1 : Nat) : Int) = (kk : Int) + 1 := by omega
                                  have q1 := ih (kk + 1) (by omega) (by omega)
                                  first
                                    | (have e1 : zComN zrr (kk + 1) = (kk : Int) := by
                                         show (if zBetter zrr (zComN zrr kk) kk then (kk : Int) else zComN zrr kk) = _
                                         rw [if_pos (by omega)]
                                       rw [e1, e2] at q1
                                       exact k_sub q1 (And.intro rfl (And.intro rfl (And.intro rfl trivial))))
                                    | (have e1 : zComN zrr (kk + 1) = zComN zrr kk := by
                                         show (if zBetter zrr (zComN zrr kk) kk then (kk : Int) else zComN zrr kk) = _
                                         rw [if_neg (by omega)]
                                       rw [e1, e2] at q1
                                       exact k_sub q1 (And.intro rfl (And.intro rfl (And.intro rfl trivial)))))
                              · try (exfalso; omega)
                                all_goals (
                                  refine k_iload_n C dX8_comer_71 rfl ?_
                                  refine k_goto (tgt := 76) C dX8_comer_72 (by decide) ?_
                                  refine k_istore_n C dX8_comer_76 (by decide) rfl ?_
                                  refine k_iinc C dX8_comer_77 rfl (by decide) rfl ?_
                                  refine k_goto (tgt := 4) C dX8_comer_80 (by decide) ?_
                                  have e2 : ((kk + 1 : Nat) : Int) = (kk : Int) + 1 := by omega
                                  have q1 := ih (kk + 1) (by omega) (by omega)
                                  first
                                    | (have e1 : zComN zrr (kk + 1) = (kk : Int) := by
                                         show (if zBetter zrr (zComN zrr kk) kk then (kk : Int) else zComN zrr kk) = _
                                         rw [if_pos (by omega)]
                                       rw [e1, e2] at q1
                                       exact k_sub q1 (And.intro rfl (And.intro rfl (And.intro rfl trivial))))
                                    | (have e1 : zComN zrr (kk + 1) = zComN zrr kk := by
                                         show (if zBetter zrr (zComN zrr kk) kk then (kk : Int) else zComN zrr kk) = _
                                         rw [if_neg (by omega)]
                                       rw [e1, e2] at q1
                                       exact k_sub q1 (And.intro rfl (And.intro rfl (And.intro rfl trivial))))))))
                  · try (exfalso; omega)
                    all_goals (
                      refine k_iconst C dX8_comer_31 ?_
                      refine k_goto (tgt := 36) C dX8_comer_32 (by decide) ?_
                      refine k_istore_n C dX8_comer_36 (by decide) rfl ?_
                      refine k_iload_n C dX8_comer_37 rfl ?_
                      refine k_if_eq (tgt := 75) C dX8_comer_38 (by decide) ⟨by omega, by omega⟩ (fun c38 => ?_) (fun c38 => ?_)
                      · try (exfalso; omega)
                        all_goals (
                          refine k_iload_n C dX8_comer_75 rfl ?_
                          refine k_istore_n C dX8_comer_76 (by decide) rfl ?_
                          refine k_iinc C dX8_comer_77 rfl (by decide) rfl ?_
                          refine k_goto (tgt := 4) C dX8_comer_80 (by decide) ?_
                          have e2 : ((kk + 1 : Nat) : Int) = (kk : Int) + 1 := by omega
                          have q1 := ih (kk + 1) (by omega) (by omega)
                          first
                            | (have e1 : zComN zrr (kk + 1) = (kk : Int) := by
                                 show (if zBetter zrr (zComN zrr kk) kk then (kk : Int) else zComN zrr kk) = _
                                 rw [if_pos (by omega)]
                               rw [e1, e2] at q1
                               exact k_sub q1 (And.intro rfl (And.intro rfl (And.intro rfl trivial))))
                            | (have e1 : zComN zrr (kk + 1) = zComN zrr kk := by
                                 show (if zBetter zrr (zComN zrr kk) kk then (kk : Int) else zComN zrr kk) = _
                                 rw [if_neg (by omega)]
                               rw [e1, e2] at q1
                               exact k_sub q1 (And.intro rfl (And.intro rfl (And.intro rfl trivial)))))
                      · try (exfalso; omega)
                        all_goals (
                          refine k_iload_n C dX8_comer_41 rfl ?_
                          refine k_iconst C dX8_comer_42 ?_
                          refine k_icmp_eq (tgt := 71) C dX8_comer_43 (by decide) ⟨by omega, by omega⟩ ⟨by omega, by omega⟩ (fun c43 => ?_) (fun c43 => ?_)
                          · try (exfalso; omega)
                            all_goals (
                              refine k_iload_n C dX8_comer_71 rfl ?_
                              refine k_goto (tgt := 76) C dX8_comer_72 (by decide) ?_
                              refine k_istore_n C dX8_comer_76 (by decide) rfl ?_
                              refine k_iinc C dX8_comer_77 rfl (by decide) rfl ?_
                              refine k_goto (tgt := 4) C dX8_comer_80 (by decide) ?_
                              have e2 : ((kk + 1 : Nat) : Int) = (kk : Int) + 1 := by omega
                              have q1 := ih (kk + 1) (by omega) (by omega)
                              first
                                | (have e1 : zComN zrr (kk + 1) = (kk : Int) := by
                                     show (if zBetter zrr (zComN zrr kk) kk then (kk : Int) else zComN zrr kk) = _
                                     rw [if_pos (by omega)]
                                   rw [e1, e2] at q1
                                   exact k_sub q1 (And.intro rfl (And.intro rfl (And.intro rfl trivial))))
                                | (have e1 : zComN zrr (kk + 1) = zComN zrr kk := by
                                     show (if zBetter zrr (zComN zrr kk) kk then (kk : Int) else zComN zrr kk) = _
                                     rw [if_neg (by omega)]
                                   rw [e1, e2] at q1
                                   exact k_sub q1 (And.intro rfl (And.intro rfl (And.intro rfl trivial)))))
                          · try (exfalso; omega)
                            all_goals (
                              have w1 := hwi kk (by omega) (by omega)
                              have w2 := hwi (zComN zrr kk) (by omega) (by omega)
                              refine k_aload_n C dX8_comer_46 rfl ?_
                              refine k_get C (k := 0) inX8 (ci := 8) rfl (by decide) fl_X8_7 dX8_comer_47 (by repeat (first | exact hs_eq _ _ _ | refine hs_ne (by omega) ?_ | assumption)) rfl ?_
                              refine k_iload_n C dX8_comer_50 rfl ?_
                              refine k_callS C (n := 1) (as := [_]) (ct_X8_at l D tc base _ _) ml_X8_36 sm_X8_at ini_X8 co_X8_at ⟨by decide, by decide, by decide +kernel⟩ rfl ⟨by decide, by decide⟩ rfl (Nat.le_of_ble_eq_true rfl) ⟨Nat.zero_le _, Nat.zero_le _⟩ dX8_comer_51 ?_
                              rintro _ _ ⟨rfl, rfl⟩
                              refine k_iconst C dX8_comer_54 ?_
                              refine k_iadd C dX8_comer_55 ?_
                              refine k_iaload C dX8_comer_56 (by repeat (first | exact hs_eq _ _ _ | refine hs_ne (by omega) ?_ | assumption)) (by omega) (by omega) (by omega) ?_
                              refine k_aload_n C dX8_comer_57 rfl ?_
                              refine k_get C (k := 0) inX8 (ci := 8) rfl (by decide) fl_X8_7 dX8_comer_58 (by repeat (first | exact hs_eq _ _ _ | refine hs_ne (by omega) ?_ | assumption)) rfl ?_
                              refine k_iload_n C dX8_comer_61 rfl ?_
                              refine k_callS C (n := 1) (as := [_]) (ct_X8_at l D tc base _ _) ml_X8_36 sm_X8_at ini_X8 co_X8_at ⟨by decide, by decide, by decide +kernel⟩ rfl ⟨by decide, by decide⟩ rfl (Nat.le_of_ble_eq_true rfl) ⟨Nat.zero_le _, Nat.zero_le _⟩ dX8_comer_62 ?_
                              rintro _ _ ⟨rfl, rfl⟩
                              refine k_iconst C dX8_comer_65 ?_
                              refine k_iadd C dX8_comer_66 ?_
                              refine k_iaload C dX8_comer_67 (by repeat (first | exact hs_eq _ _ _ | refine hs_ne (by omega) ?_ | assumption)) (by omega) (by omega) (by omega) ?_
                              refine k_icmp_ge (tgt := 75) C dX8_comer_68 (by decide) ⟨by omega, by omega⟩ ⟨by omega, by omega⟩ (fun c68 => ?_) (fun c68 => ?_)
                              · try (exfalso; omega)
                                all_goals (
                                  refine k_iload_n C dX8_comer_75 rfl ?_
                                  refine k_istore_n C dX8_comer_76 (by decide) rfl ?_
                                  refine k_iinc C dX8_comer_77 rfl (by decide) rfl ?_
                                  refine k_goto (tgt := 4) C dX8_comer_80 (by decide) ?_
                                  have e2 : ((kk + 1 : Nat) : Int) = (kk : Int) + 1 := by omega
                                  have q1 := ih (kk + 1) (by omega) (by omega)
                                  first
                                    | (have e1 : zComN zrr (kk + 1) = (kk : Int) := by
                                         show (if zBetter zrr (zComN zrr kk) kk then (kk : Int) else zComN zrr kk) = _
                                         rw [if_pos (by omega)]
                                       rw [e1, e2] at q1
                                       exact k_sub q1 (And.intro rfl (And.intro rfl (And.intro rfl trivial))))
                                    | (have e1 : zComN zrr (kk + 1) = zComN zrr kk := by
                                         show (if zBetter zrr (zComN zrr kk) kk then (kk : Int) else zComN zrr kk) = _
                                         rw [if_neg (by omega)]
                                       rw [e1, e2] at q1
                                       exact k_sub q1 (And.intro rfl (And.intro rfl (And.intro rfl trivial)))))
                              · try (exfalso; omega)
                                all_goals (
                                  refine k_iload_n C dX8_comer_71 rfl ?_
                                  refine k_goto (tgt := 76) C dX8_comer_72 (by decide) ?_
                                  refine k_istore_n C dX8_comer_76 (by decide) rfl ?_
                                  refine k_iinc C dX8_comer_77 rfl (by decide) rfl ?_
                                  refine k_goto (tgt := 4) C dX8_comer_80 (by decide) ?_
                                  have e2 : ((kk + 1 : Nat) : Int) = (kk : Int) + 1 := by omega
                                  have q1 := ih (kk + 1) (by omega) (by omega)
                                  first
                                    | (have e1 : zComN zrr (kk + 1) = (kk : Int) := by
                                         show (if zBetter zrr (zComN zrr kk) kk then (kk : Int) else zComN zrr kk) = _
                                         rw [if_pos (by omega)]
                                       rw [e1, e2] at q1
                                       exact k_sub q1 (And.intro rfl (And.intro rfl (And.intro rfl trivial))))
                                    | (have e1 : zComN zrr (kk + 1) = zComN zrr kk := by
                                         show (if zBetter zrr (zComN zrr kk) kk then (kk : Int) else zComN zrr kk) = _
                                         rw [if_neg (by omega)]
                                       rw [e1, e2] at q1
                                       exact k_sub q1 (And.intro rfl (And.intro rfl (And.intro rfl trivial)))))))))
          · skip
            refine k_if_eq (tgt := 35) C dX8_comer_20 (by decide) ⟨by omega, by omega⟩ (fun c20 => ?_) (fun c20 => ?_)
            · try (exfalso; omega)
              all_goals (
                refine k_iconst C dX8_comer_35 ?_
                refine k_istore_n C dX8_comer_36 (by decide) rfl ?_
                refine k_iload_n C dX8_comer_37 rfl ?_
                refine k_if_eq (tgt := 75) C dX8_comer_38 (by decide) ⟨by omega, by omega⟩ (fun c38 => ?_) (fun c38 => ?_)
                · try (exfalso; omega)
                  all_goals (
                    refine k_iload_n C dX8_comer_75 rfl ?_
                    refine k_istore_n C dX8_comer_76 (by decide) rfl ?_
                    refine k_iinc C dX8_comer_77 rfl (by decide) rfl ?_
                    refine k_goto (tgt := 4) C dX8_comer_80 (by decide) ?_
                    have e2 : ((kk + 1 : Nat) : Int) = (kk : Int) + 1 := by omega
                    have q1 := ih (kk + 1) (by omega) (by omega)
                    first
                      | (have e1 : zComN zrr (kk + 1) = (kk : Int) := by
                           show (if zBetter zrr (zComN zrr kk) kk then (kk : Int) else zComN zrr kk) = _
                           rw [if_pos (by omega)]
                         rw [e1, e2] at q1
                         exact k_sub q1 (And.intro rfl (And.intro rfl (And.intro rfl trivial))))
                      | (have e1 : zComN zrr (kk + 1) = zComN zrr kk := by
                           show (if zBetter zrr (zComN zrr kk) kk then (kk : Int) else zComN zrr kk) = _
                           rw [if_neg (by omega)]
                         rw [e1, e2] at q1
                         exact k_sub q1 (And.intro rfl (And.intro rfl (And.intro rfl trivial)))))
                · try (exfalso; omega)
                  all_goals (
                    refine k_iload_n C dX8_comer_41 rfl ?_
                    refine k_iconst C dX8_comer_42 ?_
                    refine k_icmp_eq (tgt := 71) C dX8_comer_43 (by decide) ⟨by omega, by omega⟩ ⟨by omega, by omega⟩ (fun c43 => ?_) (fun c43 => ?_)
                    · try (exfalso; omega)
                      all_goals (
                        refine k_iload_n C dX8_comer_71 rfl ?_
                        refine k_goto (tgt := 76) C dX8_comer_72 (by decide) ?_
                        refine k_istore_n C dX8_comer_76 (by decide) rfl ?_
                        refine k_iinc C dX8_comer_77 rfl (by decide) rfl ?_
                        refine k_goto (tgt := 4) C dX8_comer_80 (by decide) ?_
                        have e2 : ((kk + 1 : Nat) : Int) = (kk : Int) + 1 := by omega
                        have q1 := ih (kk + 1) (by omega) (by omega)
                        first
                          | (have e1 : zComN zrr (kk + 1) = (kk : Int) := by
                               show (if zBetter zrr (zComN zrr kk) kk then (kk : Int) else zComN zrr kk) = _
                               rw [if_pos (by omega)]
                             rw [e1, e2] at q1
                             exact k_sub q1 (And.intro rfl (And.intro rfl (And.intro rfl trivial))))
                          | (have e1 : zComN zrr (kk + 1) = zComN zrr kk := by
                               show (if zBetter zrr (zComN zrr kk) kk then (kk : Int) else zComN zrr kk) = _
                               rw [if_neg (by omega)]
                             rw [e1, e2] at q1
                             exact k_sub q1 (And.intro rfl (And.intro rfl (And.intro rfl trivial)))))
                    · try (exfalso; omega)
                      all_goals (
                        have w1 := hwi kk (by omega) (by omega)
                        have w2 := hwi (zComN zrr kk) (by omega) (by omega)
                        refine k_aload_n C dX8_comer_46 rfl ?_
                        refine k_get C (k := 0) inX8 (ci := 8) rfl (by decide) fl_X8_7 dX8_comer_47 (by repeat (first | exact hs_eq _ _ _ | refine hs_ne (by omega) ?_ | assumption)) rfl ?_
                        refine k_iload_n C dX8_comer_50 rfl ?_
                        refine k_callS C (n := 1) (as := [_]) (ct_X8_at l D tc base _ _) ml_X8_36 sm_X8_at ini_X8 co_X8_at ⟨by decide, by decide, by decide +kernel⟩ rfl ⟨by decide, by decide⟩ rfl (Nat.le_of_ble_eq_true rfl) ⟨Nat.zero_le _, Nat.zero_le _⟩ dX8_comer_51 ?_
                        rintro _ _ ⟨rfl, rfl⟩
                        refine k_iconst C dX8_comer_54 ?_
                        refine k_iadd C dX8_comer_55 ?_
                        refine k_iaload C dX8_comer_56 (by repeat (first | exact hs_eq _ _ _ | refine hs_ne (by omega) ?_ | assumption)) (by omega) (by omega) (by omega) ?_
                        refine k_aload_n C dX8_comer_57 rfl ?_
                        refine k_get C (k := 0) inX8 (ci := 8) rfl (by decide) fl_X8_7 dX8_comer_58 (by repeat (first | exact hs_eq _ _ _ | refine hs_ne (by omega) ?_ | assumption)) rfl ?_
                        refine k_iload_n C dX8_comer_61 rfl ?_
                        refine k_callS C (n := 1) (as := [_]) (ct_X8_at l D tc base _ _) ml_X8_36 sm_X8_at ini_X8 co_X8_at ⟨by decide, by decide, by decide +kernel⟩ rfl ⟨by decide, by decide⟩ rfl (Nat.le_of_ble_eq_true rfl) ⟨Nat.zero_le _, Nat.zero_le _⟩ dX8_comer_62 ?_
                        rintro _ _ ⟨rfl, rfl⟩
                        refine k_iconst C dX8_comer_65 ?_
                        refine k_iadd C dX8_comer_66 ?_
                        refine k_iaload C dX8_comer_67 (by repeat (first | exact hs_eq _ _ _ | refine hs_ne (by omega) ?_ | assumption)) (by omega) (by omega) (by omega) ?_
                        refine k_icmp_ge (tgt := 75) C dX8_comer_68 (by decide) ⟨by omega, by omega⟩ ⟨by omega, by omega⟩ (fun c68 => ?_) (fun c68 => ?_)
                        · try (exfalso; omega)
                          all_goals (
                            refine k_iload_n C dX8_comer_75 rfl ?_
                            refine k_istore_n C dX8_comer_76 (by decide) rfl ?_
                            refine k_iinc C dX8_comer_77 rfl (by decide) rfl ?_
                            refine k_goto (tgt := 4) C dX8_comer_80 (by decide) ?_
                            have e2 : ((kk + 1 : Nat) : Int) = (kk : Int) + 1 := by omega
                            have q1 := ih (kk + 1) (by omega) (by omega)
                            first
                              | (have e1 : zComN zrr (kk + 1) = (kk : Int) := by
                                   show (if zBetter zrr (zComN zrr kk) kk then (kk : Int) else zComN zrr kk) = _
                                   rw [if_pos (by omega)]
                                 rw [e1, e2] at q1
                                 exact k_sub q1 (And.intro rfl (And.intro rfl (And.intro rfl trivial))))
                              | (have e1 : zComN zrr (kk + 1) = zComN zrr kk := by
                                   show (if zBetter zrr (zComN zrr kk) kk then (kk : Int) else zComN zrr kk) = _
                                   rw [if_neg (by omega)]
                                 rw [e1, e2] at q1
                                 exact k_sub q1 (And.intro rfl (And.intro rfl (And.intro rfl trivial)))))
                        · try (exfalso; omega)
                          all_goals (
                            refine k_iload_n C dX8_comer_71 rfl ?_
                            refine k_goto (tgt := 76) C dX8_comer_72 (by decide) ?_
                            refine k_istore_n C dX8_comer_76 (by decide) rfl ?_
                            refine k_iinc C dX8_comer_77 rfl (by decide) rfl ?_
                            refine k_goto (tgt := 4) C dX8_comer_80 (by decide) ?_
                            have e2 : ((kk + 1 : Nat) : Int) = (kk : Int) + 1 := by omega
                            have q1 := ih (kk + 1) (by omega) (by omega)
                            first
                              | (have e1 : zComN zrr (kk + 1) = (kk : Int) := by
                                   show (if zBetter zrr (zComN zrr kk) kk then (kk : Int) else zComN zrr kk) = _
                                   rw [if_pos (by omega)]
                                 rw [e1, e2] at q1
                                 exact k_sub q1 (And.intro rfl (And.intro rfl (And.intro rfl trivial))))
                              | (have e1 : zComN zrr (kk + 1) = zComN zrr kk := by
                                   show (if zBetter zrr (zComN zrr kk) kk then (kk : Int) else zComN zrr kk) = _
                                   rw [if_neg (by omega)]
                                 rw [e1, e2] at q1
                                 exact k_sub q1 (And.intro rfl (And.intro rfl (And.intro rfl trivial))))))))
            · try (exfalso; omega)
              all_goals (
                refine k_aload_n C dX8_comer_23 rfl ?_
                refine k_iload_n C dX8_comer_24 rfl ?_
                refine k_callV C (n := 1) (as := [_]) (ct_X8_isKept l D tc base obb zqq fss _ _ (by repeat (first | exact hs_eq _ _ _ | refine hs_ne (by omega) ?_ | assumption)) (by repeat (first | exact hs_eq _ _ _ | refine hs_ne (by omega) ?_ | assumption)) hne _ (by omega) (by omega) hi) ml_X8_43 im_X8_isKept se_X8_isKept ini_X8 co_X8_isKept ⟨rfl, by decide, by decide, by decide +kernel⟩ rfl (ci := 8) rfl (by repeat (first | exact hs_eq _ _ _ | refine hs_ne (by omega) ?_ | assumption)) ⟨by decide, by decide⟩ rfl (Nat.le_of_ble_eq_true rfl) ⟨Nat.zero_le _, Nat.zero_le _⟩ dX8_comer_25 ?_
                rintro _ _ (⟨rfl, rfl, hq25⟩ | ⟨rfl, rfl, hq25⟩)
                · skip
                  refine k_if_ne (tgt := 35) C dX8_comer_28 (by decide) ⟨by omega, by omega⟩ (fun c28 => ?_) (fun c28 => ?_)
                  · try (exfalso; omega)
                    all_goals (
                      refine k_iconst C dX8_comer_35 ?_
                      refine k_istore_n C dX8_comer_36 (by decide) rfl ?_
                      refine k_iload_n C dX8_comer_37 rfl ?_
                      refine k_if_eq (tgt := 75) C dX8_comer_38 (by decide) ⟨by omega, by omega⟩ (fun c38 => ?_) (fun c38 => ?_)
                      · try (exfalso; omega)
                        all_goals (
                          refine k_iload_n C dX8_comer_75 rfl ?_
                          refine k_istore_n C dX8_comer_76 (by decide) rfl ?_
                          refine k_iinc C dX8_comer_77 rfl (by decide) rfl ?_
                          refine k_goto (tgt := 4) C dX8_comer_80 (by decide) ?_
                          have e2 : ((kk + 1 : Nat) : Int) = (kk : Int) + 1 := by omega
                          have q1 := ih (kk + 1) (by omega) (by omega)
                          first
                            | (have e1 : zComN zrr (kk + 1) = (kk : Int) := by
                                 show (if zBetter zrr (zComN zrr kk) kk then (kk : Int) else zComN zrr kk) = _
                                 rw [if_pos (by omega)]
                               rw [e1, e2] at q1
                               exact k_sub q1 (And.intro rfl (And.intro rfl (And.intro rfl trivial))))
                            | (have e1 : zComN zrr (kk + 1) = zComN zrr kk := by
                                 show (if zBetter zrr (zComN zrr kk) kk then (kk : Int) else zComN zrr kk) = _
                                 rw [if_neg (by omega)]
                               rw [e1, e2] at q1
                               exact k_sub q1 (And.intro rfl (And.intro rfl (And.intro rfl trivial)))))
                      · try (exfalso; omega)
                        all_goals (
                          refine k_iload_n C dX8_comer_41 rfl ?_
                          refine k_iconst C dX8_comer_42 ?_
                          refine k_icmp_eq (tgt := 71) C dX8_comer_43 (by decide) ⟨by omega, by omega⟩ ⟨by omega, by omega⟩ (fun c43 => ?_) (fun c43 => ?_)
                          · try (exfalso; omega)
                            all_goals (
                              refine k_iload_n C dX8_comer_71 rfl ?_
                              refine k_goto (tgt := 76) C dX8_comer_72 (by decide) ?_
                              refine k_istore_n C dX8_comer_76 (by decide) rfl ?_
                              refine k_iinc C dX8_comer_77 rfl (by decide) rfl ?_
                              refine k_goto (tgt := 4) C dX8_comer_80 (by decide) ?_
                              have e2 : ((kk + 1 : Nat) : Int) = (kk : Int) + 1 := by omega
                              have q1 := ih (kk + 1) (by omega) (by omega)
                              first
                                | (have e1 : zComN zrr (kk + 1) = (kk : Int) := by
                                     show (if zBetter zrr (zComN zrr kk) kk then (kk : Int) else zComN zrr kk) = _
                                     rw [if_pos (by omega)]
                                   rw [e1, e2] at q1
                                   exact k_sub q1 (And.intro rfl (And.intro rfl (And.intro rfl trivial))))
                                | (have e1 : zComN zrr (kk + 1) = zComN zrr kk := by
                                     show (if zBetter zrr (zComN zrr kk) kk then (kk : Int) else zComN zrr kk) = _
                                     rw [if_neg (by omega)]
                                   rw [e1, e2] at q1
                                   exact k_sub q1 (And.intro rfl (And.intro rfl (And.intro rfl trivial)))))
                          · try (exfalso; omega)
                            all_goals (
                              have w1 := hwi kk (by omega) (by omega)
                              have w2 := hwi (zComN zrr kk) (by omega) (by omega)
                              refine k_aload_n C dX8_comer_46 rfl ?_
                              refine k_get C (k := 0) inX8 (ci := 8) rfl (by decide) fl_X8_7 dX8_comer_47 (by repeat (first | exact hs_eq _ _ _ | refine hs_ne (by omega) ?_ | assumption)) rfl ?_
                              refine k_iload_n C dX8_comer_50 rfl ?_
                              refine k_callS C (n := 1) (as := [_]) (ct_X8_at l D tc base _ _) ml_X8_36 sm_X8_at ini_X8 co_X8_at ⟨by decide, by decide, by decide +kernel⟩ rfl ⟨by decide, by decide⟩ rfl (Nat.le_of_ble_eq_true rfl) ⟨Nat.zero_le _, Nat.zero_le _⟩ dX8_comer_51 ?_
                              rintro _ _ ⟨rfl, rfl⟩
                              refine k_iconst C dX8_comer_54 ?_
                              refine k_iadd C dX8_comer_55 ?_
                              refine k_iaload C dX8_comer_56 (by repeat (first | exact hs_eq _ _ _ | refine hs_ne (by omega) ?_ | assumption)) (by omega) (by omega) (by omega) ?_
                              refine k_aload_n C dX8_comer_57 rfl ?_
                              refine k_get C (k := 0) inX8 (ci := 8) rfl (by decide) fl_X8_7 dX8_comer_58 (by repeat (first | exact hs_eq _ _ _ | refine hs_ne (by omega) ?_ | assumption)) rfl ?_
                              refine k_iload_n C dX8_comer_61 rfl ?_
                              refine k_callS C (n := 1) (as := [_]) (ct_X8_at l D tc base _ _) ml_X8_36 sm_X8_at ini_X8 co_X8_at ⟨by decide, by decide, by decide +kernel⟩ rfl ⟨by decide, by decide⟩ rfl (Nat.le_of_ble_eq_true rfl) ⟨Nat.zero_le _, Nat.zero_le _⟩ dX8_comer_62 ?_
                              rintro _ _ ⟨rfl, rfl⟩
                              refine k_iconst C dX8_comer_65 ?_
                              refine k_iadd C dX8_comer_66 ?_
                              refine k_iaload C dX8_comer_67 (by repeat (first | exact hs_eq _ _ _ | refine hs_ne (by omega) ?_ | assumption)) (by omega) (by omega) (by omega) ?_
                              refine k_icmp_ge (tgt := 75) C dX8_comer_68 (by decide) ⟨by omega, by omega⟩ ⟨by omega, by omega⟩ (fun c68 => ?_) (fun c68 => ?_)
                              · try (exfalso; omega)
                                all_goals (
                                  refine k_iload_n C dX8_comer_75 rfl ?_
                                  refine k_istore_n C dX8_comer_76 (by decide) rfl ?_
                                  refine k_iinc C dX8_comer_77 rfl (by decide) rfl ?_
                                  refine k_goto (tgt := 4) C dX8_comer_80 (by decide) ?_
                                  have e2 : ((kk + 1 : Nat) : Int) = (kk : Int) + 1 := by omega
                                  have q1 := ih (kk + 1) (by omega) (by omega)
                                  first
                                    | (have e1 : zComN zrr (kk + 1) = (kk : Int) := by
                                         show (if zBetter zrr (zComN zrr kk) kk then (kk : Int) else zComN zrr kk) = _
                                         rw [if_pos (by omega)]
                                       rw [e1, e2] at q1
                                       exact k_sub q1 (And.intro rfl (And.intro rfl (And.intro rfl trivial))))
                                    | (have e1 : zComN zrr (kk + 1) = zComN zrr kk := by
                                         show (if zBetter zrr (zComN zrr kk) kk then (kk : Int) else zComN zrr kk) = _
                                         rw [if_neg (by omega)]
                                       rw [e1, e2] at q1
                                       exact k_sub q1 (And.intro rfl (And.intro rfl (And.intro rfl trivial)))))
                              · try (exfalso; omega)
                                all_goals (
                                  refine k_iload_n C dX8_comer_71 rfl ?_
                                  refine k_goto (tgt := 76) C dX8_comer_72 (by decide) ?_
                                  refine k_istore_n C dX8_comer_76 (by decide) rfl ?_
                                  refine k_iinc C dX8_comer_77 rfl (by decide) rfl ?_
                                  refine k_goto (tgt := 4) C dX8_comer_80 (by decide) ?_
                                  have e2 : ((kk + 1 : Nat) : Int) = (kk : Int) + 1 := by omega
                                  have q1 := ih (kk + 1) (by omega) (by omega)
                                  first
                                    | (have e1 : zComN zrr (kk + 1) = (kk : Int) := by
                                         show (if zBetter zrr (zComN zrr kk) kk then (kk : Int) else zComN zrr kk) = _
                                         rw [if_pos (by omega)]
                                       rw [e1, e2] at q1
                                       exact k_sub q1 (And.intro rfl (And.intro rfl (And.intro rfl trivial))))
                                    | (have e1 : zComN zrr (kk + 1) = zComN zrr kk := by
                                         show (if zBetter zrr (zComN zrr kk) kk then (kk : Int) else zComN zrr kk) = _
                                         rw [if_neg (by omega)]
                                       rw [e1, e2] at q1
                                       exact k_sub q1 (And.intro rfl (And.intro rfl (And.intro rfl trivial))))))))
                  · try (exfalso; omega)
                    all_goals (
                      refine k_iconst C dX8_comer_31 ?_
                      refine k_goto (tgt := 36) C dX8_comer_32 (by decide) ?_
                      refine k_istore_n C dX8_comer_36 (by decide) rfl ?_
                      refine k_iload_n C dX8_comer_37 rfl ?_
                      refine k_if_eq (tgt := 75) C dX8_comer_38 (by decide) ⟨by omega, by omega⟩ (fun c38 => ?_) (fun c38 => ?_)
                      · try (exfalso; omega)
                        all_goals (
                          refine k_iload_n C dX8_comer_75 rfl ?_
                          refine k_istore_n C dX8_comer_76 (by decide) rfl ?_
                          refine k_iinc C dX8_comer_77 rfl (by decide) rfl ?_
                          refine k_goto (tgt := 4) C dX8_comer_80 (by decide) ?_
                          have e2 : ((kk + 1 : Nat) : Int) = (kk : Int) + 1 := by omega
                          have q1 := ih (kk + 1) (by omega) (by omega)
                          first
                            | (have e1 : zComN zrr (kk + 1) = (kk : Int) := by
                                 show (if zBetter zrr (zComN zrr kk) kk then (kk : Int) else zComN zrr kk) = _
                                 rw [if_pos (by omega)]
                               rw [e1, e2] at q1
                               exact k_sub q1 (And.intro rfl (And.intro rfl (And.intro rfl trivial))))
                            | (have e1 : zComN zrr (kk + 1) = zComN zrr kk := by
                                 show (if zBetter zrr (zComN zrr kk) kk then (kk : Int) else zComN zrr kk) = _
                                 rw [if_neg (by omega)]
                               rw [e1, e2] at q1
                               exact k_sub q1 (And.intro rfl (And.intro rfl (And.intro rfl trivial)))))
                      · try (exfalso; omega)
                        all_goals (
                          refine k_iload_n C dX8_comer_41 rfl ?_
                          refine k_iconst C dX8_comer_42 ?_
                          refine k_icmp_eq (tgt := 71) C dX8_comer_43 (by decide) ⟨by omega, by omega⟩ ⟨by omega, by omega⟩ (fun c43 => ?_) (fun c43 => ?_)
                          · try (exfalso; omega)
                            all_goals (
                              refine k_iload_n C dX8_comer_71 rfl ?_
                              refine k_goto (tgt := 76) C dX8_comer_72 (by decide) ?_
                              refine k_istore_n C dX8_comer_76 (by decide) rfl ?_
                              refine k_iinc C dX8_comer_77 rfl (by decide) rfl ?_
                              refine k_goto (tgt := 4) C dX8_comer_80 (by decide) ?_
                              have e2 : ((kk + 1 : Nat) : Int) = (kk : Int) + 1 := by omega
                              have q1 := ih (kk + 1) (by omega) (by omega)
                              first
                                | (have e1 : zComN zrr (kk + 1) = (kk : Int) := by
                                     show (if zBetter zrr (zComN zrr kk) kk then (kk : Int) else zComN zrr kk) = _
                                     rw [if_pos (by omega)]
                                   rw [e1, e2] at q1
                                   exact k_sub q1 (And.intro rfl (And.intro rfl (And.intro rfl trivial))))
                                | (have e1 : zComN zrr (kk + 1) = zComN zrr kk := by
                                     show (if zBetter zrr (zComN zrr kk) kk then (kk : Int) else zComN zrr kk) = _
                                     rw [if_neg (by omega)]
                                   rw [e1, e2] at q1
                                   exact k_sub q1 (And.intro rfl (And.intro rfl (And.intro rfl trivial)))))
                          · try (exfalso; omega)
                            all_goals (
                              have w1 := hwi kk (by omega) (by omega)
                              have w2 := hwi (zComN zrr kk) (by omega) (by omega)
                              refine k_aload_n C dX8_comer_46 rfl ?_
                              refine k_get C (k := 0) inX8 (ci := 8) rfl (by decide) fl_X8_7 dX8_comer_47 (by repeat (first | exact hs_eq _ _ _ | refine hs_ne (by omega) ?_ | assumption)) rfl ?_
                              refine k_iload_n C dX8_comer_50 rfl ?_
                              refine k_callS C (n := 1) (as := [_]) (ct_X8_at l D tc base _ _) ml_X8_36 sm_X8_at ini_X8 co_X8_at ⟨by decide, by decide, by decide +kernel⟩ rfl ⟨by decide, by decide⟩ rfl (Nat.le_of_ble_eq_true rfl) ⟨Nat.zero_le _, Nat.zero_le _⟩ dX8_comer_51 ?_
                              rintro _ _ ⟨rfl, rfl⟩
                              refine k_iconst C dX8_comer_54 ?_
                              refine k_iadd C dX8_comer_55 ?_
                              refine k_iaload C dX8_comer_56 (by repeat (first | exact hs_eq _ _ _ | refine hs_ne (by omega) ?_ | assumption)) (by omega) (by omega) (by omega) ?_
                              refine k_aload_n C dX8_comer_57 rfl ?_
                              refine k_get C (k := 0) inX8 (ci := 8) rfl (by decide) fl_X8_7 dX8_comer_58 (by repeat (first | exact hs_eq _ _ _ | refine hs_ne (by omega) ?_ | assumption)) rfl ?_
                              refine k_iload_n C dX8_comer_61 rfl ?_
                              refine k_callS C (n := 1) (as := [_]) (ct_X8_at l D tc base _ _) ml_X8_36 sm_X8_at ini_X8 co_X8_at ⟨by decide, by decide, by decide +kernel⟩ rfl ⟨by decide, by decide⟩ rfl (Nat.le_of_ble_eq_true rfl) ⟨Nat.zero_le _, Nat.zero_le _⟩ dX8_comer_62 ?_
                              rintro _ _ ⟨rfl, rfl⟩
                              refine k_iconst C dX8_comer_65 ?_
                              refine k_iadd C dX8_comer_66 ?_
                              refine k_iaload C dX8_comer_67 (by repeat (first | exact hs_eq _ _ _ | refine hs_ne (by omega) ?_ | assumption)) (by omega) (by omega) (by omega) ?_
                              refine k_icmp_ge (tgt := 75) C dX8_comer_68 (by decide) ⟨by omega, by omega⟩ ⟨by omega, by omega⟩ (fun c68 => ?_) (fun c68 => ?_)
                              · try (exfalso; omega)
                                all_goals (
                                  refine k_iload_n C dX8_comer_75 rfl ?_
                                  refine k_istore_n C dX8_comer_76 (by decide) rfl ?_
                                  refine k_iinc C dX8_comer_77 rfl (by decide) rfl ?_
                                  refine k_goto (tgt := 4) C dX8_comer_80 (by decide) ?_
                                  have e2 : ((kk + 1 : Nat) : Int) = (kk : Int) + 1 := by omega
                                  have q1 := ih (kk + 1) (by omega) (by omega)
                                  first
                                    | (have e1 : zComN zrr (kk + 1) = (kk : Int) := by
                                         show (if zBetter zrr (zComN zrr kk) kk then (kk : Int) else zComN zrr kk) = _
                                         rw [if_pos (by omega)]
                                       rw [e1, e2] at q1
                                       exact k_sub q1 (And.intro rfl (And.intro rfl (And.intro rfl trivial))))
                                    | (have e1 : zComN zrr (kk + 1) = zComN zrr kk := by
                                         show (if zBetter zrr (zComN zrr kk) kk then (kk : Int) else zComN zrr kk) = _
                                         rw [if_neg (by omega)]
                                       rw [e1, e2] at q1
                                       exact k_sub q1 (And.intro rfl (And.intro rfl (And.intro rfl trivial)))))
                              · try (exfalso; omega)
                                all_goals (
                                  refine k_iload_n C dX8_comer_71 rfl ?_
                                  refine k_goto (tgt := 76) C dX8_comer_72 (by decide) ?_
                                  refine k_istore_n C dX8_comer_76 (by decide) rfl ?_
                                  refine k_iinc C dX8_comer_77 rfl (by decide) rfl ?_
                                  refine k_goto (tgt := 4) C dX8_comer_80 (by decide) ?_
                                  have e2 : ((kk + 1 : Nat) : Int) = (kk : Int) + 1 := by omega
                                  have q1 := ih (kk + 1) (by omega) (by omega)
                                  first
                                    | (have e1 : zComN zrr (kk + 1) = (kk : Int) := by
                                         show (if zBetter zrr (zComN zrr kk) kk then (kk : Int) else zComN zrr kk) = _
                                         rw [if_pos (by omega)]
                                       rw [e1, e2] at q1
                                       exact k_sub q1 (And.intro rfl (And.intro rfl (And.intro rfl trivial))))
                                    | (have e1 : zComN zrr (kk + 1) = zComN zrr kk := by
                                         show (if zBetter zrr (zComN zrr kk) kk then (kk : Int) else zComN zrr kk) = _
                                         rw [if_neg (by omega)]
                                       rw [e1, e2] at q1
                                       exact k_sub q1 (And.intro rfl (And.intro rfl (And.intro rfl trivial))))))))
                · skip
                  refine k_if_ne (tgt := 35) C dX8_comer_28 (by decide) ⟨by omega, by omega⟩ (fun c28 => ?_) (fun c28 => ?_)
                  · try (exfalso; omega)
                    all_goals (
                      refine k_iconst C dX8_comer_35 ?_
                      refine k_istore_n C dX8_comer_36 (by decide) rfl ?_
                      refine k_iload_n C dX8_comer_37 rfl ?_
                      refine k_if_eq (tgt := 75) C dX8_comer_38 (by decide) ⟨by omega, by omega⟩ (fun c38 => ?_) (fun c38 => ?_)
                      · try (exfalso; omega)
                        all_goals (
                          refine k_iload_n C dX8_comer_75 rfl ?_
                          refine k_istore_n C dX8_comer_76 (by decide) rfl ?_
                          refine k_iinc C dX8_comer_77 rfl (by decide) rfl ?_
                          refine k_goto (tgt := 4) C dX8_comer_80 (by decide) ?_
                          have e2 : ((kk + 1 : Nat) : Int) = (kk : Int) + 1 := by omega
                          have q1 := ih (kk + 1) (by omega) (by omega)
                          first
                            | (have e1 : zComN zrr (kk + 1) = (kk : Int) := by
                                 show (if zBetter zrr (zComN zrr kk) kk then (kk : Int) else zComN zrr kk) = _
                                 rw [if_pos (by omega)]
                               rw [e1, e2] at q1
                               exact k_sub q1 (And.intro rfl (And.intro rfl (And.intro rfl trivial))))
                            | (have e1 : zComN zrr (kk + 1) = zComN zrr kk := by
                                 show (if zBetter zrr (zComN zrr kk) kk then (kk : Int) else zComN zrr kk) = _
                                 rw [if_neg (by omega)]
                               rw [e1, e2] at q1
                               exact k_sub q1 (And.intro rfl (And.intro rfl (And.intro rfl trivial)))))
                      · try (exfalso; omega)
                        all_goals (
                          refine k_iload_n C dX8_comer_41 rfl ?_
                          refine k_iconst C dX8_comer_42 ?_
                          refine k_icmp_eq (tgt := 71) C dX8_comer_43 (by decide) ⟨by omega, by omega⟩ ⟨by omega, by omega⟩ (fun c43 => ?_) (fun c43 => ?_)
                          · try (exfalso; omega)
                            all_goals (
                              refine k_iload_n C dX8_comer_71 rfl ?_
                              refine k_goto (tgt := 76) C dX8_comer_72 (by decide) ?_
                              refine k_istore_n C dX8_comer_76 (by decide) rfl ?_
                              refine k_iinc C dX8_comer_77 rfl (by decide) rfl ?_
                              refine k_goto (tgt := 4) C dX8_comer_80 (by decide) ?_
                              have e2 : ((kk + 1 : Nat) : Int) = (kk : Int) + 1 := by omega
                              have q1 := ih (kk + 1) (by omega) (by omega)
                              first
                                | (have e1 : zComN zrr (kk + 1) = (kk : Int) := by
                                     show (if zBetter zrr (zComN zrr kk) kk then (kk : Int) else zComN zrr kk) = _
                                     rw [if_pos (by omega)]
                                   rw [e1, e2] at q1
                                   exact k_sub q1 (And.intro rfl (And.intro rfl (And.intro rfl trivial))))
                                | (have e1 : zComN zrr (kk + 1) = zComN zrr kk := by
                                     show (if zBetter zrr (zComN zrr kk) kk then (kk : Int) else zComN zrr kk) = _
                                     rw [if_neg (by omega)]
                                   rw [e1, e2] at q1
                                   exact k_sub q1 (And.intro rfl (And.intro rfl (And.intro rfl trivial)))))
                          · try (exfalso; omega)
                            all_goals (
                              have w1 := hwi kk (by omega) (by omega)
                              have w2 := hwi (zComN zrr kk) (by omega) (by omega)
                              refine k_aload_n C dX8_comer_46 rfl ?_
                              refine k_get C (k := 0) inX8 (ci := 8) rfl (by decide) fl_X8_7 dX8_comer_47 (by repeat (first | exact hs_eq _ _ _ | refine hs_ne (by omega) ?_ | assumption)) rfl ?_
                              refine k_iload_n C dX8_comer_50 rfl ?_
                              refine k_callS C (n := 1) (as := [_]) (ct_X8_at l D tc base _ _) ml_X8_36 sm_X8_at ini_X8 co_X8_at ⟨by decide, by decide, by decide +kernel⟩ rfl ⟨by decide, by decide⟩ rfl (Nat.le_of_ble_eq_true rfl) ⟨Nat.zero_le _, Nat.zero_le _⟩ dX8_comer_51 ?_
                              rintro _ _ ⟨rfl, rfl⟩
                              refine k_iconst C dX8_comer_54 ?_
                              refine k_iadd C dX8_comer_55 ?_
                              refine k_iaload C dX8_comer_56 (by repeat (first | exact hs_eq _ _ _ | refine hs_ne (by omega) ?_ | assumption)) (by omega) (by omega) (by omega) ?_
                              refine k_aload_n C dX8_comer_57 rfl ?_
                              refine k_get C (k := 0) inX8 (ci := 8) rfl (by decide) fl_X8_7 dX8_comer_58 (by repeat (first | exact hs_eq _ _ _ | refine hs_ne (by omega) ?_ | assumption)) rfl ?_
                              refine k_iload_n C dX8_comer_61 rfl ?_
                              refine k_callS C (n := 1) (as := [_]) (ct_X8_at l D tc base _ _) ml_X8_36 sm_X8_at ini_X8 co_X8_at ⟨by decide, by decide, by decide +kernel⟩ rfl ⟨by decide, by decide⟩ rfl (Nat.le_of_ble_eq_true rfl) ⟨Nat.zero_le _, Nat.zero_le _⟩ dX8_comer_62 ?_
                              rintro _ _ ⟨rfl, rfl⟩
                              refine k_iconst C dX8_comer_65 ?_
                              refine k_iadd C dX8_comer_66 ?_
                              refine k_iaload C dX8_comer_67 (by repeat (first | exact hs_eq _ _ _ | refine hs_ne (by omega) ?_ | assumption)) (by omega) (by omega) (by omega) ?_
                              refine k_icmp_ge (tgt := 75) C dX8_comer_68 (by decide) ⟨by omega, by omega⟩ ⟨by omega, by omega⟩ (fun c68 => ?_) (fun c68 => ?_)
                              · try (exfalso; omega)
                                all_goals (
                                  refine k_iload_n C dX8_comer_75 rfl ?_
                                  refine k_istore_n C dX8_comer_76 (by decide) rfl ?_
                                  refine k_iinc C dX8_comer_77 rfl (by decide) rfl ?_
                                  refine k_goto (tgt := 4) C dX8_comer_80 (by decide) ?_
                                  have e2 : ((kk + 1 : Nat) : Int) = (kk : Int) + 1 := by omega
                                  have q1 := ih (kk + 1) (by omega) (by omega)
                                  first
                                    | (have e1 : zComN zrr (kk + 1) = (kk : Int) := by
                                         show (if zBetter zrr (zComN zrr kk) kk then (kk : Int) else zComN zrr kk) = _
                                         rw [if_pos (by omega)]
                                       rw [e1, e2] at q1
                                       exact k_sub q1 (And.intro rfl (And.intro rfl (And.intro rfl trivial))))
                                    | (have e1 : zComN zrr (kk + 1) = zComN zrr kk := by
                                         show (if zBetter zrr (zComN zrr kk) kk then (kk : Int) else zComN zrr kk) = _
                                         rw [if_neg (by omega)]
                                       rw [e1, e2] at q1
                                       exact k_sub q1 (And.intro rfl (And.intro rfl (And.intro rfl trivial)))))
                              · try (exfalso; omega)
                                all_goals (
                                  refine k_iload_n C dX8_comer_71 rfl ?_
                                  refine k_goto (tgt := 76) C dX8_comer_72 (by decide) ?_
                                  refine k_istore_n C dX8_comer_76 (by decide) rfl ?_
                                  refine k_iinc C dX8_comer_77 rfl (by decide) rfl ?_
                                  refine k_goto (tgt := 4) C dX8_comer_80 (by decide) ?_
                                  have e2 : ((kk + 1 : Nat) : Int) = (kk : Int) + 1 := by omega
                                  have q1 := ih (kk + 1) (by omega) (by omega)
                                  first
                                    | (have e1 : zComN zrr (kk + 1) = (kk : Int) := by
                                         show (if zBetter zrr (zComN zrr kk) kk then (kk : Int) else zComN zrr kk) = _
                                         rw [if_pos (by omega)]
                                       rw [e1, e2] at q1
                                       exact k_sub q1 (And.intro rfl (And.intro rfl (And.intro rfl trivial))))
                                    | (have e1 : zComN zrr (kk + 1) = zComN zrr kk := by
                                         show (if zBetter zrr (zComN zrr kk) kk then (kk : Int) else zComN zrr kk) = _
                                         rw [if_neg (by omega)]
                                       rw [e1, e2] at q1
                                       exact k_sub q1 (And.intro rfl (And.intro rfl (And.intro rfl trivial))))))))
                  · try (exfalso; omega)
                    all_goals (
                      refine k_iconst C dX8_comer_31 ?_
                      refine k_goto (tgt := 36) C dX8_comer_32 (by decide) ?_
                      refine k_istore_n C dX8_comer_36 (by decide) rfl ?_
                      refine k_iload_n C dX8_comer_37 rfl ?_
                      refine k_if_eq (tgt := 75) C dX8_comer_38 (by decide) ⟨by omega, by omega⟩ (fun c38 => ?_) (fun c38 => ?_)
                      · try (exfalso; omega)
                        all_goals (
                          refine k_iload_n C dX8_comer_75 rfl ?_
                          refine k_istore_n C dX8_comer_76 (by decide) rfl ?_
                          refine k_iinc C dX8_comer_77 rfl (by decide) rfl ?_
                          refine k_goto (tgt := 4) C dX8_comer_80 (by decide) ?_
                          have e2 : ((kk + 1 : Nat) : Int) = (kk : Int) + 1 := by omega
                          have q1 := ih (kk + 1) (by omega) (by omega)
                          first
                            | (have e1 : zComN zrr (kk + 1) = (kk : Int) := by
                                 show (if zBetter zrr (zComN zrr kk) kk then (kk : Int) else zComN zrr kk) = _
                                 rw [if_pos (by omega)]
                               rw [e1, e2] at q1
                               exact k_sub q1 (And.intro rfl (And.intro rfl (And.intro rfl trivial))))
                            | (have e1 : zComN zrr (kk + 1) = zComN zrr kk := by
                                 show (if zBetter zrr (zComN zrr kk) kk then (kk : Int) else zComN zrr kk) = _
                                 rw [if_neg (by omega)]
                               rw [e1, e2] at q1
                               exact k_sub q1 (And.intro rfl (And.intro rfl (And.intro rfl trivial)))))
                      · try (exfalso; omega)
                        all_goals (
                          refine k_iload_n C dX8_comer_41 rfl ?_
                          refine k_iconst C dX8_comer_42 ?_
                          refine k_icmp_eq (tgt := 71) C dX8_comer_43 (by decide) ⟨by omega, by omega⟩ ⟨by omega, by omega⟩ (fun c43 => ?_) (fun c43 => ?_)
                          · try (exfalso; omega)
                            all_goals (
                              refine k_iload_n C dX8_comer_71 rfl ?_
                              refine k_goto (tgt := 76) C dX8_comer_72 (by decide) ?_
                              refine k_istore_n C dX8_comer_76 (by decide) rfl ?_
                              refine k_iinc C dX8_comer_77 rfl (by decide) rfl ?_
                              refine k_goto (tgt := 4) C dX8_comer_80 (by decide) ?_
                              have e2 : ((kk + 1 : Nat) : Int) = (kk : Int) + 1 := by omega
                              have q1 := ih (kk + 1) (by omega) (by omega)
                              first
                                | (have e1 : zComN zrr (kk + 1) = (kk : Int) := by
                                     show (if zBetter zrr (zComN zrr kk) kk then (kk : Int) else zComN zrr kk) = _
                                     rw [if_pos (by omega)]
                                   rw [e1, e2] at q1
                                   exact k_sub q1 (And.intro rfl (And.intro rfl (And.intro rfl trivial))))
                                | (have e1 : zComN zrr (kk + 1) = zComN zrr kk := by
                                     show (if zBetter zrr (zComN zrr kk) kk then (kk : Int) else zComN zrr kk) = _
                                     rw [if_neg (by omega)]
                                   rw [e1, e2] at q1
                                   exact k_sub q1 (And.intro rfl (And.intro rfl (And.intro rfl trivial)))))
                          · try (exfalso; omega)
                            all_goals (
                              have w1 := hwi kk (by omega) (by omega)
                              have w2 := hwi (zComN zrr kk) (by omega) (by omega)
                              refine k_aload_n C dX8_comer_46 rfl ?_
                              refine k_get C (k := 0) inX8 (ci := 8) rfl (by decide) fl_X8_7 dX8_comer_47 (by repeat (first | exact hs_eq _ _ _ | refine hs_ne (by omega) ?_ | assumption)) rfl ?_
                              refine k_iload_n C dX8_comer_50 rfl ?_
                              refine k_callS C (n := 1) (as := [_]) (ct_X8_at l D tc base _ _) ml_X8_36 sm_X8_at ini_X8 co_X8_at ⟨by decide, by decide, by decide +kernel⟩ rfl ⟨by decide, by decide⟩ rfl (Nat.le_of_ble_eq_true rfl) ⟨Nat.zero_le _, Nat.zero_le _⟩ dX8_comer_51 ?_
                              rintro _ _ ⟨rfl, rfl⟩
                              refine k_iconst C dX8_comer_54 ?_
                              refine k_iadd C dX8_comer_55 ?_
                              refine k_iaload C dX8_comer_56 (by repeat (first | exact hs_eq _ _ _ | refine hs_ne (by omega) ?_ | assumption)) (by omega) (by omega) (by omega) ?_
                              refine k_aload_n C dX8_comer_57 rfl ?_
                              refine k_get C (k := 0) inX8 (ci := 8) rfl (by decide) fl_X8_7 dX8_comer_58 (by repeat (first | exact hs_eq _ _ _ | refine hs_ne (by omega) ?_ | assumption)) rfl ?_
                              refine k_iload_n C dX8_comer_61 rfl ?_
                              refine k_callS C (n := 1) (as := [_]) (ct_X8_at l D tc base _ _) ml_X8_36 sm_X8_at ini_X8 co_X8_at ⟨by decide, by decide, by decide +kernel⟩ rfl ⟨by decide, by decide⟩ rfl (Nat.le_of_ble_eq_true rfl) ⟨Nat.zero_le _, Nat.zero_le _⟩ dX8_comer_62 ?_
                              rintro _ _ ⟨rfl, rfl⟩
                              refine k_iconst C dX8_comer_65 ?_
                              refine k_iadd C dX8_comer_66 ?_
                              refine k_iaload C dX8_comer_67 (by repeat (first | exact hs_eq _ _ _ | refine hs_ne (by omega) ?_ | assumption)) (by omega) (by omega) (by omega) ?_
                              refine k_icmp_ge (tgt := 75) C dX8_comer_68 (by decide) ⟨by omega, by omega⟩ ⟨by omega, by omega⟩ (fun c68 => ?_) (fun c68 => ?_)
                              · try (exfalso; omega)
                                all_goals (
                                  refine k_iload_n C dX8_comer_75 rfl ?_
                                  refine k_istore_n C dX8_comer_76 (by decide) rfl ?_
                                  refine k_iinc C dX8_comer_77 rfl (by decide) rfl ?_
                                  refine k_goto (tgt := 4) C dX8_comer_80 (by decide) ?_
                                  have e2 : ((kk + 1 : Nat) : Int) = (kk : Int) + 1 := by omega
                                  have q1 := ih (kk + 1) (by omega) (by omega)
                                  first
                                    | (have e1 : zComN zrr (kk + 1) = (kk : Int) := by
                                         show (if zBetter zrr (zComN zrr kk) kk then (kk : Int) else zComN zrr kk) = _
                                         rw [if_pos (by omega)]
                                       rw [e1, e2] at q1
                                       exact k_sub q1 (And.intro rfl (And.intro rfl (And.intro rfl trivial))))
                                    | (have e1 : zComN zrr (kk + 1) = zComN zrr kk := by
                                         show (if zBetter zrr (zComN zrr kk) kk then (kk : Int) else zComN zrr kk) = _
                                         rw [if_neg (by omega)]
                                       rw [e1, e2] at q1
                                       exact k_sub q1 (And.intro rfl (And.intro rfl (And.intro rfl trivial)))))
                              · try (exfalso; omega)
                                all_goals (
                                  refine k_iload_n C dX8_comer_71 rfl ?_
                                  refine k_goto (tgt := 76) C dX8_comer_72 (by decide) ?_
                                  refine k_istore_n C dX8_comer_76 (by decide) rfl ?_
                                  refine k_iinc C dX8_comer_77 rfl (by decide) rfl ?_
                                  refine k_goto (tgt := 4) C dX8_comer_80 (by decide) ?_
                                  have e2 : ((kk + 1 : Nat) : Int) = (kk : Int) + 1 := by omega
                                  have q1 := ih (kk + 1) (by omega) (by omega)
                                  first
                                    | (have e1 : zComN zrr (kk + 1) = (kk : Int) := by
                                         show (if zBetter zrr (zComN zrr kk) kk then (kk : Int) else zComN zrr kk) = _
                                         rw [if_pos (by omega)]
                                       rw [e1, e2] at q1
                                       exact k_sub q1 (And.intro rfl (And.intro rfl (And.intro rfl trivial))))
                                    | (have e1 : zComN zrr (kk + 1) = zComN zrr kk := by
                                         show (if zBetter zrr (zComN zrr kk) kk then (kk : Int) else zComN zrr kk) = _
                                         rw [if_neg (by omega)]
                                       rw [e1, e2] at q1
                                       exact k_sub q1 (And.intro rfl (And.intro rfl (And.intro rfl trivial))))))))))
  exact loop4 (zrr 21 + 1).toNat 0 (by omega) (by omega)

set_option maxRecDepth 20000 in
set_option maxHeartbeats 1000000 in
theorem ct_X8_partOne (l : Launch) (D : va_G) (tc : Nat → ClassId) (base : Nat) (obb zqq : Nat) (fss : List AV) (zrr : RZ) (hpp : AH) (hob : hpp obb = some (eO 8 (aR zqq :: fss))) (hzq : hpp zqq = some (eA 0 67 zrr)) (hne : obb ≠ zqq) (hi : zInv zrr) (hm : zrr 13 ≤ 100000) : CT l D tc base yX8_partOne cX8_partOne 3 none 3 [aR obb] hpp (fun r h' => r = none ∧ h' = hs hpp zqq (eA 0 67 (zOne zrr))) := by
  refine CT.of [some (aR obb), none, none] (by decide +kernel) rfl (Nat.le_of_ble_eq_true rfl) ?_
  intro p e s m args below meth c C hr hnm
  obtain ⟨⟨g0, g1, g2, g9, g10, g11, g12, g13, g21, g52, g61, g62, g63, g64, g65, g66⟩, hwi, hde⟩ := id hi
  have hc := zCom_rng hi
  refine k_aload_n C dX8_partOne_0 rfl ?_
  refine k_callV C (n := 0) (as := []) (ct_X8_comer l D tc base obb zqq fss _ _ (by repeat (first | exact hs_eq _ _ _ | refine hs_ne (by omega) ?_ | assumption)) (by repeat (first | exact hs_eq _ _ _ | refine hs_ne (by omega) ?_ | assumption)) hne hi hm) ml_X8_50 im_X8_comer se_X8_comer ini_X8 co_X8_comer ⟨rfl, by decide, by decide, by decide +kernel⟩ rfl (ci := 8) rfl (by repeat (first | exact hs_eq _ _ _ | refine hs_ne (by omega) ?_ | assumption)) ⟨by decide, by decide⟩ rfl (Nat.le_of_ble_eq_true rfl) ⟨Nat.zero_le _, Nat.zero_le _⟩ dX8_partOne_1 ?_
  rintro _ _ ⟨rfl, rfl⟩
  refine k_istore_n C dX8_partOne_4 (by decide) rfl ?_
  refine k_iload_n C dX8_partOne_5 rfl ?_
  refine k_iconst C dX8_partOne_6 ?_
  refine k_icmp_eq (tgt := 80) C dX8_partOne_7 (by decide) ⟨by omega, by omega⟩ ⟨by omega, by omega⟩ (fun c7 => ?_) (fun c7 => ?_)
  · try (exfalso; omega)
    all_goals (
      refine k_vret C hr dX8_partOne_80 ?_
      refine ⟨rfl, ?_⟩
      unfold zOne
      first
        | (rw [if_pos (by omega)]; exact (hs_same hzq).symm)
        | (rw [if_neg (by omega)]
           simp only [hs_hs]
           unfold zWind
           simp (disch := omega) only [iu_ne, iu_eq]))
  · try (exfalso; omega)
    all_goals (
      have w1 := hwi (zCom zrr) (by omega) (by omega)
      refine k_aload_n C dX8_partOne_10 rfl ?_
      refine k_aload_n C dX8_partOne_11 rfl ?_
      refine k_get C (k := 0) inX8 (ci := 8) rfl (by decide) fl_X8_7 dX8_partOne_12 (by repeat (first | exact hs_eq _ _ _ | refine hs_ne (by omega) ?_ | assumption)) rfl ?_
      refine k_iload_n C dX8_partOne_15 rfl ?_
      refine k_callS C (n := 1) (as := [_]) (ct_X8_at l D tc base _ _) ml_X8_36 sm_X8_at ini_X8 co_X8_at ⟨by decide, by decide, by decide +kernel⟩ rfl ⟨by decide, by decide⟩ rfl (Nat.le_of_ble_eq_true rfl) ⟨Nat.zero_le _, Nat.zero_le _⟩ dX8_partOne_16 ?_
      rintro _ _ ⟨rfl, rfl⟩
      refine k_iaload C dX8_partOne_19 (by repeat (first | exact hs_eq _ _ _ | refine hs_ne (by omega) ?_ | assumption)) (by omega) (by omega) (by omega) ?_
      refine k_aload_n C dX8_partOne_20 rfl ?_
      refine k_get C (k := 0) inX8 (ci := 8) rfl (by decide) fl_X8_7 dX8_partOne_21 (by repeat (first | exact hs_eq _ _ _ | refine hs_ne (by omega) ?_ | assumption)) rfl ?_
      refine k_iload_n C dX8_partOne_24 rfl ?_
      refine k_callS C (n := 1) (as := [_]) (ct_X8_at l D tc base _ _) ml_X8_36 sm_X8_at ini_X8 co_X8_at ⟨by decide, by decide, by decide +kernel⟩ rfl ⟨by decide, by decide⟩ rfl (Nat.le_of_ble_eq_true rfl) ⟨Nat.zero_le _, Nat.zero_le _⟩ dX8_partOne_25 ?_
      rintro _ _ ⟨rfl, rfl⟩
      refine k_iconst C dX8_partOne_28 ?_
      refine k_iadd C dX8_partOne_29 ?_
      refine k_iaload C dX8_partOne_30 (by repeat (first | exact hs_eq _ _ _ | refine hs_ne (by omega) ?_ | assumption)) (by omega) (by omega) (by omega) ?_
      refine k_callV C (n := 2) (as := [_, _]) (ct_X8_winds l D tc base obb zqq fss _ _ (by repeat (first | exact hs_eq _ _ _ | refine hs_ne (by omega) ?_ | assumption)) (by repeat (first | exact hs_eq _ _ _ | refine hs_ne (by omega) ?_ | assumption)) hne _ _ (by omega) (by omega) hi (by omega) (by omega)) ml_X8_54 im_X8_winds se_X8_winds ini_X8 co_X8_winds ⟨rfl, by decide, by decide, by decide +kernel⟩ rfl (ci := 8) rfl (by repeat (first | exact hs_eq _ _ _ | refine hs_ne (by omega) ?_ | assumption)) ⟨by decide, by decide⟩ rfl (Nat.le_of_ble_eq_true rfl) ⟨Nat.zero_le _, Nat.zero_le _⟩ dX8_partOne_31 ?_
      rintro _ _ ⟨rfl, rfl⟩
      refine k_istore_n C dX8_partOne_34 (by decide) rfl ?_
      refine k_aload_n C dX8_partOne_35 rfl ?_
      refine k_get C (k := 0) inX8 (ci := 8) rfl (by decide) fl_X8_7 dX8_partOne_36 (by repeat (first | exact hs_eq _ _ _ | refine hs_ne (by omega) ?_ | assumption)) rfl ?_
      refine k_iload_n C dX8_partOne_39 rfl ?_
      refine k_callS C (n := 1) (as := [_]) (ct_X8_at l D tc base _ _) ml_X8_36 sm_X8_at ini_X8 co_X8_at ⟨by decide, by decide, by decide +kernel⟩ rfl ⟨by decide, by decide⟩ rfl (Nat.le_of_ble_eq_true rfl) ⟨Nat.zero_le _, Nat.zero_le _⟩ dX8_partOne_40 ?_
      rintro _ _ ⟨rfl, rfl⟩
      refine k_iconst C dX8_partOne_43 ?_
      refine k_iadd C dX8_partOne_44 ?_
      refine k_aload_n C dX8_partOne_45 rfl ?_
      refine k_get C (k := 0) inX8 (ci := 8) rfl (by decide) fl_X8_7 dX8_partOne_46 (by repeat (first | exact hs_eq _ _ _ | refine hs_ne (by omega) ?_ | assumption)) rfl ?_
      refine k_bipush C dX8_partOne_49 (by decide +kernel) ?_
      refine k_iaload C dX8_partOne_51 (by repeat (first | exact hs_eq _ _ _ | refine hs_ne (by omega) ?_ | assumption)) (by omega) (by omega) (by omega) ?_
      refine k_aload_n C dX8_partOne_52 rfl ?_
      refine k_get C (k := 0) inX8 (ci := 8) rfl (by decide) fl_X8_7 dX8_partOne_53 (by repeat (first | exact hs_eq _ _ _ | refine hs_ne (by omega) ?_ | assumption)) rfl ?_
      refine k_iload_n C dX8_partOne_56 rfl ?_
      refine k_callS C (n := 1) (as := [_]) (ct_X8_at l D tc base _ _) ml_X8_36 sm_X8_at ini_X8 co_X8_at ⟨by decide, by decide, by decide +kernel⟩ rfl ⟨by decide, by decide⟩ rfl (Nat.le_of_ble_eq_true rfl) ⟨Nat.zero_le _, Nat.zero_le _⟩ dX8_partOne_57 ?_
      rintro _ _ ⟨rfl, rfl⟩
      refine k_iconst C dX8_partOne_60 ?_
      refine k_iadd C dX8_partOne_61 ?_
      refine k_iaload C dX8_partOne_62 (by repeat (first | exact hs_eq _ _ _ | refine hs_ne (by omega) ?_ | assumption)) (by omega) (by omega) (by omega) ?_
      refine k_iadd C dX8_partOne_63 ?_
      refine k_iastore C dX8_partOne_64 (by repeat (first | exact hs_eq _ _ _ | refine hs_ne (by omega) ?_ | assumption)) (by omega) (by omega) (by omega) ?_
      refine k_aload_n C dX8_partOne_65 rfl ?_
      refine k_get C (k := 0) inX8 (ci := 8) rfl (by decide) fl_X8_7 dX8_partOne_66 (by repeat (first | exact hs_eq _ _ _ | refine hs_ne (by omega) ?_ | assumption)) rfl ?_
      refine k_iload_n C dX8_partOne_69 rfl ?_
      refine k_callS C (n := 1) (as := [_]) (ct_X8_at l D tc base _ _) ml_X8_36 sm_X8_at ini_X8 co_X8_at ⟨by decide, by decide, by decide +kernel⟩ rfl ⟨by decide, by decide⟩ rfl (Nat.le_of_ble_eq_true rfl) ⟨Nat.zero_le _, Nat.zero_le _⟩ dX8_partOne_70 ?_
      rintro _ _ ⟨rfl, rfl⟩
      refine k_iconst C dX8_partOne_73 ?_
      refine k_iadd C dX8_partOne_74 ?_
      refine k_dup2 C dX8_partOne_75 rfl rfl ?_
      refine k_iaload C dX8_partOne_76 (by repeat (first | exact hs_eq _ _ _ | refine hs_ne (by omega) ?_ | assumption)) (by omega) (by omega) (by omega) ?_
      try simp (disch := omega) only [hs_hs, iu_ne, iu_eq]
      refine k_iconst C dX8_partOne_77 ?_
      refine k_iadd C dX8_partOne_78 ?_
      refine k_iastore C dX8_partOne_79 (by repeat (first | exact hs_eq _ _ _ | refine hs_ne (by omega) ?_ | assumption)) (by omega) (by omega) (by omega) ?_
      refine k_vret C hr dX8_partOne_80 ?_
      refine ⟨rfl, ?_⟩
      unfold zOne
      first
        | (rw [if_pos (by omega)]; exact (hs_same hzq).symm)
        | (rw [if_neg (by omega)]
           simp only [hs_hs]
           unfold zWind
           simp (disch := omega) only [iu_ne, iu_eq]))

set_option maxRecDepth 20000 in
set_option maxHeartbeats 1000000 in
theorem ct_X8_partTwo (l : Launch) (D : va_G) (tc : Nat → ClassId) (base : Nat) (obb zqq : Nat) (fss : List AV) (zrr : RZ) (hpp : AH) (hob : hpp obb = some (eO 8 (aR zqq :: fss))) (hzq : hpp zqq = some (eA 0 67 zrr)) (hne : obb ≠ zqq) (hi : zInv zrr) : CT l D tc base yX8_partTwo cX8_partTwo 2 none 1 [aR obb] hpp (fun r h' => r = none ∧ h' = hs hpp zqq (eA 0 67 (zTwo zrr))) := by
  refine CT.of [some (aR obb), none] (by decide +kernel) rfl (Nat.le_of_ble_eq_true rfl) ?_
  intro p e s m args below meth c C hr hnm
  obtain ⟨⟨g0, g1, g2, g9, g10, g11, g12, g13, g21, g52, g61, g62, g63, g64, g65, g66⟩, hwi, hde⟩ := id hi
  refine k_aload_n C dX8_partTwo_0 rfl ?_
  refine k_get C (k := 0) inX8 (ci := 8) rfl (by decide) fl_X8_7 dX8_partTwo_1 (by repeat (first | exact hs_eq _ _ _ | refine hs_ne (by omega) ?_ | assumption)) rfl ?_
  refine k_bipush C dX8_partTwo_4 (by decide +kernel) ?_
  refine k_iaload C dX8_partTwo_6 (by repeat (first | exact hs_eq _ _ _ | refine hs_ne (by omega) ?_ | assumption)) (by omega) (by omega) (by omega) ?_
  refine k_aload_n C dX8_partTwo_7 rfl ?_
  refine k_get C (k := 0) inX8 (ci := 8) rfl (by decide) fl_X8_7 dX8_partTwo_8 (by repeat (first | exact hs_eq _ _ _ | refine hs_ne (by omega) ?_ | assumption)) rfl ?_
  refine k_bipush C dX8_partTwo_11 (by decide +kernel) ?_
  refine k_iaload C dX8_partTwo_13 (by repeat (first | exact hs_eq _ _ _ | refine hs_ne (by omega) ?_ | assumption)) (by omega) (by omega) (by omega) ?_
  refine k_icmp_gt (tgt := 96) C dX8_partTwo_14 (by decide) ⟨by omega, by omega⟩ ⟨by omega, by omega⟩ (fun c14 => ?_) (fun c14 => ?_)
  · try (exfalso; omega)
    all_goals (
      refine k_vret C hr dX8_partTwo_96 ?_
      refine ⟨rfl, ?_⟩
      unfold zTwo
      first
        | (rw [if_neg (by omega)]; exact (hs_same hzq).symm)
        | (rw [if_pos (by omega)]
           simp only [hs_hs]
           unfold zTake
           simp (disch := omega) only [iu_ne, iu_eq]))
  · try (exfalso; omega)
    all_goals (
      refine k_aload_n C dX8_partTwo_17 rfl ?_
      refine k_get C (k := 0) inX8 (ci := 8) rfl (by decide) fl_X8_7 dX8_partTwo_18 (by repeat (first | exact hs_eq _ _ _ | refine hs_ne (by omega) ?_ | assumption)) rfl ?_
      refine k_bipush C dX8_partTwo_21 (by decide +kernel) ?_
      refine k_iaload C dX8_partTwo_23 (by repeat (first | exact hs_eq _ _ _ | refine hs_ne (by omega) ?_ | assumption)) (by omega) (by omega) (by omega) ?_
      refine k_aload_n C dX8_partTwo_24 rfl ?_
      refine k_get C (k := 0) inX8 (ci := 8) rfl (by decide) fl_X8_7 dX8_partTwo_25 (by repeat (first | exact hs_eq _ _ _ | refine hs_ne (by omega) ?_ | assumption)) rfl ?_
      refine k_bipush C dX8_partTwo_28 (by decide +kernel) ?_
      refine k_iaload C dX8_partTwo_30 (by repeat (first | exact hs_eq _ _ _ | refine hs_ne (by omega) ?_ | assumption)) (by omega) (by omega) (by omega) ?_
      refine k_icmp_ge (tgt := 96) C dX8_partTwo_31 (by decide) ⟨by omega, by omega⟩ ⟨by omega, by omega⟩ (fun c31 => ?_) (fun c31 => ?_)
      · try (exfalso; omega)
        all_goals (
          refine k_vret C hr dX8_partTwo_96 ?_
          refine ⟨rfl, ?_⟩
          unfold zTwo
          first
            | (rw [if_neg (by omega)]; exact (hs_same hzq).symm)
            | (rw [if_pos (by omega)]
               simp only [hs_hs]
               unfold zTake
               simp (disch := omega) only [iu_ne, iu_eq]))
      · try (exfalso; omega)
        all_goals (
          refine k_aload_n C dX8_partTwo_34 rfl ?_
          refine k_get C (k := 0) inX8 (ci := 8) rfl (by decide) fl_X8_7 dX8_partTwo_35 (by repeat (first | exact hs_eq _ _ _ | refine hs_ne (by omega) ?_ | assumption)) rfl ?_
          refine k_iconst C dX8_partTwo_38 ?_
          refine k_iaload C dX8_partTwo_39 (by repeat (first | exact hs_eq _ _ _ | refine hs_ne (by omega) ?_ | assumption)) (by omega) (by omega) (by omega) ?_
          refine k_if_eq (tgt := 96) C dX8_partTwo_40 (by decide) ⟨by omega, by omega⟩ (fun c40 => ?_) (fun c40 => ?_)
          · try (exfalso; omega)
            all_goals (
              refine k_vret C hr dX8_partTwo_96 ?_
              refine ⟨rfl, ?_⟩
              unfold zTwo
              first
                | (rw [if_neg (by omega)]; exact (hs_same hzq).symm)
                | (rw [if_pos (by omega)]
                   simp only [hs_hs]
                   unfold zTake
                   simp (disch := omega) only [iu_ne, iu_eq]))
          · try (exfalso; omega)
            all_goals (
              refine k_aload_n C dX8_partTwo_43 rfl ?_
              refine k_get C (k := 0) inX8 (ci := 8) rfl (by decide) fl_X8_7 dX8_partTwo_44 (by repeat (first | exact hs_eq _ _ _ | refine hs_ne (by omega) ?_ | assumption)) rfl ?_
              refine k_bipush C dX8_partTwo_47 (by decide +kernel) ?_
              refine k_iaload C dX8_partTwo_49 (by repeat (first | exact hs_eq _ _ _ | refine hs_ne (by omega) ?_ | assumption)) (by omega) (by omega) (by omega) ?_
              refine k_aload_n C dX8_partTwo_50 rfl ?_
              refine k_get C (k := 0) inX8 (ci := 8) rfl (by decide) fl_X8_7 dX8_partTwo_51 (by repeat (first | exact hs_eq _ _ _ | refine hs_ne (by omega) ?_ | assumption)) rfl ?_
              refine k_bipush C dX8_partTwo_54 (by decide +kernel) ?_
              refine k_iaload C dX8_partTwo_56 (by repeat (first | exact hs_eq _ _ _ | refine hs_ne (by omega) ?_ | assumption)) (by omega) (by omega) (by omega) ?_
              refine k_isub C dX8_partTwo_57 ?_
              refine k_aload_n C dX8_partTwo_58 rfl ?_
              refine k_get C (k := 0) inX8 (ci := 8) rfl (by decide) fl_X8_7 dX8_partTwo_59 (by repeat (first | exact hs_eq _ _ _ | refine hs_ne (by omega) ?_ | assumption)) rfl ?_
              refine k_iconst C dX8_partTwo_62 ?_
              refine k_iaload C dX8_partTwo_63 (by repeat (first | exact hs_eq _ _ _ | refine hs_ne (by omega) ?_ | assumption)) (by omega) (by omega) (by omega) ?_
              refine k_callS C (n := 2) (as := [_, _]) (ct_X8_lesser l D tc base _ _ _ ⟨by omega, by omega⟩ ⟨by omega, by omega⟩) ml_X8_46 sm_X8_lesser ini_X8 co_X8_lesser ⟨by decide, by decide, by decide +kernel⟩ rfl ⟨by decide, by decide⟩ rfl (Nat.le_of_ble_eq_true rfl) ⟨Nat.zero_le _, Nat.zero_le _⟩ dX8_partTwo_64 ?_
              rintro _ _ ⟨rfl, rfl⟩
              refine k_istore_n C dX8_partTwo_67 (by decide) rfl ?_
              refine k_aload_n C dX8_partTwo_68 rfl ?_
              refine k_iconst C dX8_partTwo_69 ?_
              refine k_iload_n C dX8_partTwo_70 rfl ?_
              refine k_callV C (n := 2) (as := [_, _]) (ct_X8_takes l D tc base obb zqq fss _ _ (by repeat (first | exact hs_eq _ _ _ | refine hs_ne (by omega) ?_ | assumption)) (by repeat (first | exact hs_eq _ _ _ | refine hs_ne (by omega) ?_ | assumption)) hne _ _ (by omega) (by omega)) ml_X8_57 im_X8_takes se_X8_takes ini_X8 co_X8_takes ⟨rfl, by decide, by decide, by decide +kernel⟩ rfl (ci := 8) rfl (by repeat (first | exact hs_eq _ _ _ | refine hs_ne (by omega) ?_ | assumption)) ⟨by decide, by decide⟩ rfl (Nat.le_of_ble_eq_true rfl) ⟨Nat.zero_le _, Nat.zero_le _⟩ dX8_partTwo_71 ?_
              rintro _ _ ⟨rfl, rfl⟩
              refine k_aload_n C dX8_partTwo_74 rfl ?_
              refine k_get C (k := 0) inX8 (ci := 8) rfl (by decide) fl_X8_7 dX8_partTwo_75 (by repeat (first | exact hs_eq _ _ _ | refine hs_ne (by omega) ?_ | assumption)) rfl ?_
              refine k_bipush C dX8_partTwo_78 (by decide +kernel) ?_
              refine k_dup2 C dX8_partTwo_80 rfl rfl ?_
              refine k_iaload C dX8_partTwo_81 (by repeat (first | exact hs_eq _ _ _ | refine hs_ne (by omega) ?_ | assumption)) (by omega) (by omega) (by omega) ?_
              refine k_iload_n C dX8_partTwo_82 rfl ?_
              refine k_iadd C dX8_partTwo_83 ?_
              refine k_iastore C dX8_partTwo_84 (by repeat (first | exact hs_eq _ _ _ | refine hs_ne (by omega) ?_ | assumption)) (by omega) (by omega) (by omega) ?_
              refine k_aload_n C dX8_partTwo_85 rfl ?_
              refine k_get C (k := 0) inX8 (ci := 8) rfl (by decide) fl_X8_7 dX8_partTwo_86 (by repeat (first | exact hs_eq _ _ _ | refine hs_ne (by omega) ?_ | assumption)) rfl ?_
              refine k_bipush C dX8_partTwo_89 (by decide +kernel) ?_
              refine k_dup2 C dX8_partTwo_91 rfl rfl ?_
              refine k_iaload C dX8_partTwo_92 (by repeat (first | exact hs_eq _ _ _ | refine hs_ne (by omega) ?_ | assumption)) (by omega) (by omega) (by omega) ?_
              try simp (disch := omega) only [hs_hs, iu_ne, iu_eq]
              refine k_iconst C dX8_partTwo_93 ?_
              refine k_iadd C dX8_partTwo_94 ?_
              refine k_iastore C dX8_partTwo_95 (by repeat (first | exact hs_eq _ _ _ | refine hs_ne (by omega) ?_ | assumption)) (by omega) (by omega) (by omega) ?_
              refine k_vret C hr dX8_partTwo_96 ?_
              refine ⟨rfl, ?_⟩
              unfold zTwo
              first
                | (rw [if_neg (by omega)]; exact (hs_same hzq).symm)
                | (rw [if_pos (by omega)]
                   simp only [hs_hs]
                   unfold zTake
                   simp (disch := omega) only [iu_ne, iu_eq]))))

set_option maxRecDepth 20000 in
set_option maxHeartbeats 1000000 in
theorem ct_X8_partThree (l : Launch) (D : va_G) (tc : Nat → ClassId) (base : Nat) (obb zqq : Nat) (fss : List AV) (zrr : RZ) (hpp : AH) (hob : hpp obb = some (eO 8 (aR zqq :: fss))) (hzq : hpp zqq = some (eA 0 67 zrr)) (hne : obb ≠ zqq) (hi : zInv zrr) (hm : zrr 13 ≤ 100000) : CT l D tc base yX8_partThree cX8_partThree 1 (some .int) 0 [aR obb] hpp (fun r h' => r = some (aI (zHow zrr)) ∧ h' = hs hpp zqq (eA 0 67 (zThree zrr))) := by
  refine CT.of [some (aR obb)] (by decide +kernel) rfl (Nat.le_of_ble_eq_true rfl) ?_
  intro p e s m args below meth c C hr hnm
  obtain ⟨⟨g0, g1, g2, g9, g10, g11, g12, g13, g21, g52, g61, g62, g63, g64, g65, g66⟩, hwi, hde⟩ := id hi
  refine k_aload_n C dX8_partThree_0 rfl ?_
  refine k_get C (k := 0) inX8 (ci := 8) rfl (by decide) fl_X8_7 dX8_partThree_1 (by repeat (first | exact hs_eq _ _ _ | refine hs_ne (by omega) ?_ | assumption)) rfl ?_
  refine k_bipush C dX8_partThree_4 (by decide +kernel) ?_
  refine k_iaload C dX8_partThree_6 (by repeat (first | exact hs_eq _ _ _ | refine hs_ne (by omega) ?_ | assumption)) (by omega) (by omega) (by omega) ?_
  refine k_if_ne (tgt := 23) C dX8_partThree_7 (by decide) ⟨by omega, by omega⟩ (fun c7 => ?_) (fun c7 => ?_)
  · try (exfalso; omega)
    all_goals (
      refine k_aload_n C dX8_partThree_23 rfl ?_
      refine k_get C (k := 0) inX8 (ci := 8) rfl (by decide) fl_X8_7 dX8_partThree_24 (by repeat (first | exact hs_eq _ _ _ | refine hs_ne (by omega) ?_ | assumption)) rfl ?_
      refine k_bipush C dX8_partThree_27 (by decide +kernel) ?_
      refine k_dup2 C dX8_partThree_29 rfl rfl ?_
      refine k_iaload C dX8_partThree_30 (by repeat (first | exact hs_eq _ _ _ | refine hs_ne (by omega) ?_ | assumption)) (by omega) (by omega) (by omega) ?_
      refine k_iconst C dX8_partThree_31 ?_
      refine k_isub C dX8_partThree_32 ?_
      refine k_iastore C dX8_partThree_33 (by repeat (first | exact hs_eq _ _ _ | refine hs_ne (by omega) ?_ | assumption)) (by omega) (by omega) (by omega) ?_
      refine k_aload_n C dX8_partThree_34 rfl ?_
      refine k_get C (k := 0) inX8 (ci := 8) rfl (by decide) fl_X8_7 dX8_partThree_35 (by repeat (first | exact hs_eq _ _ _ | refine hs_ne (by omega) ?_ | assumption)) rfl ?_
      refine k_bipush C dX8_partThree_38 (by decide +kernel) ?_
      refine k_iaload C dX8_partThree_40 (by repeat (first | exact hs_eq _ _ _ | refine hs_ne (by omega) ?_ | assumption)) (by omega) (by omega) (by omega) ?_
      try simp (disch := omega) only [hs_hs, iu_ne, iu_eq]
      refine k_aload_n C dX8_partThree_41 rfl ?_
      refine k_get C (k := 0) inX8 (ci := 8) rfl (by decide) fl_X8_7 dX8_partThree_42 (by repeat (first | exact hs_eq _ _ _ | refine hs_ne (by omega) ?_ | assumption)) rfl ?_
      refine k_bipush C dX8_partThree_45 (by decide +kernel) ?_
      refine k_iaload C dX8_partThree_47 (by repeat (first | exact hs_eq _ _ _ | refine hs_ne (by omega) ?_ | assumption)) (by omega) (by omega) (by omega) ?_
      try simp (disch := omega) only [hs_hs, iu_ne, iu_eq]
      refine k_aload_n C dX8_partThree_48 rfl ?_
      refine k_get C (k := 0) inX8 (ci := 8) rfl (by decide) fl_X8_7 dX8_partThree_49 (by repeat (first | exact hs_eq _ _ _ | refine hs_ne (by omega) ?_ | assumption)) rfl ?_
      refine k_bipush C dX8_partThree_52 (by decide +kernel) ?_
      refine k_iaload C dX8_partThree_54 (by repeat (first | exact hs_eq _ _ _ | refine hs_ne (by omega) ?_ | assumption)) (by omega) (by omega) (by omega) ?_
      try simp (disch := omega) only [hs_hs, iu_ne, iu_eq]
      refine k_isub C dX8_partThree_55 ?_
      refine k_icmp_le (tgt := 111) C dX8_partThree_56 (by decide) ⟨by omega, by omega⟩ ⟨by omega, by omega⟩ (fun c56 => ?_) (fun c56 => ?_)
      · try (exfalso; omega)
        all_goals (
          refine k_aload_n C dX8_partThree_111 rfl ?_
          refine k_get C (k := 0) inX8 (ci := 8) rfl (by decide) fl_X8_7 dX8_partThree_112 (by repeat (first | exact hs_eq _ _ _ | refine hs_ne (by omega) ?_ | assumption)) rfl ?_
          refine k_bipush C dX8_partThree_115 (by decide +kernel) ?_
          refine k_aload_n C dX8_partThree_117 rfl ?_
          refine k_get C (k := 0) inX8 (ci := 8) rfl (by decide) fl_X8_7 dX8_partThree_118 (by repeat (first | exact hs_eq _ _ _ | refine hs_ne (by omega) ?_ | assumption)) rfl ?_
          refine k_bipush C dX8_partThree_121 (by decide +kernel) ?_
          refine k_iaload C dX8_partThree_123 (by repeat (first | exact hs_eq _ _ _ | refine hs_ne (by omega) ?_ | assumption)) (by omega) (by omega) (by omega) ?_
          try simp (disch := omega) only [hs_hs, iu_ne, iu_eq]
          refine k_iconst C dX8_partThree_124 ?_
          refine k_iadd C dX8_partThree_125 ?_
          refine k_sipush C dX8_partThree_126 (by decide +kernel) ?_
          refine k_irem C dX8_partThree_129 (by omega) (by omega) (by omega) (by omega) ?_
          refine k_iastore C dX8_partThree_130 (by repeat (first | exact hs_eq _ _ _ | refine hs_ne (by omega) ?_ | assumption)) (by omega) (by omega) (by omega) ?_
          refine k_iconst C dX8_partThree_131 ?_
          refine k_iret C hr dX8_partThree_132 ?_
          first
            | (have h9 : zrr 9 = 0 := by omega
               exact ⟨by simp only [zHow, if_pos h9], by simp only [zThree, if_pos h9]⟩)
            | (have h9 : ¬ zrr 9 = 0 := by omega
               have hc : zrr 63 - zrr 12 < zrr 11 := by omega
               refine ⟨by simp only [zHow, if_neg h9, if_pos hc], ?_⟩
               simp only [zThree, if_neg h9, if_pos hc]
               first | rw [if_pos (by omega)] | rw [if_neg (by omega)]
               try simp (disch := omega) only [hs_hs, iu_ne, iu_eq])
            | (have h9 : ¬ zrr 9 = 0 := by omega
               have hc : ¬ zrr 63 - zrr 12 < zrr 11 := by omega
               refine ⟨by simp only [zHow, if_neg h9, if_neg hc], ?_⟩
               simp only [zThree, if_neg h9, if_neg hc]
               try simp (disch := omega) only [hs_hs, iu_ne, iu_eq]))
      · try (exfalso; omega)
        all_goals (
          refine k_aload_n C dX8_partThree_59 rfl ?_
          refine k_get C (k := 0) inX8 (ci := 8) rfl (by decide) fl_X8_7 dX8_partThree_60 (by repeat (first | exact hs_eq _ _ _ | refine hs_ne (by omega) ?_ | assumption)) rfl ?_
          refine k_bipush C dX8_partThree_63 (by decide +kernel) ?_
          refine k_dup2 C dX8_partThree_65 rfl rfl ?_
          refine k_iaload C dX8_partThree_66 (by repeat (first | exact hs_eq _ _ _ | refine hs_ne (by omega) ?_ | assumption)) (by omega) (by omega) (by omega) ?_
          try simp (disch := omega) only [hs_hs, iu_ne, iu_eq]
          refine k_iconst C dX8_partThree_67 ?_
          refine k_iadd C dX8_partThree_68 ?_
          refine k_iastore C dX8_partThree_69 (by repeat (first | exact hs_eq _ _ _ | refine hs_ne (by omega) ?_ | assumption)) (by omega) (by omega) (by omega) ?_
          refine k_aload_n C dX8_partThree_70 rfl ?_
          refine k_get C (k := 0) inX8 (ci := 8) rfl (by decide) fl_X8_7 dX8_partThree_71 (by repeat (first | exact hs_eq _ _ _ | refine hs_ne (by omega) ?_ | assumption)) rfl ?_
          refine k_bipush C dX8_partThree_74 (by decide +kernel) ?_
          refine k_dup2 C dX8_partThree_76 rfl rfl ?_
          refine k_iaload C dX8_partThree_77 (by repeat (first | exact hs_eq _ _ _ | refine hs_ne (by omega) ?_ | assumption)) (by omega) (by omega) (by omega) ?_
          try simp (disch := omega) only [hs_hs, iu_ne, iu_eq]
          refine k_aload_n C dX8_partThree_78 rfl ?_
          refine k_get C (k := 0) inX8 (ci := 8) rfl (by decide) fl_X8_7 dX8_partThree_79 (by repeat (first | exact hs_eq _ _ _ | refine hs_ne (by omega) ?_ | assumption)) rfl ?_
          refine k_bipush C dX8_partThree_82 (by decide +kernel) ?_
          refine k_iaload C dX8_partThree_84 (by repeat (first | exact hs_eq _ _ _ | refine hs_ne (by omega) ?_ | assumption)) (by omega) (by omega) (by omega) ?_
          try simp (disch := omega) only [hs_hs, iu_ne, iu_eq]
          refine k_iconst C dX8_partThree_85 ?_
          refine k_irem C dX8_partThree_86 (by omega) (by omega) (by omega) (by omega) ?_
          refine k_if_ne (tgt := 106) C dX8_partThree_87 (by decide) ⟨by omega, by omega⟩ (fun c87 => ?_) (fun c87 => ?_)
          · try (exfalso; omega)
            all_goals (
              refine k_iconst C dX8_partThree_106 ?_
              refine k_iadd C dX8_partThree_107 ?_
              refine k_iastore C dX8_partThree_108 (by repeat (first | exact hs_eq _ _ _ | refine hs_ne (by omega) ?_ | assumption)) (by omega) (by omega) (by omega) ?_
              refine k_iconst C dX8_partThree_109 ?_
              refine k_iret C hr dX8_partThree_110 ?_
              first
                | (have h9 : zrr 9 = 0 := by omega
                   exact ⟨by simp only [zHow, if_pos h9], by simp only [zThree, if_pos h9]⟩)
                | (have h9 : ¬ zrr 9 = 0 := by omega
                   have hc : zrr 63 - zrr 12 < zrr 11 := by omega
                   refine ⟨by simp only [zHow, if_neg h9, if_pos hc], ?_⟩
                   simp only [zThree, if_neg h9, if_pos hc]
                   first | rw [if_pos (by omega)] | rw [if_neg (by omega)]
                   try simp (disch := omega) only [hs_hs, iu_ne, iu_eq])
                | (have h9 : ¬ zrr 9 = 0 := by omega
                   have hc : ¬ zrr 63 - zrr 12 < zrr 11 := by omega
                   refine ⟨by simp only [zHow, if_neg h9, if_neg hc], ?_⟩
                   simp only [zThree, if_neg h9, if_neg hc]
                   try simp (disch := omega) only [hs_hs, iu_ne, iu_eq]))
          · try (exfalso; omega)
            all_goals (
              refine k_aload_n C dX8_partThree_90 rfl ?_
              refine k_get C (k := 0) inX8 (ci := 8) rfl (by decide) fl_X8_7 dX8_partThree_91 (by repeat (first | exact hs_eq _ _ _ | refine hs_ne (by omega) ?_ | assumption)) rfl ?_
              refine k_bipush C dX8_partThree_94 (by decide +kernel) ?_
              refine k_iaload C dX8_partThree_96 (by repeat (first | exact hs_eq _ _ _ | refine hs_ne (by omega) ?_ | assumption)) (by omega) (by omega) (by omega) ?_
              try simp (disch := omega) only [hs_hs, iu_ne, iu_eq]
              refine k_bipush C dX8_partThree_97 (by decide +kernel) ?_
              refine k_icmp_ge (tgt := 106) C dX8_partThree_99 (by decide) ⟨by omega, by omega⟩ ⟨by omega, by omega⟩ (fun c99 => ?_) (fun c99 => ?_)
              · try (exfalso; omega)
                all_goals (
                  refine k_iconst C dX8_partThree_106 ?_
                  refine k_iadd C dX8_partThree_107 ?_
                  refine k_iastore C dX8_partThree_108 (by repeat (first | exact hs_eq _ _ _ | refine hs_ne (by omega) ?_ | assumption)) (by omega) (by omega) (by omega) ?_
                  refine k_iconst C dX8_partThree_109 ?_
                  refine k_iret C hr dX8_partThree_110 ?_
                  first
                    | (have h9 : zrr 9 = 0 := by omega
                       exact ⟨by simp only [zHow, if_pos h9], by simp only [zThree, if_pos h9]⟩)
                    | (have h9 : ¬ zrr 9 = 0 := by omega
                       have hc : zrr 63 - zrr 12 < zrr 11 := by omega
                       refine ⟨by simp only [zHow, if_neg h9, if_pos hc], ?_⟩
                       simp only [zThree, if_neg h9, if_pos hc]
                       first | rw [if_pos (by omega)] | rw [if_neg (by omega)]
                       try simp (disch := omega) only [hs_hs, iu_ne, iu_eq])
                    | (have h9 : ¬ zrr 9 = 0 := by omega
                       have hc : ¬ zrr 63 - zrr 12 < zrr 11 := by omega
                       refine ⟨by simp only [zHow, if_neg h9, if_neg hc], ?_⟩
                       simp only [zThree, if_neg h9, if_neg hc]
                       try simp (disch := omega) only [hs_hs, iu_ne, iu_eq]))
              · try (exfalso; omega)
                all_goals (
                  refine k_iconst C dX8_partThree_102 ?_
                  refine k_goto (tgt := 107) C dX8_partThree_103 (by decide) ?_
                  refine k_iadd C dX8_partThree_107 ?_
                  refine k_iastore C dX8_partThree_108 (by repeat (first | exact hs_eq _ _ _ | refine hs_ne (by omega) ?_ | assumption)) (by omega) (by omega) (by omega) ?_
                  refine k_iconst C dX8_partThree_109 ?_
                  refine k_iret C hr dX8_partThree_110 ?_
                  first
                    | (have h9 : zrr 9 = 0 := by omega
                       exact ⟨by simp only [zHow, if_pos h9], by simp only [zThree, if_pos h9]⟩)
                    | (have h9 : ¬ zrr 9 = 0 := by omega
                       have hc : zrr 63 - zrr 12 < zrr 11 := by omega
                       refine ⟨by simp only [zHow, if_neg h9, if_pos hc], ?_⟩
                       simp only [zThree, if_neg h9, if_pos hc]
                       first | rw [if_pos (by omega)] | rw [if_neg (by omega)]
                       try simp (disch := omega) only [hs_hs, iu_ne, iu_eq])
                    | (have h9 : ¬ zrr 9 = 0 := by omega
                       have hc : ¬ zrr 63 - zrr 12 < zrr 11 := by omega
                       refine ⟨by simp only [zHow, if_neg h9, if_neg hc], ?_⟩
                       simp only [zThree, if_neg h9, if_neg hc]
                       try simp (disch := omega) only [hs_hs, iu_ne, iu_eq])))))
  · try (exfalso; omega)
    all_goals (
      refine k_aload_n C dX8_partThree_10 rfl ?_
      refine k_get C (k := 0) inX8 (ci := 8) rfl (by decide) fl_X8_7 dX8_partThree_11 (by repeat (first | exact hs_eq _ _ _ | refine hs_ne (by omega) ?_ | assumption)) rfl ?_
      refine k_bipush C dX8_partThree_14 (by decide +kernel) ?_
      refine k_dup2 C dX8_partThree_16 rfl rfl ?_
      refine k_iaload C dX8_partThree_17 (by repeat (first | exact hs_eq _ _ _ | refine hs_ne (by omega) ?_ | assumption)) (by omega) (by omega) (by omega) ?_
      refine k_iconst C dX8_partThree_18 ?_
      refine k_iadd C dX8_partThree_19 ?_
      refine k_iastore C dX8_partThree_20 (by repeat (first | exact hs_eq _ _ _ | refine hs_ne (by omega) ?_ | assumption)) (by omega) (by omega) (by omega) ?_
      refine k_iconst C dX8_partThree_21 ?_
      refine k_iret C hr dX8_partThree_22 ?_
      first
        | (have h9 : zrr 9 = 0 := by omega
           exact ⟨by simp only [zHow, if_pos h9], by simp only [zThree, if_pos h9]⟩)
        | (have h9 : ¬ zrr 9 = 0 := by omega
           have hc : zrr 63 - zrr 12 < zrr 11 := by omega
           refine ⟨by simp only [zHow, if_neg h9, if_pos hc], ?_⟩
           simp only [zThree, if_neg h9, if_pos hc]
           first | rw [if_pos (by omega)] | rw [if_neg (by omega)]
           try simp (disch := omega) only [hs_hs, iu_ne, iu_eq])
        | (have h9 : ¬ zrr 9 = 0 := by omega
           have hc : ¬ zrr 63 - zrr 12 < zrr 11 := by omega
           refine ⟨by simp only [zHow, if_neg h9, if_neg hc], ?_⟩
           simp only [zThree, if_neg h9, if_neg hc]
           try simp (disch := omega) only [hs_hs, iu_ne, iu_eq]))

set_option maxRecDepth 20000 in
set_option maxHeartbeats 1000000 in
theorem ct_X8_dropDebt (l : Launch) (D : va_G) (tc : Nat → ClassId) (base : Nat) (obb zqq : Nat) (fss : List AV) (zrr : RZ) (hpp : AH) (hob : hpp obb = some (eO 8 (aR zqq :: fss))) (hzq : hpp zqq = some (eA 0 67 zrr)) (hne : obb ≠ zqq) (h52 : 1 ≤ zrr 52) (h54 : zrr 52 ≤ 4) : CT l D tc base yX8_dropDebt cX8_dropDebt 2 none 0 [aR obb] hpp (fun r h' => r = none ∧ h' = hs hpp zqq (eA 0 67 (zDrop zrr))) := by
  refine CT.of [some (aR obb), none] (by decide +kernel) rfl (Nat.le_of_ble_eq_true rfl) ?_
  intro p e s m args below meth c C hr hnm
  refine k_aload_n C dX8_dropDebt_0 rfl ?_
  refine k_get C (k := 0) inX8 (ci := 8) rfl (by decide) fl_X8_7 dX8_dropDebt_1 (by repeat (first | exact hs_eq _ _ _ | refine hs_ne (by omega) ?_ | assumption)) rfl ?_
  refine k_bipush C dX8_dropDebt_4 (by decide +kernel) ?_
  refine k_dup2 C dX8_dropDebt_6 rfl rfl ?_
  refine k_iaload C dX8_dropDebt_7 (by repeat (first | exact hs_eq _ _ _ | refine hs_ne (by omega) ?_ | assumption)) (by omega) (by omega) (by omega) ?_
  refine k_iconst C dX8_dropDebt_8 ?_
  refine k_isub C dX8_dropDebt_9 ?_
  refine k_iastore C dX8_dropDebt_10 (by repeat (first | exact hs_eq _ _ _ | refine hs_ne (by omega) ?_ | assumption)) (by omega) (by omega) (by omega) ?_
  refine k_iconst C dX8_dropDebt_11 ?_
  refine k_istore_n C dX8_dropDebt_12 (by decide) rfl ?_
  have loop13 : ∀ (n : Nat) (kk : Int), 0 ≤ kk → kk ≤ 2 * (zrr 52 - 1) → 2 * (zrr 52 - 1) - kk < (n : Int) → Wk D tc base 2 p l e (lvR 0) s m args below meth c 0 0 (MQ below (Qx D tc base (fun r h' => r = none ∧ h' = hs hpp zqq (eA 0 67 (zDrop zrr)))) args s 0 0 (fun q => base ≤ q)) 13 [some (aR obb), some (aI kk)] [] (hs hpp zqq (eA 0 67 (zDrK zrr kk))) := by
    intro n
    induction n with
    | zero =>
      intro kk hk0 hk hmu
      exfalso
      omega
    | succ n ih =>
      intro kk hk0 hk hmu
      refine k_iload_n C dX8_dropDebt_13 rfl ?_
      refine k_iconst C dX8_dropDebt_14 ?_
      refine k_aload_n C dX8_dropDebt_15 rfl ?_
      refine k_get C (k := 0) inX8 (ci := 8) rfl (by decide) fl_X8_7 dX8_dropDebt_16 (by repeat (first | exact hs_eq _ _ _ | refine hs_ne (by omega) ?_ | assumption)) rfl ?_
      refine k_bipush C dX8_dropDebt_19 (by decide +kernel) ?_
      refine k_iaload C dX8_dropDebt_21 (by repeat (first | exact hs_eq _ _ _ | refine hs_ne (by omega) ?_ | assumption)) (by omega) (by omega) (by omega) ?_
      try simp only [hs_hs, zDrK_52]
      refine k_imul C dX8_dropDebt_22 ?_
      refine k_icmp_ge (tgt := 50) C dX8_dropDebt_23 (by decide) ⟨by omega, by omega⟩ ⟨by omega, by omega⟩ (fun c23 => ?_) (fun c23 => ?_)
      · try (exfalso; omega)
        all_goals (
          refine k_vret C hr dX8_dropDebt_50 ?_
          refine ⟨rfl, ?_⟩
          have ek : kk = 2 * (zrr 52 - 1) := by omega
          subst ek
          rfl)
      · try (exfalso; omega)
        all_goals (
          refine k_aload_n C dX8_dropDebt_26 rfl ?_
          refine k_get C (k := 0) inX8 (ci := 8) rfl (by decide) fl_X8_7 dX8_dropDebt_27 (by repeat (first | exact hs_eq _ _ _ | refine hs_ne (by omega) ?_ | assumption)) rfl ?_
          refine k_bipush C dX8_dropDebt_30 (by decide +kernel) ?_
          refine k_iload_n C dX8_dropDebt_32 rfl ?_
          refine k_iadd C dX8_dropDebt_33 ?_
          refine k_aload_n C dX8_dropDebt_34 rfl ?_
          refine k_get C (k := 0) inX8 (ci := 8) rfl (by decide) fl_X8_7 dX8_dropDebt_35 (by repeat (first | exact hs_eq _ _ _ | refine hs_ne (by omega) ?_ | assumption)) rfl ?_
          refine k_bipush C dX8_dropDebt_38 (by decide +kernel) ?_
          refine k_iload_n C dX8_dropDebt_40 rfl ?_
          refine k_iadd C dX8_dropDebt_41 ?_
          refine k_iaload C dX8_dropDebt_42 (by repeat (first | exact hs_eq _ _ _ | refine hs_ne (by omega) ?_ | assumption)) (by omega) (by omega) (by omega) ?_
          try simp only [hs_hs, zDrK_52]
          refine k_iastore C dX8_dropDebt_43 (by repeat (first | exact hs_eq _ _ _ | refine hs_ne (by omega) ?_ | assumption)) (by omega) (by omega) (by omega) ?_
          refine k_iinc C dX8_dropDebt_44 rfl (by decide) rfl ?_
          refine k_goto (tgt := 13) C dX8_dropDebt_47 (by decide) ?_
          have q1 := ih (kk + 1) (by omega) (by omega) (by omega)
          simp only [hs_hs, zDrK_hi zrr hk0, zDrK_s zrr hk0]
          exact q1)
  rw [zDrK_0]
  exact loop13 (2 * (zrr 52 - 1) + 1).toNat 0 (by omega) (by omega) (by omega)
