set_option maxRecDepth 20000 in
set_option maxHeartbeats 1000000 in
theorem ct_X8_partFour (l : Launch) (D : va_G) (tc : Nat → ClassId) (base : Nat) (obb zqq : Nat) (fss : List AV) (zrr : RZ) (hpp : AH) (hob : hpp obb = some (eO 8 (aR zqq :: fss))) (hzq : hpp zqq = some (eA 0 67 zrr)) (hne : obb ≠ zqq) (hi : zInv zrr) : CT l D tc base yX8_partFour cX8_partFour 4 none 2 [aR obb] hpp (fun r h' => r = none ∧ h' = hs hpp zqq (eA 0 67 (zFour zrr))) := by
  refine CT.of [some (aR obb), none, none, none] (by decide +kernel) rfl (Nat.le_of_ble_eq_true rfl) ?_
  intro p e s m args below meth c C hr hnm
  obtain ⟨⟨g0, g1, g2, g9, g10, g11, g12, g13, g21, g52, g61, g62, g63, g64, g65, g66⟩, hwi, hde⟩ := id hi
  have hpr := zPhr_rng hi
  refine k_aload_n C dX8_partFour_0 rfl ?_
  refine k_get C (k := 0) inX8 (ci := 8) rfl (by decide) fl_X8_7 dX8_partFour_1 (by repeat (first | exact hs_eq _ _ _ | refine hs_ne (by omega) ?_ | assumption)) rfl ?_
  refine k_bipush C dX8_partFour_4 (by decide +kernel) ?_
  refine k_iaload C dX8_partFour_6 (by repeat (first | exact hs_eq _ _ _ | refine hs_ne (by omega) ?_ | assumption)) (by omega) (by omega) (by omega) ?_
  refine k_bipush C dX8_partFour_7 (by decide +kernel) ?_
  refine k_irem C dX8_partFour_9 (by omega) (by omega) (by omega) (by omega) ?_
  refine k_bipush C dX8_partFour_10 (by decide +kernel) ?_
  refine k_idiv C dX8_partFour_12 (by omega) (by omega) (by omega) (by omega) ?_
  refine k_istore_n C dX8_partFour_13 (by decide) rfl ?_
  refine k_iload_n C dX8_partFour_14 rfl ?_
  refine k_if_ne (tgt := 22) C dX8_partFour_15 (by decide) ⟨by omega, by omega⟩ (fun c15 => ?_) (fun c15 => ?_)
  · try (exfalso; omega)
    all_goals (
      refine k_iload_n C dX8_partFour_22 rfl ?_
      refine k_istore_n C dX8_partFour_23 (by decide) rfl ?_
      refine k_iconst C dX8_partFour_24 ?_
      refine k_istore_n C dX8_partFour_25 (by decide) rfl ?_
      have loop26 : ∀ (n : Nat) (pp kk : Int), pp = zPhr zrr → 0 ≤ kk → kk ≤ pp → 2 * kk ≤ zrr 2 → (kk = 0 ∨ (zrr 10 % 15 = 0 ∧ ¬ zSil zrr)) → pp - kk < (n : Int) → Wk D tc base 4 p l e (lvR 2) s m args below meth c 0 0 (MQ below (Qx D tc base (fun r h' => r = none ∧ h' = hs hpp zqq (eA 0 67 (zFour zrr)))) args s 0 0 (fun q => base ≤ q)) 26 [some (aR obb), none, some (aI pp), some (aI kk)] [] (hs hpp zqq (eA 0 67 (zChim zrr kk))) := by
        intro n
        induction n with
        | zero =>
          intro pp kk hpp1 hk0 hk1 hk2 hkc hmu
          exfalso
          omega
        | succ n ih =>
          intro pp kk hpp1 hk0 hk1 hk2 hkc hmu
          have hsl : zSil (zChim zrr kk) ↔ zSil zrr := by simp (disch := omega) only [zSil, zChim_ne]
          have hic := zInv_chim hi hk0 hk2
          refine k_iload_n C dX8_partFour_26 rfl ?_
          refine k_iload_n C dX8_partFour_27 rfl ?_
          refine k_icmp_ge (tgt := 98) C dX8_partFour_28 (by decide) ⟨by omega, by omega⟩ ⟨by omega, by omega⟩ (fun c28 => ?_) (fun c28 => ?_)
          · try (exfalso; omega)
            all_goals (
              refine k_vret C hr dX8_partFour_98 ?_
              refine ⟨rfl, ?_⟩
              try simp only [hs_hs]
              first
                | (have hk : kk = 0 := by omega
                   subst hk
                   rw [zFour, if_neg (by omega), zChim_0])
                | (have hm : mnI (zPhr zrr) (zrr 2 / 2) = kk := by unfold mnI; split <;> omega
                   rw [zFour, if_pos (by omega), hm, show zPhr zrr - kk = 0 by omega, Int.add_zero, ← zChim_ne (z := zrr) (k := kk) (j := 17) (by omega) (by omega) (by omega), iu_self])
                | (have hm : mnI (zPhr zrr) (zrr 2 / 2) = kk := by unfold mnI; split <;> omega
                   rw [zFour, if_pos (by omega), hm, hpp1]))
          · try (exfalso; omega)
            all_goals (
              refine k_aload_n C dX8_partFour_31 rfl ?_
              refine k_get C (k := 0) inX8 (ci := 8) rfl (by decide) fl_X8_7 dX8_partFour_32 (by repeat (first | exact hs_eq _ _ _ | refine hs_ne (by omega) ?_ | assumption)) rfl ?_
              refine k_bipush C dX8_partFour_35 (by decide +kernel) ?_
              refine k_iaload C dX8_partFour_37 (by repeat (first | exact hs_eq _ _ _ | refine hs_ne (by omega) ?_ | assumption)) (by omega) (by omega) (by omega) ?_
              try simp (disch := omega) only [hs_hs, zTake_ne, zChim_ne, zChim_2, zChim_16, iu_ne, iu_eq]
              refine k_bipush C dX8_partFour_38 (by decide +kernel) ?_
              refine k_irem C dX8_partFour_40 (by omega) (by omega) (by omega) (by omega) ?_
              refine k_if_ne (tgt := 98) C dX8_partFour_41 (by decide) ⟨by omega, by omega⟩ (fun c41 => ?_) (fun c41 => ?_)
              · try (exfalso; omega)
                all_goals (
                  refine k_vret C hr dX8_partFour_98 ?_
                  refine ⟨rfl, ?_⟩
                  try simp only [hs_hs]
                  first
                    | (have hk : kk = 0 := by omega
                       subst hk
                       rw [zFour, if_neg (by omega), zChim_0])
                    | (have hm : mnI (zPhr zrr) (zrr 2 / 2) = kk := by unfold mnI; split <;> omega
                       rw [zFour, if_pos (by omega), hm, show zPhr zrr - kk = 0 by omega, Int.add_zero, ← zChim_ne (z := zrr) (k := kk) (j := 17) (by omega) (by omega) (by omega), iu_self])
                    | (have hm : mnI (zPhr zrr) (zrr 2 / 2) = kk := by unfold mnI; split <;> omega
                       rw [zFour, if_pos (by omega), hm, hpp1]))
              · try (exfalso; omega)
                all_goals (
                  refine k_aload_n C dX8_partFour_44 rfl ?_
                  refine k_callV C (n := 0) (as := []) (ct_X8_isSilent l D tc base obb zqq fss _ _ (by repeat (first | exact hs_eq _ _ _ | refine hs_ne (by omega) ?_ | assumption)) (by repeat (first | exact hs_eq _ _ _ | refine hs_ne (by omega) ?_ | assumption)) hne hic) ml_X8_61 im_X8_isSilent se_X8_isSilent ini_X8 co_X8_isSilent ⟨rfl, by decide, by decide, by decide +kernel⟩ rfl (ci := 8) rfl (by repeat (first | exact hs_eq _ _ _ | refine hs_ne (by omega) ?_ | assumption)) ⟨by decide, by decide⟩ rfl (Nat.le_of_ble_eq_true rfl) ⟨Nat.zero_le _, Nat.zero_le _⟩ dX8_partFour_45 ?_
                  rintro _ _ (⟨rfl, rfl, hq45⟩ | ⟨rfl, rfl, hq45⟩)
                  · skip
                    rw [hsl] at hq45
                    refine k_if_ne (tgt := 98) C dX8_partFour_48 (by decide) ⟨by omega, by omega⟩ (fun c48 => ?_) (fun c48 => ?_)
                    · try (exfalso; omega)
                      all_goals (
                        refine k_vret C hr dX8_partFour_98 ?_
                        refine ⟨rfl, ?_⟩
                        try simp only [hs_hs]
                        first
                          | (have hk : kk = 0 := by omega
                             subst hk
                             rw [zFour, if_neg (by omega), zChim_0])
                          | (have hm : mnI (zPhr zrr) (zrr 2 / 2) = kk := by unfold mnI; split <;> omega
                             rw [zFour, if_pos (by omega), hm, show zPhr zrr - kk = 0 by omega, Int.add_zero, ← zChim_ne (z := zrr) (k := kk) (j := 17) (by omega) (by omega) (by omega), iu_self])
                          | (have hm : mnI (zPhr zrr) (zrr 2 / 2) = kk := by unfold mnI; split <;> omega
                             rw [zFour, if_pos (by omega), hm, hpp1]))
                    · try (exfalso; omega)
                      all_goals (
                        refine k_aload_n C dX8_partFour_51 rfl ?_
                        refine k_get C (k := 0) inX8 (ci := 8) rfl (by decide) fl_X8_7 dX8_partFour_52 (by repeat (first | exact hs_eq _ _ _ | refine hs_ne (by omega) ?_ | assumption)) rfl ?_
                        refine k_iconst C dX8_partFour_55 ?_
                        refine k_iaload C dX8_partFour_56 (by repeat (first | exact hs_eq _ _ _ | refine hs_ne (by omega) ?_ | assumption)) (by omega) (by omega) (by omega) ?_
                        try simp (disch := omega) only [hs_hs, zTake_ne, zChim_ne, zChim_2, zChim_16, iu_ne, iu_eq]
                        refine k_iconst C dX8_partFour_57 ?_
                        refine k_icmp_ge (tgt := 75) C dX8_partFour_58 (by decide) ⟨by omega, by omega⟩ ⟨by omega, by omega⟩ (fun c58 => ?_) (fun c58 => ?_)
                        · try (exfalso; omega)
                          all_goals (
                            refine k_aload_n C dX8_partFour_75 rfl ?_
                            refine k_iconst C dX8_partFour_76 ?_
                            refine k_iconst C dX8_partFour_77 ?_
                            refine k_callV C (n := 2) (as := [_, _]) (ct_X8_takes l D tc base obb zqq fss _ _ (by repeat (first | exact hs_eq _ _ _ | refine hs_ne (by omega) ?_ | assumption)) (by repeat (first | exact hs_eq _ _ _ | refine hs_ne (by omega) ?_ | assumption)) hne _ _ (by omega) (by omega)) ml_X8_57 im_X8_takes se_X8_takes ini_X8 co_X8_takes ⟨rfl, by decide, by decide, by decide +kernel⟩ rfl (ci := 8) rfl (by repeat (first | exact hs_eq _ _ _ | refine hs_ne (by omega) ?_ | assumption)) ⟨by decide, by decide⟩ rfl (Nat.le_of_ble_eq_true rfl) ⟨Nat.zero_le _, Nat.zero_le _⟩ dX8_partFour_78 ?_
                            rintro _ _ ⟨rfl, rfl⟩
                            refine k_aload_n C dX8_partFour_81 rfl ?_
                            refine k_get C (k := 0) inX8 (ci := 8) rfl (by decide) fl_X8_7 dX8_partFour_82 (by repeat (first | exact hs_eq _ _ _ | refine hs_ne (by omega) ?_ | assumption)) rfl ?_
                            refine k_bipush C dX8_partFour_85 (by decide +kernel) ?_
                            refine k_dup2 C dX8_partFour_87 rfl rfl ?_
                            refine k_iaload C dX8_partFour_88 (by repeat (first | exact hs_eq _ _ _ | refine hs_ne (by omega) ?_ | assumption)) (by omega) (by omega) (by omega) ?_
                            try simp (disch := omega) only [hs_hs, zTake_ne, zChim_ne, zChim_2, zChim_16, iu_ne, iu_eq]
                            refine k_iconst C dX8_partFour_89 ?_
                            refine k_iadd C dX8_partFour_90 ?_
                            refine k_iastore C dX8_partFour_91 (by repeat (first | exact hs_eq _ _ _ | refine hs_ne (by omega) ?_ | assumption)) (by omega) (by omega) (by omega) ?_
                            refine k_iinc C dX8_partFour_92 rfl (by decide) rfl ?_
                            refine k_goto (tgt := 26) C dX8_partFour_95 (by decide) ?_
                            have q1 := ih pp (kk + 1) hpp1 (by omega) (by omega) (by omega) (Or.inr ⟨by omega, by omega⟩) (by omega)
                            simp only [hs_hs, zChim_s]
                            exact k_sub q1 (And.intro rfl (And.intro rfl (And.intro rfl trivial))))
                        · try (exfalso; omega)
                          all_goals (
                            refine k_aload_n C dX8_partFour_61 rfl ?_
                            refine k_get C (k := 0) inX8 (ci := 8) rfl (by decide) fl_X8_7 dX8_partFour_62 (by repeat (first | exact hs_eq _ _ _ | refine hs_ne (by omega) ?_ | assumption)) rfl ?_
                            refine k_bipush C dX8_partFour_65 (by decide +kernel) ?_
                            refine k_dup2 C dX8_partFour_67 rfl rfl ?_
                            refine k_iaload C dX8_partFour_68 (by repeat (first | exact hs_eq _ _ _ | refine hs_ne (by omega) ?_ | assumption)) (by omega) (by omega) (by omega) ?_
                            try simp (disch := omega) only [hs_hs, zTake_ne, zChim_ne, zChim_2, zChim_16, iu_ne, iu_eq]
                            refine k_iload_n C dX8_partFour_69 rfl ?_
                            refine k_iload_n C dX8_partFour_70 rfl ?_
                            refine k_isub C dX8_partFour_71 ?_
                            refine k_iadd C dX8_partFour_72 ?_
                            refine k_iastore C dX8_partFour_73 (by repeat (first | exact hs_eq _ _ _ | refine hs_ne (by omega) ?_ | assumption)) (by omega) (by omega) (by omega) ?_
                            refine k_vret C hr dX8_partFour_74 ?_
                            refine ⟨rfl, ?_⟩
                            try simp only [hs_hs]
                            first
                              | (have hk : kk = 0 := by omega
                                 subst hk
                                 rw [zFour, if_neg (by omega), zChim_0])
                              | (have hm : mnI (zPhr zrr) (zrr 2 / 2) = kk := by unfold mnI; split <;> omega
                                 rw [zFour, if_pos (by omega), hm, show zPhr zrr - kk = 0 by omega, Int.add_zero, ← zChim_ne (z := zrr) (k := kk) (j := 17) (by omega) (by omega) (by omega), iu_self])
                              | (have hm : mnI (zPhr zrr) (zrr 2 / 2) = kk := by unfold mnI; split <;> omega
                                 rw [zFour, if_pos (by omega), hm, hpp1])))
                  · skip
                    rw [hsl] at hq45
                    refine k_if_ne (tgt := 98) C dX8_partFour_48 (by decide) ⟨by omega, by omega⟩ (fun c48 => ?_) (fun c48 => ?_)
                    · try (exfalso; omega)
                      all_goals (
                        refine k_vret C hr dX8_partFour_98 ?_
                        refine ⟨rfl, ?_⟩
                        try simp only [hs_hs]
                        first
                          | (have hk : kk = 0 := by omega
                             subst hk
                             rw [zFour, if_neg (by omega), zChim_0])
                          | (have hm : mnI (zPhr zrr) (zrr 2 / 2) = kk := by unfold mnI; split <;> omega
                             rw [zFour, if_pos (by omega), hm, show zPhr zrr - kk = 0 by omega, Int.add_zero, ← zChim_ne (z := zrr) (k := kk) (j := 17) (by omega) (by omega) (by omega), iu_self])
                          | (have hm : mnI (zPhr zrr) (zrr 2 / 2) = kk := by unfold mnI; split <;> omega
                             rw [zFour, if_pos (by omega), hm, hpp1]))
                    · try (exfalso; omega)
                      all_goals (
                        refine k_aload_n C dX8_partFour_51 rfl ?_
                        refine k_get C (k := 0) inX8 (ci := 8) rfl (by decide) fl_X8_7 dX8_partFour_52 (by repeat (first | exact hs_eq _ _ _ | refine hs_ne (by omega) ?_ | assumption)) rfl ?_
                        refine k_iconst C dX8_partFour_55 ?_
                        refine k_iaload C dX8_partFour_56 (by repeat (first | exact hs_eq _ _ _ | refine hs_ne (by omega) ?_ | assumption)) (by omega) (by omega) (by omega) ?_
                        try simp (disch := omega) only [hs_hs, zTake_ne, zChim_ne, zChim_2, zChim_16, iu_ne, iu_eq]
                        refine k_iconst C dX8_partFour_57 ?_
                        refine k_icmp_ge (tgt := 75) C dX8_partFour_58 (by decide) ⟨by omega, by omega⟩ ⟨by omega, by omega⟩ (fun c58 => ?_) (fun c58 => ?_)
                        · try (exfalso; omega)
                          all_goals (
                            refine k_aload_n C dX8_partFour_75 rfl ?_
                            refine k_iconst C dX8_partFour_76 ?_
                            refine k_iconst C dX8_partFour_77 ?_
                            refine k_callV C (n := 2) (as := [_, _]) (ct_X8_takes l D tc base obb zqq fss _ _ (by repeat (first | exact hs_eq _ _ _ | refine hs_ne (by omega) ?_ | assumption)) (by repeat (first | exact hs_eq _ _ _ | refine hs_ne (by omega) ?_ | assumption)) hne _ _ (by omega) (by omega)) ml_X8_57 im_X8_takes se_X8_takes ini_X8 co_X8_takes ⟨rfl, by decide, by decide, by decide +kernel⟩ rfl (ci := 8) rfl (by repeat (first | exact hs_eq _ _ _ | refine hs_ne (by omega) ?_ | assumption)) ⟨by decide, by decide⟩ rfl (Nat.le_of_ble_eq_true rfl) ⟨Nat.zero_le _, Nat.zero_le _⟩ dX8_partFour_78 ?_
                            rintro _ _ ⟨rfl, rfl⟩
                            refine k_aload_n C dX8_partFour_81 rfl ?_
                            refine k_get C (k := 0) inX8 (ci := 8) rfl (by decide) fl_X8_7 dX8_partFour_82 (by repeat (first | exact hs_eq _ _ _ | refine hs_ne (by omega) ?_ | assumption)) rfl ?_
                            refine k_bipush C dX8_partFour_85 (by decide +kernel) ?_
                            refine k_dup2 C dX8_partFour_87 rfl rfl ?_
                            refine k_iaload C dX8_partFour_88 (by repeat (first | exact hs_eq _ _ _ | refine hs_ne (by omega) ?_ | assumption)) (by omega) (by omega) (by omega) ?_
                            try simp (disch := omega) only [hs_hs, zTake_ne, zChim_ne, zChim_2, zChim_16, iu_ne, iu_eq]
                            refine k_iconst C dX8_partFour_89 ?_
                            refine k_iadd C dX8_partFour_90 ?_
                            refine k_iastore C dX8_partFour_91 (by repeat (first | exact hs_eq _ _ _ | refine hs_ne (by omega) ?_ | assumption)) (by omega) (by omega) (by omega) ?_
                            refine k_iinc C dX8_partFour_92 rfl (by decide) rfl ?_
                            refine k_goto (tgt := 26) C dX8_partFour_95 (by decide) ?_
                            have q1 := ih pp (kk + 1) hpp1 (by omega) (by omega) (by omega) (Or.inr ⟨by omega, by omega⟩) (by omega)
                            simp only [hs_hs, zChim_s]
                            exact k_sub q1 (And.intro rfl (And.intro rfl (And.intro rfl trivial))))
                        · try (exfalso; omega)
                          all_goals (
                            refine k_aload_n C dX8_partFour_61 rfl ?_
                            refine k_get C (k := 0) inX8 (ci := 8) rfl (by decide) fl_X8_7 dX8_partFour_62 (by repeat (first | exact hs_eq _ _ _ | refine hs_ne (by omega) ?_ | assumption)) rfl ?_
                            refine k_bipush C dX8_partFour_65 (by decide +kernel) ?_
                            refine k_dup2 C dX8_partFour_67 rfl rfl ?_
                            refine k_iaload C dX8_partFour_68 (by repeat (first | exact hs_eq _ _ _ | refine hs_ne (by omega) ?_ | assumption)) (by omega) (by omega) (by omega) ?_
                            try simp (disch := omega) only [hs_hs, zTake_ne, zChim_ne, zChim_2, zChim_16, iu_ne, iu_eq]
                            refine k_iload_n C dX8_partFour_69 rfl ?_
                            refine k_iload_n C dX8_partFour_70 rfl ?_
                            refine k_isub C dX8_partFour_71 ?_
                            refine k_iadd C dX8_partFour_72 ?_
                            refine k_iastore C dX8_partFour_73 (by repeat (first | exact hs_eq _ _ _ | refine hs_ne (by omega) ?_ | assumption)) (by omega) (by omega) (by omega) ?_
                            refine k_vret C hr dX8_partFour_74 ?_
                            refine ⟨rfl, ?_⟩
                            try simp only [hs_hs]
                            first
                              | (have hk : kk = 0 := by omega
                                 subst hk
                                 rw [zFour, if_neg (by omega), zChim_0])
                              | (have hm : mnI (zPhr zrr) (zrr 2 / 2) = kk := by unfold mnI; split <;> omega
                                 rw [zFour, if_pos (by omega), hm, show zPhr zrr - kk = 0 by omega, Int.add_zero, ← zChim_ne (z := zrr) (k := kk) (j := 17) (by omega) (by omega) (by omega), iu_self])
                              | (have hm : mnI (zPhr zrr) (zrr 2 / 2) = kk := by unfold mnI; split <;> omega
                                 rw [zFour, if_pos (by omega), hm, hpp1])))))
      first
        | (have q1 := loop26 6 4 0 (by unfold zPhr; rw [if_pos (by omega)]) (by omega) (by omega) (by omega) (Or.inl rfl) (by omega)
           rw [zChim_0, hs_same hzq] at q1
           exact k_sub q1 (And.intro rfl (And.intro rfl (And.intro rfl trivial))))
        | (have q1 := loop26 6 (zrr 10 % 60 / 15) 0 (by unfold zPhr; rw [if_neg (by omega)]) (by omega) (by omega) (by omega) (Or.inl rfl) (by omega)
           rw [zChim_0, hs_same hzq] at q1
           exact k_sub q1 (And.intro rfl (And.intro rfl (And.intro rfl trivial)))))
  · try (exfalso; omega)
    all_goals (
      refine k_iconst C dX8_partFour_18 ?_
      refine k_goto (tgt := 23) C dX8_partFour_19 (by decide) ?_
      refine k_istore_n C dX8_partFour_23 (by decide) rfl ?_
      refine k_iconst C dX8_partFour_24 ?_
      refine k_istore_n C dX8_partFour_25 (by decide) rfl ?_
      have loop26 : ∀ (n : Nat) (pp kk : Int), pp = zPhr zrr → 0 ≤ kk → kk ≤ pp → 2 * kk ≤ zrr 2 → (kk = 0 ∨ (zrr 10 % 15 = 0 ∧ ¬ zSil zrr)) → pp - kk < (n : Int) → Wk D tc base 4 p l e (lvR 2) s m args below meth c 0 0 (MQ below (Qx D tc base (fun r h' => r = none ∧ h' = hs hpp zqq (eA 0 67 (zFour zrr)))) args s 0 0 (fun q => base ≤ q)) 26 [some (aR obb), none, some (aI pp), some (aI kk)] [] (hs hpp zqq (eA 0 67 (zChim zrr kk))) := by
        intro n
        induction n with
        | zero =>
          intro pp kk hpp1 hk0 hk1 hk2 hkc hmu
          exfalso
          omega
        | succ n ih =>
          intro pp kk hpp1 hk0 hk1 hk2 hkc hmu
          have hsl : zSil (zChim zrr kk) ↔ zSil zrr := by simp (disch := omega) only [zSil, zChim_ne]
          have hic := zInv_chim hi hk0 hk2
          refine k_iload_n C dX8_partFour_26 rfl ?_
          refine k_iload_n C dX8_partFour_27 rfl ?_
          refine k_icmp_ge (tgt := 98) C dX8_partFour_28 (by decide) ⟨by omega, by omega⟩ ⟨by omega, by omega⟩ (fun c28 => ?_) (fun c28 => ?_)
          · try (exfalso; omega)
            all_goals (
              refine k_vret C hr dX8_partFour_98 ?_
              refine ⟨rfl, ?_⟩
              try simp only [hs_hs]
              first
                | (have hk : kk = 0 := by omega
                   subst hk
                   rw [zFour, if_neg (by omega), zChim_0])
                | (have hm : mnI (zPhr zrr) (zrr 2 / 2) = kk := by unfold mnI; split <;> omega
                   rw [zFour, if_pos (by omega), hm, show zPhr zrr - kk = 0 by omega, Int.add_zero, ← zChim_ne (z := zrr) (k := kk) (j := 17) (by omega) (by omega) (by omega), iu_self])
                | (have hm : mnI (zPhr zrr) (zrr 2 / 2) = kk := by unfold mnI; split <;> omega
                   rw [zFour, if_pos (by omega), hm, hpp1]))
          · try (exfalso; omega)
            all_goals (
              refine k_aload_n C dX8_partFour_31 rfl ?_
              refine k_get C (k := 0) inX8 (ci := 8) rfl (by decide) fl_X8_7 dX8_partFour_32 (by repeat (first | exact hs_eq _ _ _ | refine hs_ne (by omega) ?_ | assumption)) rfl ?_
              refine k_bipush C dX8_partFour_35 (by decide +kernel) ?_
              refine k_iaload C dX8_partFour_37 (by repeat (first | exact hs_eq _ _ _ | refine hs_ne (by omega) ?_ | assumption)) (by omega) (by omega) (by omega) ?_
              try simp (disch := omega) only [hs_hs, zTake_ne, zChim_ne, zChim_2, zChim_16, iu_ne, iu_eq]
              refine k_bipush C dX8_partFour_38 (by decide +kernel) ?_
              refine k_irem C dX8_partFour_40 (by omega) (by omega) (by omega) (by omega) ?_
              refine k_if_ne (tgt := 98) C dX8_partFour_41 (by decide) ⟨by omega, by omega⟩ (fun c41 => ?_) (fun c41 => ?_)
              · try (exfalso; omega)
                all_goals (
                  refine k_vret C hr dX8_partFour_98 ?_
                  refine ⟨rfl, ?_⟩
                  try simp only [hs_hs]
                  first
                    | (have hk : kk = 0 := by omega
                       subst hk
                       rw [zFour, if_neg (by omega), zChim_0])
                    | (have hm : mnI (zPhr zrr) (zrr 2 / 2) = kk := by unfold mnI; split <;> omega
                       rw [zFour, if_pos (by omega), hm, show zPhr zrr - kk = 0 by omega, Int.add_zero, ← zChim_ne (z := zrr) (k := kk) (j := 17) (by omega) (by omega) (by omega), iu_self])
                    | (have hm : mnI (zPhr zrr) (zrr 2 / 2) = kk := by unfold mnI; split <;> omega
                       rw [zFour, if_pos (by omega), hm, hpp1]))
              · try (exfalso; omega)
                all_goals (
                  refine k_aload_n C dX8_partFour_44 rfl ?_
                  refine k_callV C (n := 0) (as := []) (ct_X8_isSilent l D tc base obb zqq fss _ _ (by repeat (first | exact hs_eq _ _ _ | refine hs_ne (by omega) ?_ | assumption)) (by repeat (first | exact hs_eq _ _ _ | refine hs_ne (by omega) ?_ | assumption)) hne hic) ml_X8_61 im_X8_isSilent se_X8_isSilent ini_X8 co_X8_isSilent ⟨rfl, by decide, by decide, by decide +kernel⟩ rfl (ci := 8) rfl (by repeat (first | exact hs_eq _ _ _ | refine hs_ne (by omega) ?_ | assumption)) ⟨by decide, by decide⟩ rfl (Nat.le_of_ble_eq_true rfl) ⟨Nat.zero_le _, Nat.zero_le _⟩ dX8_partFour_45 ?_
                  rintro _ _ (⟨rfl, rfl, hq45⟩ | ⟨rfl, rfl, hq45⟩)
                  · skip
                    rw [hsl] at hq45
                    refine k_if_ne (tgt := 98) C dX8_partFour_48 (by decide) ⟨by omega, by omega⟩ (fun c48 => ?_) (fun c48 => ?_)
                    · try (exfalso; omega)
                      all_goals (
                        refine k_vret C hr dX8_partFour_98 ?_
                        refine ⟨rfl, ?_⟩
                        try simp only [hs_hs]
                        first
                          | (have hk : kk = 0 := by omega
                             subst hk
                             rw [zFour, if_neg (by omega), zChim_0])
                          | (have hm : mnI (zPhr zrr) (zrr 2 / 2) = kk := by unfold mnI; split <;> omega
                             rw [zFour, if_pos (by omega), hm, show zPhr zrr - kk = 0 by omega, Int.add_zero, ← zChim_ne (z := zrr) (k := kk) (j := 17) (by omega) (by omega) (by omega), iu_self])
                          | (have hm : mnI (zPhr zrr) (zrr 2 / 2) = kk := by unfold mnI; split <;> omega
                             rw [zFour, if_pos (by omega), hm, hpp1]))
                    · try (exfalso; omega)
                      all_goals (
                        refine k_aload_n C dX8_partFour_51 rfl ?_
                        refine k_get C (k := 0) inX8 (ci := 8) rfl (by decide) fl_X8_7 dX8_partFour_52 (by repeat (first | exact hs_eq _ _ _ | refine hs_ne (by omega) ?_ | assumption)) rfl ?_
                        refine k_iconst C dX8_partFour_55 ?_
                        refine k_iaload C dX8_partFour_56 (by repeat (first | exact hs_eq _ _ _ | refine hs_ne (by omega) ?_ | assumption)) (by omega) (by omega) (by omega) ?_
                        try simp (disch := omega) only [hs_hs, zTake_ne, zChim_ne, zChim_2, zChim_16, iu_ne, iu_eq]
                        refine k_iconst C dX8_partFour_57 ?_
                        refine k_icmp_ge (tgt := 75) C dX8_partFour_58 (by decide) ⟨by omega, by omega⟩ ⟨by omega, by omega⟩ (fun c58 => ?_) (fun c58 => ?_)
                        · try (exfalso; omega)
                          all_goals (
                            refine k_aload_n C dX8_partFour_75 rfl ?_
                            refine k_iconst C dX8_partFour_76 ?_
                            refine k_iconst C dX8_partFour_77 ?_
                            refine k_callV C (n := 2) (as := [_, _]) (ct_X8_takes l D tc base obb zqq fss _ _ (by repeat (first | exact hs_eq _ _ _ | refine hs_ne (by omega) ?_ | assumption)) (by repeat (first | exact hs_eq _ _ _ | refine hs_ne (by omega) ?_ | assumption)) hne _ _ (by omega) (by omega)) ml_X8_57 im_X8_takes se_X8_takes ini_X8 co_X8_takes ⟨rfl, by decide, by decide, by decide +kernel⟩ rfl (ci := 8) rfl (by repeat (first | exact hs_eq _ _ _ | refine hs_ne (by omega) ?_ | assumption)) ⟨by decide, by decide⟩ rfl (Nat.le_of_ble_eq_true rfl) ⟨Nat.zero_le _, Nat.zero_le _⟩ dX8_partFour_78 ?_
                            rintro _ _ ⟨rfl, rfl⟩
                            refine k_aload_n C dX8_partFour_81 rfl ?_
                            refine k_get C (k := 0) inX8 (ci := 8) rfl (by decide) fl_X8_7 dX8_partFour_82 (by repeat (first | exact hs_eq _ _ _ | refine hs_ne (by omega) ?_ | assumption)) rfl ?_
                            refine k_bipush C dX8_partFour_85 (by decide +kernel) ?_
                            refine k_dup2 C dX8_partFour_87 rfl rfl ?_
                            refine k_iaload C dX8_partFour_88 (by repeat (first | exact hs_eq _ _ _ | refine hs_ne (by omega) ?_ | assumption)) (by omega) (by omega) (by omega) ?_
                            try simp (disch := omega) only [hs_hs, zTake_ne, zChim_ne, zChim_2, zChim_16, iu_ne, iu_eq]
                            refine k_iconst C dX8_partFour_89 ?_
                            refine k_iadd C dX8_partFour_90 ?_
                            refine k_iastore C dX8_partFour_91 (by repeat (first | exact hs_eq _ _ _ | refine hs_ne (by omega) ?_ | assumption)) (by omega) (by omega) (by omega) ?_
                            refine k_iinc C dX8_partFour_92 rfl (by decide) rfl ?_
                            refine k_goto (tgt := 26) C dX8_partFour_95 (by decide) ?_
                            have q1 := ih pp (kk + 1) hpp1 (by omega) (by omega) (by omega) (Or.inr ⟨by omega, by omega⟩) (by omega)
                            simp only [hs_hs, zChim_s]
                            exact k_sub q1 (And.intro rfl (And.intro rfl (And.intro rfl trivial))))
                        · try (exfalso; omega)
                          all_goals (
                            refine k_aload_n C dX8_partFour_61 rfl ?_
                            refine k_get C (k := 0) inX8 (ci := 8) rfl (by decide) fl_X8_7 dX8_partFour_62 (by repeat (first | exact hs_eq _ _ _ | refine hs_ne (by omega) ?_ | assumption)) rfl ?_
                            refine k_bipush C dX8_partFour_65 (by decide +kernel) ?_
                            refine k_dup2 C dX8_partFour_67 rfl rfl ?_
                            refine k_iaload C dX8_partFour_68 (by repeat (first | exact hs_eq _ _ _ | refine hs_ne (by omega) ?_ | assumption)) (by omega) (by omega) (by omega) ?_
                            try simp (disch := omega) only [hs_hs, zTake_ne, zChim_ne, zChim_2, zChim_16, iu_ne, iu_eq]
                            refine k_iload_n C dX8_partFour_69 rfl ?_
                            refine k_iload_n C dX8_partFour_70 rfl ?_
                            refine k_isub C dX8_partFour_71 ?_
                            refine k_iadd C dX8_partFour_72 ?_
                            refine k_iastore C dX8_partFour_73 (by repeat (first | exact hs_eq _ _ _ | refine hs_ne (by omega) ?_ | assumption)) (by omega) (by omega) (by omega) ?_
                            refine k_vret C hr dX8_partFour_74 ?_
                            refine ⟨rfl, ?_⟩
                            try simp only [hs_hs]
                            first
                              | (have hk : kk = 0 := by omega
                                 subst hk
                                 rw [zFour, if_neg (by omega), zChim_0])
                              | (have hm : mnI (zPhr zrr) (zrr 2 / 2) = kk := by unfold mnI; split <;> omega
                                 rw [zFour, if_pos (by omega), hm, show zPhr zrr - kk = 0 by omega, Int.add_zero, ← zChim_ne (z := zrr) (k := kk) (j := 17) (by omega) (by omega) (by omega), iu_self])
                              | (have hm : mnI (zPhr zrr) (zrr 2 / 2) = kk := by unfold mnI; split <;> omega
                                 rw [zFour, if_pos (by omega), hm, hpp1])))
                  · skip
                    rw [hsl] at hq45
                    refine k_if_ne (tgt := 98) C dX8_partFour_48 (by decide) ⟨by omega, by omega⟩ (fun c48 => ?_) (fun c48 => ?_)
                    · try (exfalso; omega)
                      all_goals (
                        refine k_vret C hr dX8_partFour_98 ?_
                        refine ⟨rfl, ?_⟩
                        try simp only [hs_hs]
                        first
                          | (have hk : kk = 0 := by omega
                             subst hk
                             rw [zFour, if_neg (by omega), zChim_0])
                          | (have hm : mnI (zPhr zrr) (zrr 2 / 2) = kk := by unfold mnI; split <;> omega
                             rw [zFour, if_pos (by omega), hm, show zPhr zrr - kk = 0 by omega, Int.add_zero, ← zChim_ne (z := zrr) (k := kk) (j := 17) (by omega) (by omega) (by omega), iu_self])
                          | (have hm : mnI (zPhr zrr) (zrr 2 / 2) = kk := by unfold mnI; split <;> omega
                             rw [zFour, if_pos (by omega), hm, hpp1]))
                    · try (exfalso; omega)
                      all_goals (
                        refine k_aload_n C dX8_partFour_51 rfl ?_
                        refine k_get C (k := 0) inX8 (ci := 8) rfl (by decide) fl_X8_7 dX8_partFour_52 (by repeat (first | exact hs_eq _ _ _ | refine hs_ne (by omega) ?_ | assumption)) rfl ?_
                        refine k_iconst C dX8_partFour_55 ?_
                        refine k_iaload C dX8_partFour_56 (by repeat (first | exact hs_eq _ _ _ | refine hs_ne (by omega) ?_ | assumption)) (by omega) (by omega) (by omega) ?_
                        try simp (disch := omega) only [hs_hs, zTake_ne, zChim_ne, zChim_2, zChim_16, iu_ne, iu_eq]
                        refine k_iconst C dX8_partFour_57 ?_
                        refine k_icmp_ge (tgt := 75) C dX8_partFour_58 (by decide) ⟨by omega, by omega⟩ ⟨by omega, by omega⟩ (fun c58 => ?_) (fun c58 => ?_)
                        · try (exfalso; omega)
                          all_goals (
                            refine k_aload_n C dX8_partFour_75 rfl ?_
                            refine k_iconst C dX8_partFour_76 ?_
                            refine k_iconst C dX8_partFour_77 ?_
                            refine k_callV C (n := 2) (as := [_, _]) (ct_X8_takes l D tc base obb zqq fss _ _ (by repeat (first | exact hs_eq _ _ _ | refine hs_ne (by omega) ?_ | assumption)) (by repeat (first | exact hs_eq _ _ _ | refine hs_ne (by omega) ?_ | assumption)) hne _ _ (by omega) (by omega)) ml_X8_57 im_X8_takes se_X8_takes ini_X8 co_X8_takes ⟨rfl, by decide, by decide, by decide +kernel⟩ rfl (ci := 8) rfl (by repeat (first | exact hs_eq _ _ _ | refine hs_ne (by omega) ?_ | assumption)) ⟨by decide, by decide⟩ rfl (Nat.le_of_ble_eq_true rfl) ⟨Nat.zero_le _, Nat.zero_le _⟩ dX8_partFour_78 ?_
                            rintro _ _ ⟨rfl, rfl⟩
                            refine k_aload_n C dX8_partFour_81 rfl ?_
                            refine k_get C (k := 0) inX8 (ci := 8) rfl (by decide) fl_X8_7 dX8_partFour_82 (by repeat (first | exact hs_eq _ _ _ | refine hs_ne (by omega) ?_ | assumption)) rfl ?_
                            refine k_bipush C dX8_partFour_85 (by decide +kernel) ?_
                            refine k_dup2 C dX8_partFour_87 rfl rfl ?_
                            refine k_iaload C dX8_partFour_88 (by repeat (first | exact hs_eq _ _ _ | refine hs_ne (by omega) ?_ | assumption)) (by omega) (by omega) (by omega) ?_
                            try simp (disch := omega) only [hs_hs, zTake_ne, zChim_ne, zChim_2, zChim_16, iu_ne, iu_eq]
                            refine k_iconst C dX8_partFour_89 ?_
                            refine k_iadd C dX8_partFour_90 ?_
                            refine k_iastore C dX8_partFour_91 (by repeat (first | exact hs_eq _ _ _ | refine hs_ne (by omega) ?_ | assumption)) (by omega) (by omega) (by omega) ?_
                            refine k_iinc C dX8_partFour_92 rfl (by decide) rfl ?_
                            refine k_goto (tgt := 26) C dX8_partFour_95 (by decide) ?_
                            have q1 := ih pp (kk + 1) hpp1 (by omega) (by omega) (by omega) (Or.inr ⟨by omega, by omega⟩) (by omega)
                            simp only [hs_hs, zChim_s]
                            exact k_sub q1 (And.intro rfl (And.intro rfl (And.intro rfl trivial))))
                        · try (exfalso; omega)
                          all_goals (
                            refine k_aload_n C dX8_partFour_61 rfl ?_
                            refine k_get C (k := 0) inX8 (ci := 8) rfl (by decide) fl_X8_7 dX8_partFour_62 (by repeat (first | exact hs_eq _ _ _ | refine hs_ne (by omega) ?_ | assumption)) rfl ?_
                            refine k_bipush C dX8_partFour_65 (by decide +kernel) ?_
                            refine k_dup2 C dX8_partFour_67 rfl rfl ?_
                            refine k_iaload C dX8_partFour_68 (by repeat (first | exact hs_eq _ _ _ | refine hs_ne (by omega) ?_ | assumption)) (by omega) (by omega) (by omega) ?_
                            try simp (disch := omega) only [hs_hs, zTake_ne, zChim_ne, zChim_2, zChim_16, iu_ne, iu_eq]
                            refine k_iload_n C dX8_partFour_69 rfl ?_
                            refine k_iload_n C dX8_partFour_70 rfl ?_
                            refine k_isub C dX8_partFour_71 ?_
                            refine k_iadd C dX8_partFour_72 ?_
                            refine k_iastore C dX8_partFour_73 (by repeat (first | exact hs_eq _ _ _ | refine hs_ne (by omega) ?_ | assumption)) (by omega) (by omega) (by omega) ?_
                            refine k_vret C hr dX8_partFour_74 ?_
                            refine ⟨rfl, ?_⟩
                            try simp only [hs_hs]
                            first
                              | (have hk : kk = 0 := by omega
                                 subst hk
                                 rw [zFour, if_neg (by omega), zChim_0])
                              | (have hm : mnI (zPhr zrr) (zrr 2 / 2) = kk := by unfold mnI; split <;> omega
                                 rw [zFour, if_pos (by omega), hm, show zPhr zrr - kk = 0 by omega, Int.add_zero, ← zChim_ne (z := zrr) (k := kk) (j := 17) (by omega) (by omega) (by omega), iu_self])
                              | (have hm : mnI (zPhr zrr) (zrr 2 / 2) = kk := by unfold mnI; split <;> omega
                                 rw [zFour, if_pos (by omega), hm, hpp1])))))
      first
        | (have q1 := loop26 6 4 0 (by unfold zPhr; rw [if_pos (by omega)]) (by omega) (by omega) (by omega) (Or.inl rfl) (by omega)
           rw [zChim_0, hs_same hzq] at q1
           exact k_sub q1 (And.intro rfl (And.intro rfl (And.intro rfl trivial))))
        | (have q1 := loop26 6 (zrr 10 % 60 / 15) 0 (by unfold zPhr; rw [if_neg (by omega)]) (by omega) (by omega) (by omega) (Or.inl rfl) (by omega)
           rw [zChim_0, hs_same hzq] at q1
           exact k_sub q1 (And.intro rfl (And.intro rfl (And.intro rfl trivial)))))

set_option maxRecDepth 20000 in
set_option maxHeartbeats 1000000 in
theorem ct_X8_partFive (l : Launch) (D : va_G) (tc : Nat → ClassId) (base : Nat) (obb zqq : Nat) (fss : List AV) (zrr : RZ) (hpp : AH) (hob : hpp obb = some (eO 8 (aR zqq :: fss))) (hzq : hpp zqq = some (eA 0 67 zrr)) (hne : obb ≠ zqq) (hi : zInv zrr) : CT l D tc base yX8_partFive cX8_partFive 2 none 2 [aR obb] hpp (fun r h' => r = none ∧ h' = hs hpp zqq (eA 0 67 (zFive zrr))) := by
  refine CT.of [some (aR obb), none] (by decide +kernel) rfl (Nat.le_of_ble_eq_true rfl) ?_
  intro p e s m args below meth c C hr hnm
  obtain ⟨⟨g0, g1, g2, g9, g10, g11, g12, g13, g21, g52, g61, g62, g63, g64, g65, g66⟩, hwi, hde⟩ := id hi
  have hhr := zHour_rng g10.1 g10.2
  refine k_aload_n C dX8_partFive_0 rfl ?_
  refine k_get C (k := 0) inX8 (ci := 8) rfl (by decide) fl_X8_7 dX8_partFive_1 (by repeat (first | exact hs_eq _ _ _ | refine hs_ne (by omega) ?_ | assumption)) rfl ?_
  refine k_bipush C dX8_partFive_4 (by decide +kernel) ?_
  refine k_iaload C dX8_partFive_6 (by repeat (first | exact hs_eq _ _ _ | refine hs_ne (by omega) ?_ | assumption)) (by omega) (by omega) (by omega) ?_
  refine k_callS C (n := 1) (as := [_]) (ct_X8_hourOf l D tc base _ _ (by omega) (by omega)) ml_X8_32 sm_X8_hourOf ini_X8 co_X8_hourOf ⟨by decide, by decide, by decide +kernel⟩ rfl ⟨by decide, by decide⟩ rfl (Nat.le_of_ble_eq_true rfl) ⟨Nat.zero_le _, Nat.zero_le _⟩ dX8_partFive_7 ?_
  rintro _ _ ⟨rfl, rfl⟩
  refine k_istore_n C dX8_partFive_10 (by decide) rfl ?_
  refine k_aload_n C dX8_partFive_11 rfl ?_
  refine k_get C (k := 0) inX8 (ci := 8) rfl (by decide) fl_X8_7 dX8_partFive_12 (by repeat (first | exact hs_eq _ _ _ | refine hs_ne (by omega) ?_ | assumption)) rfl ?_
  refine k_bipush C dX8_partFive_15 (by decide +kernel) ?_
  refine k_iaload C dX8_partFive_17 (by repeat (first | exact hs_eq _ _ _ | refine hs_ne (by omega) ?_ | assumption)) (by omega) (by omega) (by omega) ?_
  refine k_bipush C dX8_partFive_18 (by decide +kernel) ?_
  refine k_irem C dX8_partFive_20 (by omega) (by omega) (by omega) (by omega) ?_
  refine k_if_eq (tgt := 25) C dX8_partFive_21 (by decide) ⟨by omega, by omega⟩ (fun c21 => ?_) (fun c21 => ?_)
  · try (exfalso; omega)
    all_goals (
      refine k_aload_n C dX8_partFive_25 rfl ?_
      refine k_callV C (n := 0) (as := []) (ct_X8_isSilent l D tc base obb zqq fss _ _ (by repeat (first | exact hs_eq _ _ _ | refine hs_ne (by omega) ?_ | assumption)) (by repeat (first | exact hs_eq _ _ _ | refine hs_ne (by omega) ?_ | assumption)) hne hi) ml_X8_61 im_X8_isSilent se_X8_isSilent ini_X8 co_X8_isSilent ⟨rfl, by decide, by decide, by decide +kernel⟩ rfl (ci := 8) rfl (by repeat (first | exact hs_eq _ _ _ | refine hs_ne (by omega) ?_ | assumption)) ⟨by decide, by decide⟩ rfl (Nat.le_of_ble_eq_true rfl) ⟨Nat.zero_le _, Nat.zero_le _⟩ dX8_partFive_26 ?_
      rintro _ _ (⟨rfl, rfl, hq26⟩ | ⟨rfl, rfl, hq26⟩)
      · skip
        refine k_if_eq (tgt := 44) C dX8_partFive_29 (by decide) ⟨by omega, by omega⟩ (fun c29 => ?_) (fun c29 => ?_)
        · try (exfalso; omega)
          all_goals (
            refine k_aload_n C dX8_partFive_44 rfl ?_
            refine k_get C (k := 0) inX8 (ci := 8) rfl (by decide) fl_X8_7 dX8_partFive_45 (by repeat (first | exact hs_eq _ _ _ | refine hs_ne (by omega) ?_ | assumption)) rfl ?_
            refine k_bipush C dX8_partFive_48 (by decide +kernel) ?_
            refine k_iaload C dX8_partFive_50 (by repeat (first | exact hs_eq _ _ _ | refine hs_ne (by omega) ?_ | assumption)) (by omega) (by omega) (by omega) ?_
            refine k_iconst C dX8_partFive_51 ?_
            refine k_icmp_ne (tgt := 76) C dX8_partFive_52 (by decide) ⟨by omega, by omega⟩ ⟨by omega, by omega⟩ (fun c52 => ?_) (fun c52 => ?_)
            · try (exfalso; omega)
              all_goals (
                refine k_aload_n C dX8_partFive_76 rfl ?_
                refine k_get C (k := 0) inX8 (ci := 8) rfl (by decide) fl_X8_7 dX8_partFive_77 (by repeat (first | exact hs_eq _ _ _ | refine hs_ne (by omega) ?_ | assumption)) rfl ?_
                refine k_bipush C dX8_partFive_80 (by decide +kernel) ?_
                refine k_iconst C dX8_partFive_82 ?_
                refine k_aload_n C dX8_partFive_83 rfl ?_
                refine k_get C (k := 0) inX8 (ci := 8) rfl (by decide) fl_X8_7 dX8_partFive_84 (by repeat (first | exact hs_eq _ _ _ | refine hs_ne (by omega) ?_ | assumption)) rfl ?_
                refine k_bipush C dX8_partFive_87 (by decide +kernel) ?_
                refine k_iaload C dX8_partFive_89 (by repeat (first | exact hs_eq _ _ _ | refine hs_ne (by omega) ?_ | assumption)) (by omega) (by omega) (by omega) ?_
                refine k_imul C dX8_partFive_90 ?_
                refine k_iadd C dX8_partFive_91 ?_
                refine k_iload_n C dX8_partFive_92 rfl ?_
                refine k_iastore C dX8_partFive_93 (by repeat (first | exact hs_eq _ _ _ | refine hs_ne (by omega) ?_ | assumption)) (by omega) (by omega) (by omega) ?_
                refine k_aload_n C dX8_partFive_94 rfl ?_
                refine k_get C (k := 0) inX8 (ci := 8) rfl (by decide) fl_X8_7 dX8_partFive_95 (by repeat (first | exact hs_eq _ _ _ | refine hs_ne (by omega) ?_ | assumption)) rfl ?_
                refine k_bipush C dX8_partFive_98 (by decide +kernel) ?_
                refine k_iconst C dX8_partFive_100 ?_
                refine k_aload_n C dX8_partFive_101 rfl ?_
                refine k_get C (k := 0) inX8 (ci := 8) rfl (by decide) fl_X8_7 dX8_partFive_102 (by repeat (first | exact hs_eq _ _ _ | refine hs_ne (by omega) ?_ | assumption)) rfl ?_
                refine k_bipush C dX8_partFive_105 (by decide +kernel) ?_
                refine k_iaload C dX8_partFive_107 (by repeat (first | exact hs_eq _ _ _ | refine hs_ne (by omega) ?_ | assumption)) (by omega) (by omega) (by omega) ?_
                try simp (disch := omega) only [hs_hs, zDrop_52, iu_ne, iu_eq]
                refine k_imul C dX8_partFive_108 ?_
                refine k_iadd C dX8_partFive_109 ?_
                refine k_iconst C dX8_partFive_110 ?_
                refine k_iadd C dX8_partFive_111 ?_
                refine k_iload_n C dX8_partFive_112 rfl ?_
                refine k_iastore C dX8_partFive_113 (by repeat (first | exact hs_eq _ _ _ | refine hs_ne (by omega) ?_ | assumption)) (by omega) (by omega) (by omega) ?_
                refine k_aload_n C dX8_partFive_114 rfl ?_
                refine k_get C (k := 0) inX8 (ci := 8) rfl (by decide) fl_X8_7 dX8_partFive_115 (by repeat (first | exact hs_eq _ _ _ | refine hs_ne (by omega) ?_ | assumption)) rfl ?_
                refine k_bipush C dX8_partFive_118 (by decide +kernel) ?_
                refine k_dup2 C dX8_partFive_120 rfl rfl ?_
                refine k_iaload C dX8_partFive_121 (by repeat (first | exact hs_eq _ _ _ | refine hs_ne (by omega) ?_ | assumption)) (by omega) (by omega) (by omega) ?_
                try simp (disch := omega) only [hs_hs, zDrop_52, iu_ne, iu_eq]
                refine k_iconst C dX8_partFive_122 ?_
                refine k_iadd C dX8_partFive_123 ?_
                refine k_iastore C dX8_partFive_124 (by repeat (first | exact hs_eq _ _ _ | refine hs_ne (by omega) ?_ | assumption)) (by omega) (by omega) (by omega) ?_
                refine k_vret C hr dX8_partFive_125 ?_
                refine ⟨rfl, ?_⟩
                try simp only [hs_hs]
                first
                  | (rw [zFive, if_pos (by omega)]; exact (hs_same hzq).symm)
                  | (rw [zFive, if_neg (by omega), if_pos (by omega)])
                  | (have hmk : zMk zrr = zrr := if_neg (by omega)
                     rw [zFive, if_neg (by omega), if_neg (by omega), hmk])
                  | (have hmk : zMk zrr = zDrop (iu zrr 15 (zrr 15 + zrr 54)) := if_pos (by omega)
                     rw [zFive, if_neg (by omega), if_neg (by omega), hmk]
                     simp (disch := omega) only [zDrop_52, iu_ne, iu_eq]))
            · try (exfalso; omega)
              all_goals (
                refine k_aload_n C dX8_partFive_55 rfl ?_
                refine k_get C (k := 0) inX8 (ci := 8) rfl (by decide) fl_X8_7 dX8_partFive_56 (by repeat (first | exact hs_eq _ _ _ | refine hs_ne (by omega) ?_ | assumption)) rfl ?_
                refine k_bipush C dX8_partFive_59 (by decide +kernel) ?_
                refine k_dup2 C dX8_partFive_61 rfl rfl ?_
                refine k_iaload C dX8_partFive_62 (by repeat (first | exact hs_eq _ _ _ | refine hs_ne (by omega) ?_ | assumption)) (by omega) (by omega) (by omega) ?_
                refine k_aload_n C dX8_partFive_63 rfl ?_
                refine k_get C (k := 0) inX8 (ci := 8) rfl (by decide) fl_X8_7 dX8_partFive_64 (by repeat (first | exact hs_eq _ _ _ | refine hs_ne (by omega) ?_ | assumption)) rfl ?_
                refine k_bipush C dX8_partFive_67 (by decide +kernel) ?_
                refine k_iaload C dX8_partFive_69 (by repeat (first | exact hs_eq _ _ _ | refine hs_ne (by omega) ?_ | assumption)) (by omega) (by omega) (by omega) ?_
                refine k_iadd C dX8_partFive_70 ?_
                refine k_iastore C dX8_partFive_71 (by repeat (first | exact hs_eq _ _ _ | refine hs_ne (by omega) ?_ | assumption)) (by omega) (by omega) (by omega) ?_
                refine k_aload_n C dX8_partFive_72 rfl ?_
                refine k_callV C (n := 0) (as := []) (ct_X8_dropDebt l D tc base obb zqq fss _ _ (by repeat (first | exact hs_eq _ _ _ | refine hs_ne (by omega) ?_ | assumption)) (by repeat (first | exact hs_eq _ _ _ | refine hs_ne (by omega) ?_ | assumption)) hne (by rw [iu_ne (by omega)]; omega) (by rw [iu_ne (by omega)]; omega)) ml_X8_65 im_X8_dropDebt se_X8_dropDebt ini_X8 co_X8_dropDebt ⟨rfl, by decide, by decide, by decide +kernel⟩ rfl (ci := 8) rfl (by repeat (first | exact hs_eq _ _ _ | refine hs_ne (by omega) ?_ | assumption)) ⟨by decide, by decide⟩ rfl (Nat.le_of_ble_eq_true rfl) ⟨Nat.zero_le _, Nat.zero_le _⟩ dX8_partFive_73 ?_
                rintro _ _ ⟨rfl, rfl⟩
                refine k_aload_n C dX8_partFive_76 rfl ?_
                refine k_get C (k := 0) inX8 (ci := 8) rfl (by decide) fl_X8_7 dX8_partFive_77 (by repeat (first | exact hs_eq _ _ _ | refine hs_ne (by omega) ?_ | assumption)) rfl ?_
                refine k_bipush C dX8_partFive_80 (by decide +kernel) ?_
                refine k_iconst C dX8_partFive_82 ?_
                refine k_aload_n C dX8_partFive_83 rfl ?_
                refine k_get C (k := 0) inX8 (ci := 8) rfl (by decide) fl_X8_7 dX8_partFive_84 (by repeat (first | exact hs_eq _ _ _ | refine hs_ne (by omega) ?_ | assumption)) rfl ?_
                refine k_bipush C dX8_partFive_87 (by decide +kernel) ?_
                refine k_iaload C dX8_partFive_89 (by repeat (first | exact hs_eq _ _ _ | refine hs_ne (by omega) ?_ | assumption)) (by omega) (by omega) (by omega) ?_
                try simp (disch := omega) only [hs_hs, zDrop_52, iu_ne, iu_eq]
                refine k_imul C dX8_partFive_90 ?_
                refine k_iadd C dX8_partFive_91 ?_
                refine k_iload_n C dX8_partFive_92 rfl ?_
                refine k_iastore C dX8_partFive_93 (by repeat (first | exact hs_eq _ _ _ | refine hs_ne (by omega) ?_ | assumption)) (by omega) (by omega) (by omega) ?_
                refine k_aload_n C dX8_partFive_94 rfl ?_
                refine k_get C (k := 0) inX8 (ci := 8) rfl (by decide) fl_X8_7 dX8_partFive_95 (by repeat (first | exact hs_eq _ _ _ | refine hs_ne (by omega) ?_ | assumption)) rfl ?_
                refine k_bipush C dX8_partFive_98 (by decide +kernel) ?_
                refine k_iconst C dX8_partFive_100 ?_
                refine k_aload_n C dX8_partFive_101 rfl ?_
                refine k_get C (k := 0) inX8 (ci := 8) rfl (by decide) fl_X8_7 dX8_partFive_102 (by repeat (first | exact hs_eq _ _ _ | refine hs_ne (by omega) ?_ | assumption)) rfl ?_
                refine k_bipush C dX8_partFive_105 (by decide +kernel) ?_
                refine k_iaload C dX8_partFive_107 (by repeat (first | exact hs_eq _ _ _ | refine hs_ne (by omega) ?_ | assumption)) (by omega) (by omega) (by omega) ?_
                try simp (disch := omega) only [hs_hs, zDrop_52, iu_ne, iu_eq]
                refine k_imul C dX8_partFive_108 ?_
                refine k_iadd C dX8_partFive_109 ?_
                refine k_iconst C dX8_partFive_110 ?_
                refine k_iadd C dX8_partFive_111 ?_
                refine k_iload_n C dX8_partFive_112 rfl ?_
                refine k_iastore C dX8_partFive_113 (by repeat (first | exact hs_eq _ _ _ | refine hs_ne (by omega) ?_ | assumption)) (by omega) (by omega) (by omega) ?_
                refine k_aload_n C dX8_partFive_114 rfl ?_
                refine k_get C (k := 0) inX8 (ci := 8) rfl (by decide) fl_X8_7 dX8_partFive_115 (by repeat (first | exact hs_eq _ _ _ | refine hs_ne (by omega) ?_ | assumption)) rfl ?_
                refine k_bipush C dX8_partFive_118 (by decide +kernel) ?_
                refine k_dup2 C dX8_partFive_120 rfl rfl ?_
                refine k_iaload C dX8_partFive_121 (by repeat (first | exact hs_eq _ _ _ | refine hs_ne (by omega) ?_ | assumption)) (by omega) (by omega) (by omega) ?_
                try simp (disch := omega) only [hs_hs, zDrop_52, iu_ne, iu_eq]
                refine k_iconst C dX8_partFive_122 ?_
                refine k_iadd C dX8_partFive_123 ?_
                refine k_iastore C dX8_partFive_124 (by repeat (first | exact hs_eq _ _ _ | refine hs_ne (by omega) ?_ | assumption)) (by omega) (by omega) (by omega) ?_
                refine k_vret C hr dX8_partFive_125 ?_
                refine ⟨rfl, ?_⟩
                try simp only [hs_hs]
                first
                  | (rw [zFive, if_pos (by omega)]; exact (hs_same hzq).symm)
                  | (rw [zFive, if_neg (by omega), if_pos (by omega)])
                  | (have hmk : zMk zrr = zrr := if_neg (by omega)
                     rw [zFive, if_neg (by omega), if_neg (by omega), hmk])
                  | (have hmk : zMk zrr = zDrop (iu zrr 15 (zrr 15 + zrr 54)) := if_pos (by omega)
                     rw [zFive, if_neg (by omega), if_neg (by omega), hmk]
                     simp (disch := omega) only [zDrop_52, iu_ne, iu_eq])))
        · try (exfalso; omega)
          all_goals (
            refine k_aload_n C dX8_partFive_32 rfl ?_
            refine k_get C (k := 0) inX8 (ci := 8) rfl (by decide) fl_X8_7 dX8_partFive_33 (by repeat (first | exact hs_eq _ _ _ | refine hs_ne (by omega) ?_ | assumption)) rfl ?_
            refine k_bipush C dX8_partFive_36 (by decide +kernel) ?_
            refine k_dup2 C dX8_partFive_38 rfl rfl ?_
            refine k_iaload C dX8_partFive_39 (by repeat (first | exact hs_eq _ _ _ | refine hs_ne (by omega) ?_ | assumption)) (by omega) (by omega) (by omega) ?_
            refine k_iload_n C dX8_partFive_40 rfl ?_
            refine k_iadd C dX8_partFive_41 ?_
            refine k_iastore C dX8_partFive_42 (by repeat (first | exact hs_eq _ _ _ | refine hs_ne (by omega) ?_ | assumption)) (by omega) (by omega) (by omega) ?_
            refine k_vret C hr dX8_partFive_43 ?_
            refine ⟨rfl, ?_⟩
            try simp only [hs_hs]
            first
              | (rw [zFive, if_pos (by omega)]; exact (hs_same hzq).symm)
              | (rw [zFive, if_neg (by omega), if_pos (by omega)])
              | (have hmk : zMk zrr = zrr := if_neg (by omega)
                 rw [zFive, if_neg (by omega), if_neg (by omega), hmk])
              | (have hmk : zMk zrr = zDrop (iu zrr 15 (zrr 15 + zrr 54)) := if_pos (by omega)
                 rw [zFive, if_neg (by omega), if_neg (by omega), hmk]
                 simp (disch := omega) only [zDrop_52, iu_ne, iu_eq]))
      · skip
        refine k_if_eq (tgt := 44) C dX8_partFive_29 (by decide) ⟨by omega, by omega⟩ (fun c29 => ?_) (fun c29 => ?_)
        · try (exfalso; omega)
          all_goals (
            refine k_aload_n C dX8_partFive_44 rfl ?_
            refine k_get C (k := 0) inX8 (ci := 8) rfl (by decide) fl_X8_7 dX8_partFive_45 (by repeat (first | exact hs_eq _ _ _ | refine hs_ne (by omega) ?_ | assumption)) rfl ?_
            refine k_bipush C dX8_partFive_48 (by decide +kernel) ?_
            refine k_iaload C dX8_partFive_50 (by repeat (first | exact hs_eq _ _ _ | refine hs_ne (by omega) ?_ | assumption)) (by omega) (by omega) (by omega) ?_
            refine k_iconst C dX8_partFive_51 ?_
            refine k_icmp_ne (tgt := 76) C dX8_partFive_52 (by decide) ⟨by omega, by omega⟩ ⟨by omega, by omega⟩ (fun c52 => ?_) (fun c52 => ?_)
            · try (exfalso; omega)
              all_goals (
                refine k_aload_n C dX8_partFive_76 rfl ?_
                refine k_get C (k := 0) inX8 (ci := 8) rfl (by decide) fl_X8_7 dX8_partFive_77 (by repeat (first | exact hs_eq _ _ _ | refine hs_ne (by omega) ?_ | assumption)) rfl ?_
                refine k_bipush C dX8_partFive_80 (by decide +kernel) ?_
                refine k_iconst C dX8_partFive_82 ?_
                refine k_aload_n C dX8_partFive_83 rfl ?_
                refine k_get C (k := 0) inX8 (ci := 8) rfl (by decide) fl_X8_7 dX8_partFive_84 (by repeat (first | exact hs_eq _ _ _ | refine hs_ne (by omega) ?_ | assumption)) rfl ?_
                refine k_bipush C dX8_partFive_87 (by decide +kernel) ?_
                refine k_iaload C dX8_partFive_89 (by repeat (first | exact hs_eq _ _ _ | refine hs_ne (by omega) ?_ | assumption)) (by omega) (by omega) (by omega) ?_
                refine k_imul C dX8_partFive_90 ?_
                refine k_iadd C dX8_partFive_91 ?_
                refine k_iload_n C dX8_partFive_92 rfl ?_
                refine k_iastore C dX8_partFive_93 (by repeat (first | exact hs_eq _ _ _ | refine hs_ne (by omega) ?_ | assumption)) (by omega) (by omega) (by omega) ?_
                refine k_aload_n C dX8_partFive_94 rfl ?_
                refine k_get C (k := 0) inX8 (ci := 8) rfl (by decide) fl_X8_7 dX8_partFive_95 (by repeat (first | exact hs_eq _ _ _ | refine hs_ne (by omega) ?_ | assumption)) rfl ?_
                refine k_bipush C dX8_partFive_98 (by decide +kernel) ?_
                refine k_iconst C dX8_partFive_100 ?_
                refine k_aload_n C dX8_partFive_101 rfl ?_
                refine k_get C (k := 0) inX8 (ci := 8) rfl (by decide) fl_X8_7 dX8_partFive_102 (by repeat (first | exact hs_eq _ _ _ | refine hs_ne (by omega) ?_ | assumption)) rfl ?_
                refine k_bipush C dX8_partFive_105 (by decide +kernel) ?_
                refine k_iaload C dX8_partFive_107 (by repeat (first | exact hs_eq _ _ _ | refine hs_ne (by omega) ?_ | assumption)) (by omega) (by omega) (by omega) ?_
                try simp (disch := omega) only [hs_hs, zDrop_52, iu_ne, iu_eq]
                refine k_imul C dX8_partFive_108 ?_
                refine k_iadd C dX8_partFive_109 ?_
                refine k_iconst C dX8_partFive_110 ?_
                refine k_iadd C dX8_partFive_111 ?_
                refine k_iload_n C dX8_partFive_112 rfl ?_
                refine k_iastore C dX8_partFive_113 (by repeat (first | exact hs_eq _ _ _ | refine hs_ne (by omega) ?_ | assumption)) (by omega) (by omega) (by omega) ?_
                refine k_aload_n C dX8_partFive_114 rfl ?_
                refine k_get C (k := 0) inX8 (ci := 8) rfl (by decide) fl_X8_7 dX8_partFive_115 (by repeat (first | exact hs_eq _ _ _ | refine hs_ne (by omega) ?_ | assumption)) rfl ?_
                refine k_bipush C dX8_partFive_118 (by decide +kernel) ?_
                refine k_dup2 C dX8_partFive_120 rfl rfl ?_
                refine k_iaload C dX8_partFive_121 (by repeat (first | exact hs_eq _ _ _ | refine hs_ne (by omega) ?_ | assumption)) (by omega) (by omega) (by omega) ?_
                try simp (disch := omega) only [hs_hs, zDrop_52, iu_ne, iu_eq]
                refine k_iconst C dX8_partFive_122 ?_
                refine k_iadd C dX8_partFive_123 ?_
                refine k_iastore C dX8_partFive_124 (by repeat (first | exact hs_eq _ _ _ | refine hs_ne (by omega) ?_ | assumption)) (by omega) (by omega) (by omega) ?_
                refine k_vret C hr dX8_partFive_125 ?_
                refine ⟨rfl, ?_⟩
                try simp only [hs_hs]
                first
                  | (rw [zFive, if_pos (by omega)]; exact (hs_same hzq).symm)
                  | (rw [zFive, if_neg (by omega), if_pos (by omega)])
                  | (have hmk : zMk zrr = zrr := if_neg (by omega)
                     rw [zFive, if_neg (by omega), if_neg (by omega), hmk])
                  | (have hmk : zMk zrr = zDrop (iu zrr 15 (zrr 15 + zrr 54)) := if_pos (by omega)
                     rw [zFive, if_neg (by omega), if_neg (by omega), hmk]
                     simp (disch := omega) only [zDrop_52, iu_ne, iu_eq]))
            · try (exfalso; omega)
              all_goals (
                refine k_aload_n C dX8_partFive_55 rfl ?_
                refine k_get C (k := 0) inX8 (ci := 8) rfl (by decide) fl_X8_7 dX8_partFive_56 (by repeat (first | exact hs_eq _ _ _ | refine hs_ne (by omega) ?_ | assumption)) rfl ?_
                refine k_bipush C dX8_partFive_59 (by decide +kernel) ?_
                refine k_dup2 C dX8_partFive_61 rfl rfl ?_
                refine k_iaload C dX8_partFive_62 (by repeat (first | exact hs_eq _ _ _ | refine hs_ne (by omega) ?_ | assumption)) (by omega) (by omega) (by omega) ?_
                refine k_aload_n C dX8_partFive_63 rfl ?_
                refine k_get C (k := 0) inX8 (ci := 8) rfl (by decide) fl_X8_7 dX8_partFive_64 (by repeat (first | exact hs_eq _ _ _ | refine hs_ne (by omega) ?_ | assumption)) rfl ?_
                refine k_bipush C dX8_partFive_67 (by decide +kernel) ?_
                refine k_iaload C dX8_partFive_69 (by repeat (first | exact hs_eq _ _ _ | refine hs_ne (by omega) ?_ | assumption)) (by omega) (by omega) (by omega) ?_
                refine k_iadd C dX8_partFive_70 ?_
                refine k_iastore C dX8_partFive_71 (by repeat (first | exact hs_eq _ _ _ | refine hs_ne (by omega) ?_ | assumption)) (by omega) (by omega) (by omega) ?_
                refine k_aload_n C dX8_partFive_72 rfl ?_
                refine k_callV C (n := 0) (as := []) (ct_X8_dropDebt l D tc base obb zqq fss _ _ (by repeat (first | exact hs_eq _ _ _ | refine hs_ne (by omega) ?_ | assumption)) (by repeat (first | exact hs_eq _ _ _ | refine hs_ne (by omega) ?_ | assumption)) hne (by rw [iu_ne (by omega)]; omega) (by rw [iu_ne (by omega)]; omega)) ml_X8_65 im_X8_dropDebt se_X8_dropDebt ini_X8 co_X8_dropDebt ⟨rfl, by decide, by decide, by decide +kernel⟩ rfl (ci := 8) rfl (by repeat (first | exact hs_eq _ _ _ | refine hs_ne (by omega) ?_ | assumption)) ⟨by decide, by decide⟩ rfl (Nat.le_of_ble_eq_true rfl) ⟨Nat.zero_le _, Nat.zero_le _⟩ dX8_partFive_73 ?_
                rintro _ _ ⟨rfl, rfl⟩
                refine k_aload_n C dX8_partFive_76 rfl ?_
                refine k_get C (k := 0) inX8 (ci := 8) rfl (by decide) fl_X8_7 dX8_partFive_77 (by repeat (first | exact hs_eq _ _ _ | refine hs_ne (by omega) ?_ | assumption)) rfl ?_
                refine k_bipush C dX8_partFive_80 (by decide +kernel) ?_
                refine k_iconst C dX8_partFive_82 ?_
                refine k_aload_n C dX8_partFive_83 rfl ?_
                refine k_get C (k := 0) inX8 (ci := 8) rfl (by decide) fl_X8_7 dX8_partFive_84 (by repeat (first | exact hs_eq _ _ _ | refine hs_ne (by omega) ?_ | assumption)) rfl ?_
                refine k_bipush C dX8_partFive_87 (by decide +kernel) ?_
                refine k_iaload C dX8_partFive_89 (by repeat (first | exact hs_eq _ _ _ | refine hs_ne (by omega) ?_ | assumption)) (by omega) (by omega) (by omega) ?_
                try simp (disch := omega) only [hs_hs, zDrop_52, iu_ne, iu_eq]
                refine k_imul C dX8_partFive_90 ?_
                refine k_iadd C dX8_partFive_91 ?_
                refine k_iload_n C dX8_partFive_92 rfl ?_
                refine k_iastore C dX8_partFive_93 (by repeat (first | exact hs_eq _ _ _ | refine hs_ne (by omega) ?_ | assumption)) (by omega) (by omega) (by omega) ?_
                refine k_aload_n C dX8_partFive_94 rfl ?_
                refine k_get C (k := 0) inX8 (ci := 8) rfl (by decide) fl_X8_7 dX8_partFive_95 (by repeat (first | exact hs_eq _ _ _ | refine hs_ne (by omega) ?_ | assumption)) rfl ?_
                refine k_bipush C dX8_partFive_98 (by decide +kernel) ?_
                refine k_iconst C dX8_partFive_100 ?_
                refine k_aload_n C dX8_partFive_101 rfl ?_
                refine k_get C (k := 0) inX8 (ci := 8) rfl (by decide) fl_X8_7 dX8_partFive_102 (by repeat (first | exact hs_eq _ _ _ | refine hs_ne (by omega) ?_ | assumption)) rfl ?_
                refine k_bipush C dX8_partFive_105 (by decide +kernel) ?_
                refine k_iaload C dX8_partFive_107 (by repeat (first | exact hs_eq _ _ _ | refine hs_ne (by omega) ?_ | assumption)) (by omega) (by omega) (by omega) ?_
                try simp (disch := omega) only [hs_hs, zDrop_52, iu_ne, iu_eq]
                refine k_imul C dX8_partFive_108 ?_
                refine k_iadd C dX8_partFive_109 ?_
                refine k_iconst C dX8_partFive_110 ?_
                refine k_iadd C dX8_partFive_111 ?_
                refine k_iload_n C dX8_partFive_112 rfl ?_
                refine k_iastore C dX8_partFive_113 (by repeat (first | exact hs_eq _ _ _ | refine hs_ne (by omega) ?_ | assumption)) (by omega) (by omega) (by omega) ?_
                refine k_aload_n C dX8_partFive_114 rfl ?_
                refine k_get C (k := 0) inX8 (ci := 8) rfl (by decide) fl_X8_7 dX8_partFive_115 (by repeat (first | exact hs_eq _ _ _ | refine hs_ne (by omega) ?_ | assumption)) rfl ?_
                refine k_bipush C dX8_partFive_118 (by decide +kernel) ?_
                refine k_dup2 C dX8_partFive_120 rfl rfl ?_
                refine k_iaload C dX8_partFive_121 (by repeat (first | exact hs_eq _ _ _ | refine hs_ne (by omega) ?_ | assumption)) (by omega) (by omega) (by omega) ?_
                try simp (disch := omega) only [hs_hs, zDrop_52, iu_ne, iu_eq]
                refine k_iconst C dX8_partFive_122 ?_
                refine k_iadd C dX8_partFive_123 ?_
                refine k_iastore C dX8_partFive_124 (by repeat (first | exact hs_eq _ _ _ | refine hs_ne (by omega) ?_ | assumption)) (by omega) (by omega) (by omega) ?_
                refine k_vret C hr dX8_partFive_125 ?_
                refine ⟨rfl, ?_⟩
                try simp only [hs_hs]
                first
                  | (rw [zFive, if_pos (by omega)]; exact (hs_same hzq).symm)
                  | (rw [zFive, if_neg (by omega), if_pos (by omega)])
                  | (have hmk : zMk zrr = zrr := if_neg (by omega)
                     rw [zFive, if_neg (by omega), if_neg (by omega), hmk])
                  | (have hmk : zMk zrr = zDrop (iu zrr 15 (zrr 15 + zrr 54)) := if_pos (by omega)
                     rw [zFive, if_neg (by omega), if_neg (by omega), hmk]
                     simp (disch := omega) only [zDrop_52, iu_ne, iu_eq])))
        · try (exfalso; omega)
          all_goals (
            refine k_aload_n C dX8_partFive_32 rfl ?_
            refine k_get C (k := 0) inX8 (ci := 8) rfl (by decide) fl_X8_7 dX8_partFive_33 (by repeat (first | exact hs_eq _ _ _ | refine hs_ne (by omega) ?_ | assumption)) rfl ?_
            refine k_bipush C dX8_partFive_36 (by decide +kernel) ?_
            refine k_dup2 C dX8_partFive_38 rfl rfl ?_
            refine k_iaload C dX8_partFive_39 (by repeat (first | exact hs_eq _ _ _ | refine hs_ne (by omega) ?_ | assumption)) (by omega) (by omega) (by omega) ?_
            refine k_iload_n C dX8_partFive_40 rfl ?_
            refine k_iadd C dX8_partFive_41 ?_
            refine k_iastore C dX8_partFive_42 (by repeat (first | exact hs_eq _ _ _ | refine hs_ne (by omega) ?_ | assumption)) (by omega) (by omega) (by omega) ?_
            refine k_vret C hr dX8_partFive_43 ?_
            refine ⟨rfl, ?_⟩
            try simp only [hs_hs]
            first
              | (rw [zFive, if_pos (by omega)]; exact (hs_same hzq).symm)
              | (rw [zFive, if_neg (by omega), if_pos (by omega)])
              | (have hmk : zMk zrr = zrr := if_neg (by omega)
                 rw [zFive, if_neg (by omega), if_neg (by omega), hmk])
              | (have hmk : zMk zrr = zDrop (iu zrr 15 (zrr 15 + zrr 54)) := if_pos (by omega)
                 rw [zFive, if_neg (by omega), if_neg (by omega), hmk]
                 simp (disch := omega) only [zDrop_52, iu_ne, iu_eq])))
  · try (exfalso; omega)
    all_goals (
      refine k_vret C hr dX8_partFive_24 ?_
      refine ⟨rfl, ?_⟩
      try simp only [hs_hs]
      first
        | (rw [zFive, if_pos (by omega)]; exact (hs_same hzq).symm)
        | (rw [zFive, if_neg (by omega), if_pos (by omega)])
        | (have hmk : zMk zrr = zrr := if_neg (by omega)
           rw [zFive, if_neg (by omega), if_neg (by omega), hmk])
        | (have hmk : zMk zrr = zDrop (iu zrr 15 (zrr 15 + zrr 54)) := if_pos (by omega)
           rw [zFive, if_neg (by omega), if_neg (by omega), hmk]
           simp (disch := omega) only [zDrop_52, iu_ne, iu_eq]))

set_option maxRecDepth 20000 in
set_option maxHeartbeats 1000000 in
theorem ct_X8_partSix (l : Launch) (D : va_G) (tc : Nat → ClassId) (base : Nat) (obb zqq : Nat) (fss : List AV) (zrr : RZ) (hpp : AH) (hob : hpp obb = some (eO 8 (aR zqq :: fss))) (hzq : hpp zqq = some (eA 0 67 zrr)) (hne : obb ≠ zqq) (hi : zInv zrr) : CT l D tc base yX8_partSix cX8_partSix 2 none 2 [aR obb] hpp (fun r h' => r = none ∧ h' = hs hpp zqq (eA 0 67 (zSix zrr))) := by
  refine CT.of [some (aR obb), none] (by decide +kernel) rfl (Nat.le_of_ble_eq_true rfl) ?_
  intro p e s m args below meth c C hr hnm
  obtain ⟨⟨g0, g1, g2, g9, g10, g11, g12, g13, g21, g52, g61, g62, g63, g64, g65, g66⟩, hwi, hde⟩ := id hi
  have hsr : ¬ zrr 52 = 0 → _ := zStk_rng hi
  refine k_aload_n C dX8_partSix_0 rfl ?_
  refine k_get C (k := 0) inX8 (ci := 8) rfl (by decide) fl_X8_7 dX8_partSix_1 (by repeat (first | exact hs_eq _ _ _ | refine hs_ne (by omega) ?_ | assumption)) rfl ?_
  refine k_bipush C dX8_partSix_4 (by decide +kernel) ?_
  refine k_iaload C dX8_partSix_6 (by repeat (first | exact hs_eq _ _ _ | refine hs_ne (by omega) ?_ | assumption)) (by omega) (by omega) (by omega) ?_
  refine k_if_eq (tgt := 17) C dX8_partSix_7 (by decide) ⟨by omega, by omega⟩ (fun c7 => ?_) (fun c7 => ?_)
  · try (exfalso; omega)
    all_goals (
      try simp only [pu]
      refine k_vret C hr dX8_partSix_17 ?_
      refine ⟨rfl, ?_⟩
      try simp only [hs_hs]
      first
        | (rw [zSix, if_pos (by omega)]; exact (hs_same hzq).symm)
        | (rw [zSix, if_neg (by omega), if_pos (by omega)])
        | (rw [zSix, if_neg (by omega), if_neg (by omega)]))
  · try (exfalso; omega)
    all_goals (
      refine k_aload_n C dX8_partSix_10 rfl ?_
      refine k_callV C (n := 0) (as := []) (ct_X8_isSilent l D tc base obb zqq fss _ _ (by repeat (first | exact hs_eq _ _ _ | refine hs_ne (by omega) ?_ | assumption)) (by repeat (first | exact hs_eq _ _ _ | refine hs_ne (by omega) ?_ | assumption)) hne hi) ml_X8_61 im_X8_isSilent se_X8_isSilent ini_X8 co_X8_isSilent ⟨rfl, by decide, by decide, by decide +kernel⟩ rfl (ci := 8) rfl (by repeat (first | exact hs_eq _ _ _ | refine hs_ne (by omega) ?_ | assumption)) ⟨by decide, by decide⟩ rfl (Nat.le_of_ble_eq_true rfl) ⟨Nat.zero_le _, Nat.zero_le _⟩ dX8_partSix_11 ?_
      rintro _ _ (⟨rfl, rfl, hq11⟩ | ⟨rfl, rfl, hq11⟩)
      · skip
        refine k_if_eq (tgt := 18) C dX8_partSix_14 (by decide) ⟨by omega, by omega⟩ (fun c14 => ?_) (fun c14 => ?_)
        · try (exfalso; omega)
          all_goals (
            refine k_aload_n C dX8_partSix_18 rfl ?_
            refine k_get C (k := 0) inX8 (ci := 8) rfl (by decide) fl_X8_7 dX8_partSix_19 (by repeat (first | exact hs_eq _ _ _ | refine hs_ne (by omega) ?_ | assumption)) rfl ?_
            refine k_bipush C dX8_partSix_22 (by decide +kernel) ?_
            refine k_iaload C dX8_partSix_24 (by repeat (first | exact hs_eq _ _ _ | refine hs_ne (by omega) ?_ | assumption)) (by omega) (by omega) (by omega) ?_
            refine k_aload_n C dX8_partSix_25 rfl ?_
            have h54 := hde 0 (by omega) (by omega)
            simp only [Int.mul_zero, Int.add_zero, show (53 : Int) + 1 = 54 from rfl] at h54
            refine k_get C (k := 0) inX8 (ci := 8) rfl (by decide) fl_X8_7 dX8_partSix_26 (by repeat (first | exact hs_eq _ _ _ | refine hs_ne (by omega) ?_ | assumption)) rfl ?_
            refine k_bipush C dX8_partSix_29 (by decide +kernel) ?_
            refine k_iaload C dX8_partSix_31 (by repeat (first | exact hs_eq _ _ _ | refine hs_ne (by omega) ?_ | assumption)) (by omega) (by omega) (by omega) ?_
            refine k_aload_n C dX8_partSix_32 rfl ?_
            refine k_get C (k := 0) inX8 (ci := 8) rfl (by decide) fl_X8_7 dX8_partSix_33 (by repeat (first | exact hs_eq _ _ _ | refine hs_ne (by omega) ?_ | assumption)) rfl ?_
            refine k_iconst C dX8_partSix_36 ?_
            refine k_iaload C dX8_partSix_37 (by repeat (first | exact hs_eq _ _ _ | refine hs_ne (by omega) ?_ | assumption)) (by omega) (by omega) (by omega) ?_
            refine k_callS C (n := 2) (as := [_, _]) (ct_X8_lesser l D tc base _ _ _ ⟨by omega, by omega⟩ ⟨by omega, by omega⟩) ml_X8_46 sm_X8_lesser ini_X8 co_X8_lesser ⟨by decide, by decide, by decide +kernel⟩ rfl ⟨by decide, by decide⟩ rfl (Nat.le_of_ble_eq_true rfl) ⟨Nat.zero_le _, Nat.zero_le _⟩ dX8_partSix_38 ?_
            rintro _ _ ⟨rfl, rfl⟩
            have hmm := mnI_le (zrr 54) (zrr 1)
            refine k_callS C (n := 2) (as := [_, _]) (ct_X8_lesser l D tc base _ _ _ ⟨by omega, by omega⟩ ⟨by omega, by omega⟩) ml_X8_46 sm_X8_lesser ini_X8 co_X8_lesser ⟨by decide, by decide, by decide +kernel⟩ rfl ⟨by decide, by decide⟩ rfl (Nat.le_of_ble_eq_true rfl) ⟨Nat.zero_le _, Nat.zero_le _⟩ dX8_partSix_41 ?_
            rintro _ _ ⟨rfl, rfl⟩
            have hss := hsr (by omega)
            change Wk _ _ _ _ _ _ _ _ _ _ _ _ _ _ _ _ _ _ _ (aI (zStk zrr) :: _) _
            refine k_istore_n C dX8_partSix_44 (by decide) rfl ?_
            refine k_aload_n C dX8_partSix_45 rfl ?_
            refine k_iconst C dX8_partSix_46 ?_
            refine k_iload_n C dX8_partSix_47 rfl ?_
            refine k_callV C (n := 2) (as := [_, _]) (ct_X8_takes l D tc base obb zqq fss _ _ (by repeat (first | exact hs_eq _ _ _ | refine hs_ne (by omega) ?_ | assumption)) (by repeat (first | exact hs_eq _ _ _ | refine hs_ne (by omega) ?_ | assumption)) hne _ _ (by omega) (by omega)) ml_X8_57 im_X8_takes se_X8_takes ini_X8 co_X8_takes ⟨rfl, by decide, by decide, by decide +kernel⟩ rfl (ci := 8) rfl (by repeat (first | exact hs_eq _ _ _ | refine hs_ne (by omega) ?_ | assumption)) ⟨by decide, by decide⟩ rfl (Nat.le_of_ble_eq_true rfl) ⟨Nat.zero_le _, Nat.zero_le _⟩ dX8_partSix_48 ?_
            rintro _ _ ⟨rfl, rfl⟩
            refine k_aload_n C dX8_partSix_51 rfl ?_
            refine k_get C (k := 0) inX8 (ci := 8) rfl (by decide) fl_X8_7 dX8_partSix_52 (by repeat (first | exact hs_eq _ _ _ | refine hs_ne (by omega) ?_ | assumption)) rfl ?_
            refine k_bipush C dX8_partSix_55 (by decide +kernel) ?_
            refine k_dup2 C dX8_partSix_57 rfl rfl ?_
            refine k_iaload C dX8_partSix_58 (by repeat (first | exact hs_eq _ _ _ | refine hs_ne (by omega) ?_ | assumption)) (by omega) (by omega) (by omega) ?_
            try simp (disch := omega) only [hs_hs, zTake_ne, iu_ne, iu_eq]
            refine k_iload_n C dX8_partSix_59 rfl ?_
            refine k_isub C dX8_partSix_60 ?_
            refine k_iastore C dX8_partSix_61 (by repeat (first | exact hs_eq _ _ _ | refine hs_ne (by omega) ?_ | assumption)) (by omega) (by omega) (by omega) ?_
            refine k_aload_n C dX8_partSix_62 rfl ?_
            refine k_get C (k := 0) inX8 (ci := 8) rfl (by decide) fl_X8_7 dX8_partSix_63 (by repeat (first | exact hs_eq _ _ _ | refine hs_ne (by omega) ?_ | assumption)) rfl ?_
            refine k_bipush C dX8_partSix_66 (by decide +kernel) ?_
            refine k_dup2 C dX8_partSix_68 rfl rfl ?_
            refine k_iaload C dX8_partSix_69 (by repeat (first | exact hs_eq _ _ _ | refine hs_ne (by omega) ?_ | assumption)) (by omega) (by omega) (by omega) ?_
            try simp (disch := omega) only [hs_hs, zTake_ne, iu_ne, iu_eq]
            refine k_iload_n C dX8_partSix_70 rfl ?_
            refine k_iadd C dX8_partSix_71 ?_
            refine k_iastore C dX8_partSix_72 (by repeat (first | exact hs_eq _ _ _ | refine hs_ne (by omega) ?_ | assumption)) (by omega) (by omega) (by omega) ?_
            refine k_aload_n C dX8_partSix_73 rfl ?_
            refine k_get C (k := 0) inX8 (ci := 8) rfl (by decide) fl_X8_7 dX8_partSix_74 (by repeat (first | exact hs_eq _ _ _ | refine hs_ne (by omega) ?_ | assumption)) rfl ?_
            refine k_bipush C dX8_partSix_77 (by decide +kernel) ?_
            refine k_iaload C dX8_partSix_79 (by repeat (first | exact hs_eq _ _ _ | refine hs_ne (by omega) ?_ | assumption)) (by omega) (by omega) (by omega) ?_
            try simp (disch := omega) only [hs_hs, zTake_ne, iu_ne, iu_eq]
            refine k_if_ne (tgt := 87) C dX8_partSix_80 (by decide) ⟨by omega, by omega⟩ (fun c80 => ?_) (fun c80 => ?_)
            · try (exfalso; omega)
              all_goals (
                refine k_vret C hr dX8_partSix_87 ?_
                refine ⟨rfl, ?_⟩
                try simp only [hs_hs]
                first
                  | (rw [zSix, if_pos (by omega)]; exact (hs_same hzq).symm)
                  | (rw [zSix, if_neg (by omega), if_pos (by omega)])
                  | (rw [zSix, if_neg (by omega), if_neg (by omega)]))
            · try (exfalso; omega)
              all_goals (
                refine k_aload_n C dX8_partSix_83 rfl ?_
                refine k_callV C (n := 0) (as := []) (ct_X8_dropDebt l D tc base obb zqq fss _ _ (by repeat (first | exact hs_eq _ _ _ | refine hs_ne (by omega) ?_ | assumption)) (by repeat (first | exact hs_eq _ _ _ | refine hs_ne (by omega) ?_ | assumption)) hne (by simp (disch := omega) only [zTake_ne, iu_ne]; omega) (by simp (disch := omega) only [zTake_ne, iu_ne]; omega)) ml_X8_65 im_X8_dropDebt se_X8_dropDebt ini_X8 co_X8_dropDebt ⟨rfl, by decide, by decide, by decide +kernel⟩ rfl (ci := 8) rfl (by repeat (first | exact hs_eq _ _ _ | refine hs_ne (by omega) ?_ | assumption)) ⟨by decide, by decide⟩ rfl (Nat.le_of_ble_eq_true rfl) ⟨Nat.zero_le _, Nat.zero_le _⟩ dX8_partSix_84 ?_
                rintro _ _ ⟨rfl, rfl⟩
                refine k_vret C hr dX8_partSix_87 ?_
                refine ⟨rfl, ?_⟩
                try simp only [hs_hs]
                first
                  | (rw [zSix, if_pos (by omega)]; exact (hs_same hzq).symm)
                  | (rw [zSix, if_neg (by omega), if_pos (by omega)])
                  | (rw [zSix, if_neg (by omega), if_neg (by omega)])))
        · try (exfalso; omega)
          all_goals (
            try simp only [pu]
            refine k_vret C hr dX8_partSix_17 ?_
            refine ⟨rfl, ?_⟩
            try simp only [hs_hs]
            first
              | (rw [zSix, if_pos (by omega)]; exact (hs_same hzq).symm)
              | (rw [zSix, if_neg (by omega), if_pos (by omega)])
              | (rw [zSix, if_neg (by omega), if_neg (by omega)]))
      · skip
        refine k_if_eq (tgt := 18) C dX8_partSix_14 (by decide) ⟨by omega, by omega⟩ (fun c14 => ?_) (fun c14 => ?_)
        · try (exfalso; omega)
          all_goals (
            refine k_aload_n C dX8_partSix_18 rfl ?_
            refine k_get C (k := 0) inX8 (ci := 8) rfl (by decide) fl_X8_7 dX8_partSix_19 (by repeat (first | exact hs_eq _ _ _ | refine hs_ne (by omega) ?_ | assumption)) rfl ?_
            refine k_bipush C dX8_partSix_22 (by decide +kernel) ?_
            refine k_iaload C dX8_partSix_24 (by repeat (first | exact hs_eq _ _ _ | refine hs_ne (by omega) ?_ | assumption)) (by omega) (by omega) (by omega) ?_
            refine k_aload_n C dX8_partSix_25 rfl ?_
            have h54 := hde 0 (by omega) (by omega)
            simp only [Int.mul_zero, Int.add_zero, show (53 : Int) + 1 = 54 from rfl] at h54
            refine k_get C (k := 0) inX8 (ci := 8) rfl (by decide) fl_X8_7 dX8_partSix_26 (by repeat (first | exact hs_eq _ _ _ | refine hs_ne (by omega) ?_ | assumption)) rfl ?_
            refine k_bipush C dX8_partSix_29 (by decide +kernel) ?_
            refine k_iaload C dX8_partSix_31 (by repeat (first | exact hs_eq _ _ _ | refine hs_ne (by omega) ?_ | assumption)) (by omega) (by omega) (by omega) ?_
            refine k_aload_n C dX8_partSix_32 rfl ?_
            refine k_get C (k := 0) inX8 (ci := 8) rfl (by decide) fl_X8_7 dX8_partSix_33 (by repeat (first | exact hs_eq _ _ _ | refine hs_ne (by omega) ?_ | assumption)) rfl ?_
            refine k_iconst C dX8_partSix_36 ?_
            refine k_iaload C dX8_partSix_37 (by repeat (first | exact hs_eq _ _ _ | refine hs_ne (by omega) ?_ | assumption)) (by omega) (by omega) (by omega) ?_
            refine k_callS C (n := 2) (as := [_, _]) (ct_X8_lesser l D tc base _ _ _ ⟨by omega, by omega⟩ ⟨by omega, by omega⟩) ml_X8_46 sm_X8_lesser ini_X8 co_X8_lesser ⟨by decide, by decide, by decide +kernel⟩ rfl ⟨by decide, by decide⟩ rfl (Nat.le_of_ble_eq_true rfl) ⟨Nat.zero_le _, Nat.zero_le _⟩ dX8_partSix_38 ?_
            rintro _ _ ⟨rfl, rfl⟩
            have hmm := mnI_le (zrr 54) (zrr 1)
            refine k_callS C (n := 2) (as := [_, _]) (ct_X8_lesser l D tc base _ _ _ ⟨by omega, by omega⟩ ⟨by omega, by omega⟩) ml_X8_46 sm_X8_lesser ini_X8 co_X8_lesser ⟨by decide, by decide, by decide +kernel⟩ rfl ⟨by decide, by decide⟩ rfl (Nat.le_of_ble_eq_true rfl) ⟨Nat.zero_le _, Nat.zero_le _⟩ dX8_partSix_41 ?_
            rintro _ _ ⟨rfl, rfl⟩
            have hss := hsr (by omega)
            change Wk _ _ _ _ _ _ _ _ _ _ _ _ _ _ _ _ _ _ _ (aI (zStk zrr) :: _) _
            refine k_istore_n C dX8_partSix_44 (by decide) rfl ?_
            refine k_aload_n C dX8_partSix_45 rfl ?_
            refine k_iconst C dX8_partSix_46 ?_
            refine k_iload_n C dX8_partSix_47 rfl ?_
            refine k_callV C (n := 2) (as := [_, _]) (ct_X8_takes l D tc base obb zqq fss _ _ (by repeat (first | exact hs_eq _ _ _ | refine hs_ne (by omega) ?_ | assumption)) (by repeat (first | exact hs_eq _ _ _ | refine hs_ne (by omega) ?_ | assumption)) hne _ _ (by omega) (by omega)) ml_X8_57 im_X8_takes se_X8_takes ini_X8 co_X8_takes ⟨rfl, by decide, by decide, by decide +kernel⟩ rfl (ci := 8) rfl (by repeat (first | exact hs_eq _ _ _ | refine hs_ne (by omega) ?_ | assumption)) ⟨by decide, by decide⟩ rfl (Nat.le_of_ble_eq_true rfl) ⟨Nat.zero_le _, Nat.zero_le _⟩ dX8_partSix_48 ?_
            rintro _ _ ⟨rfl, rfl⟩
            refine k_aload_n C dX8_partSix_51 rfl ?_
            refine k_get C (k := 0) inX8 (ci := 8) rfl (by decide) fl_X8_7 dX8_partSix_52 (by repeat (first | exact hs_eq _ _ _ | refine hs_ne (by omega) ?_ | assumption)) rfl ?_
            refine k_bipush C dX8_partSix_55 (by decide +kernel) ?_
            refine k_dup2 C dX8_partSix_57 rfl rfl ?_
            refine k_iaload C dX8_partSix_58 (by repeat (first | exact hs_eq _ _ _ | refine hs_ne (by omega) ?_ | assumption)) (by omega) (by omega) (by omega) ?_
            try simp (disch := omega) only [hs_hs, zTake_ne, iu_ne, iu_eq]
            refine k_iload_n C dX8_partSix_59 rfl ?_
            refine k_isub C dX8_partSix_60 ?_
            refine k_iastore C dX8_partSix_61 (by repeat (first | exact hs_eq _ _ _ | refine hs_ne (by omega) ?_ | assumption)) (by omega) (by omega) (by omega) ?_
            refine k_aload_n C dX8_partSix_62 rfl ?_
            refine k_get C (k := 0) inX8 (ci := 8) rfl (by decide) fl_X8_7 dX8_partSix_63 (by repeat (first | exact hs_eq _ _ _ | refine hs_ne (by omega) ?_ | assumption)) rfl ?_
            refine k_bipush C dX8_partSix_66 (by decide +kernel) ?_
            refine k_dup2 C dX8_partSix_68 rfl rfl ?_
            refine k_iaload C dX8_partSix_69 (by repeat (first | exact hs_eq _ _ _ | refine hs_ne (by omega) ?_ | assumption)) (by omega) (by omega) (by omega) ?_
            try simp (disch := omega) only [hs_hs, zTake_ne, iu_ne, iu_eq]
            refine k_iload_n C dX8_partSix_70 rfl ?_
            refine k_iadd C dX8_partSix_71 ?_
            refine k_iastore C dX8_partSix_72 (by repeat (first | exact hs_eq _ _ _ | refine hs_ne (by omega) ?_ | assumption)) (by omega) (by omega) (by omega) ?_
            refine k_aload_n C dX8_partSix_73 rfl ?_
            refine k_get C (k := 0) inX8 (ci := 8) rfl (by decide) fl_X8_7 dX8_partSix_74 (by repeat (first | exact hs_eq _ _ _ | refine hs_ne (by omega) ?_ | assumption)) rfl ?_
            refine k_bipush C dX8_partSix_77 (by decide +kernel) ?_
            refine k_iaload C dX8_partSix_79 (by repeat (first | exact hs_eq _ _ _ | refine hs_ne (by omega) ?_ | assumption)) (by omega) (by omega) (by omega) ?_
            try simp (disch := omega) only [hs_hs, zTake_ne, iu_ne, iu_eq]
            refine k_if_ne (tgt := 87) C dX8_partSix_80 (by decide) ⟨by omega, by omega⟩ (fun c80 => ?_) (fun c80 => ?_)
            · try (exfalso; omega)
              all_goals (
                refine k_vret C hr dX8_partSix_87 ?_
                refine ⟨rfl, ?_⟩
                try simp only [hs_hs]
                first
                  | (rw [zSix, if_pos (by omega)]; exact (hs_same hzq).symm)
                  | (rw [zSix, if_neg (by omega), if_pos (by omega)])
                  | (rw [zSix, if_neg (by omega), if_neg (by omega)]))
            · try (exfalso; omega)
              all_goals (
                refine k_aload_n C dX8_partSix_83 rfl ?_
                refine k_callV C (n := 0) (as := []) (ct_X8_dropDebt l D tc base obb zqq fss _ _ (by repeat (first | exact hs_eq _ _ _ | refine hs_ne (by omega) ?_ | assumption)) (by repeat (first | exact hs_eq _ _ _ | refine hs_ne (by omega) ?_ | assumption)) hne (by simp (disch := omega) only [zTake_ne, iu_ne]; omega) (by simp (disch := omega) only [zTake_ne, iu_ne]; omega)) ml_X8_65 im_X8_dropDebt se_X8_dropDebt ini_X8 co_X8_dropDebt ⟨rfl, by decide, by decide, by decide +kernel⟩ rfl (ci := 8) rfl (by repeat (first | exact hs_eq _ _ _ | refine hs_ne (by omega) ?_ | assumption)) ⟨by decide, by decide⟩ rfl (Nat.le_of_ble_eq_true rfl) ⟨Nat.zero_le _, Nat.zero_le _⟩ dX8_partSix_84 ?_
                rintro _ _ ⟨rfl, rfl⟩
                refine k_vret C hr dX8_partSix_87 ?_
                refine ⟨rfl, ?_⟩
                try simp only [hs_hs]
                first
                  | (rw [zSix, if_pos (by omega)]; exact (hs_same hzq).symm)
                  | (rw [zSix, if_neg (by omega), if_pos (by omega)])
                  | (rw [zSix, if_neg (by omega), if_neg (by omega)])))
        · try (exfalso; omega)
          all_goals (
            try simp only [pu]
            refine k_vret C hr dX8_partSix_17 ?_
            refine ⟨rfl, ?_⟩
            try simp only [hs_hs]
            first
              | (rw [zSix, if_pos (by omega)]; exact (hs_same hzq).symm)
              | (rw [zSix, if_neg (by omega), if_pos (by omega)])
              | (rw [zSix, if_neg (by omega), if_neg (by omega)])))

set_option maxRecDepth 20000 in
set_option maxHeartbeats 1000000 in
theorem ct_X8_firstParts (l : Launch) (D : va_G) (tc : Nat → ClassId) (base : Nat) (obb zqq : Nat) (fss : List AV) (zrr : RZ) (hpp : AH) (hob : hpp obb = some (eO 8 (aR zqq :: fss))) (hzq : hpp zqq = some (eA 0 67 zrr)) (hne : obb ≠ zqq) (hi : zInv zrr) (ha : zrr 18 + zrr 19 ≤ zrr 13) (hm : zrr 13 ≤ 100000) : CT l D tc base yX8_firstParts cX8_firstParts 2 (some .int) 4 [aR obb] hpp (fun r h' => r = some (aI (zHow (zTwo (zOne zrr)))) ∧ h' = hs hpp zqq (eA 0 67 (zFP zrr))) := by
  refine CT.of [some (aR obb), none] (by decide +kernel) rfl (Nat.le_of_ble_eq_true rfl) ?_
  intro p e s m args below meth c C hr hnm
  have hi1 := zInv_one hi
  have hi2 := zInv_two hi1
  have ha2 := zOk_ha hi ha
  have e1 := zOne_13 hi
  have e2 := zTwo_13 (z := zOne zrr)
  have hi3 := zInv_three hi2 ha2
  have hi4 := zInv_four hi3.1
  have hhw := zHow_rng (zTwo (zOne zrr))
  refine k_aload_n C dX8_firstParts_0 rfl ?_
  refine k_callV C (n := 0) (as := []) (ct_X8_partOne l D tc base obb zqq fss _ _ (by repeat (first | exact hs_eq _ _ _ | refine hs_ne (by omega) ?_ | assumption)) (by repeat (first | exact hs_eq _ _ _ | refine hs_ne (by omega) ?_ | assumption)) hne hi hm) ml_X8_68 im_X8_partOne se_X8_partOne ini_X8 co_X8_partOne ⟨rfl, by decide, by decide, by decide +kernel⟩ rfl (ci := 8) rfl (by repeat (first | exact hs_eq _ _ _ | refine hs_ne (by omega) ?_ | assumption)) ⟨by decide, by decide⟩ rfl (Nat.le_of_ble_eq_true rfl) ⟨Nat.zero_le _, Nat.zero_le _⟩ dX8_firstParts_1 ?_
  rintro _ _ ⟨rfl, rfl⟩
  refine k_aload_n C dX8_firstParts_4 rfl ?_
  refine k_callV C (n := 0) (as := []) (ct_X8_partTwo l D tc base obb zqq fss _ _ (by repeat (first | exact hs_eq _ _ _ | refine hs_ne (by omega) ?_ | assumption)) (by repeat (first | exact hs_eq _ _ _ | refine hs_ne (by omega) ?_ | assumption)) hne hi1) ml_X8_71 im_X8_partTwo se_X8_partTwo ini_X8 co_X8_partTwo ⟨rfl, by decide, by decide, by decide +kernel⟩ rfl (ci := 8) rfl (by repeat (first | exact hs_eq _ _ _ | refine hs_ne (by omega) ?_ | assumption)) ⟨by decide, by decide⟩ rfl (Nat.le_of_ble_eq_true rfl) ⟨Nat.zero_le _, Nat.zero_le _⟩ dX8_firstParts_5 ?_
  rintro _ _ ⟨rfl, rfl⟩
  simp only [hs_hs]
  refine k_aload_n C dX8_firstParts_8 rfl ?_
  refine k_callV C (n := 0) (as := []) (ct_X8_partThree l D tc base obb zqq fss _ _ (by repeat (first | exact hs_eq _ _ _ | refine hs_ne (by omega) ?_ | assumption)) (by repeat (first | exact hs_eq _ _ _ | refine hs_ne (by omega) ?_ | assumption)) hne hi2 (by omega)) ml_X8_74 im_X8_partThree se_X8_partThree ini_X8 co_X8_partThree ⟨rfl, by decide, by decide, by decide +kernel⟩ rfl (ci := 8) rfl (by repeat (first | exact hs_eq _ _ _ | refine hs_ne (by omega) ?_ | assumption)) ⟨by decide, by decide⟩ rfl (Nat.le_of_ble_eq_true rfl) ⟨Nat.zero_le _, Nat.zero_le _⟩ dX8_firstParts_9 ?_
  rintro _ _ ⟨rfl, rfl⟩
  simp only [hs_hs]
  refine k_istore_n C dX8_firstParts_12 (by decide) rfl ?_
  refine k_iload_n C dX8_firstParts_13 rfl ?_
  refine k_if_ne (tgt := 25) C dX8_firstParts_14 (by decide) ⟨by omega, by omega⟩ (fun c14 => ?_) (fun c14 => ?_)
  · try (exfalso; omega)
    all_goals (
      refine k_iload_n C dX8_firstParts_25 rfl ?_
      refine k_iret C hr dX8_firstParts_26 ?_
      refine ⟨rfl, ?_⟩
      first
        | rw [zFP, if_pos (by omega)]
        | rw [zFP, if_neg (by omega)])
  · try (exfalso; omega)
    all_goals (
      refine k_aload_n C dX8_firstParts_17 rfl ?_
      refine k_callV C (n := 0) (as := []) (ct_X8_partFour l D tc base obb zqq fss _ _ (by repeat (first | exact hs_eq _ _ _ | refine hs_ne (by omega) ?_ | assumption)) (by repeat (first | exact hs_eq _ _ _ | refine hs_ne (by omega) ?_ | assumption)) hne hi3.1) ml_X8_77 im_X8_partFour se_X8_partFour ini_X8 co_X8_partFour ⟨rfl, by decide, by decide, by decide +kernel⟩ rfl (ci := 8) rfl (by repeat (first | exact hs_eq _ _ _ | refine hs_ne (by omega) ?_ | assumption)) ⟨by decide, by decide⟩ rfl (Nat.le_of_ble_eq_true rfl) ⟨Nat.zero_le _, Nat.zero_le _⟩ dX8_firstParts_18 ?_
      rintro _ _ ⟨rfl, rfl⟩
      simp only [hs_hs]
      refine k_aload_n C dX8_firstParts_21 rfl ?_
      refine k_callV C (n := 0) (as := []) (ct_X8_partFive l D tc base obb zqq fss _ _ (by repeat (first | exact hs_eq _ _ _ | refine hs_ne (by omega) ?_ | assumption)) (by repeat (first | exact hs_eq _ _ _ | refine hs_ne (by omega) ?_ | assumption)) hne hi4.1) ml_X8_80 im_X8_partFive se_X8_partFive ini_X8 co_X8_partFive ⟨rfl, by decide, by decide, by decide +kernel⟩ rfl (ci := 8) rfl (by repeat (first | exact hs_eq _ _ _ | refine hs_ne (by omega) ?_ | assumption)) ⟨by decide, by decide⟩ rfl (Nat.le_of_ble_eq_true rfl) ⟨Nat.zero_le _, Nat.zero_le _⟩ dX8_firstParts_22 ?_
      rintro _ _ ⟨rfl, rfl⟩
      simp only [hs_hs]
      refine k_iload_n C dX8_firstParts_25 rfl ?_
      refine k_iret C hr dX8_firstParts_26 ?_
      refine ⟨rfl, ?_⟩
      first
        | rw [zFP, if_pos (by omega)]
        | rw [zFP, if_neg (by omega)])

set_option maxRecDepth 20000 in
set_option maxHeartbeats 1000000 in
theorem ct_X8_minute (l : Launch) (D : va_G) (tc : Nat → ClassId) (base : Nat) (obb zqq : Nat) (fss : List AV) (zrr : RZ) (hpp : AH) (hob : hpp obb = some (eO 8 (aR zqq :: fss))) (hzq : hpp zqq = some (eA 0 67 zrr)) (hne : obb ≠ zqq) (hi : zInv zrr) (ha : zrr 18 + zrr 19 ≤ zrr 13) (hm : zrr 13 ≤ 100000) : CT l D tc base yX8_minute cX8_minute 2 (some .boolean) 5 [aR obb] hpp (fun r h' => (r = some (aI 1) ∧ h' = hs hpp zqq (eA 0 67 (zMin zrr)) ∧ zHow (zTwo (zOne zrr)) = 1) ∨ (r = some (aI 0) ∧ h' = hs hpp zqq (eA 0 67 (zMin zrr)) ∧ ¬ zHow (zTwo (zOne zrr)) = 1)) := by
  refine CT.of [some (aR obb), none] (by decide +kernel) rfl (Nat.le_of_ble_eq_true rfl) ?_
  intro p e s m args below meth c C hr hnm
  have hif := zInv_fp hi ha
  have hhw := zHow_rng (zTwo (zOne zrr))
  refine k_aload_n C dX8_minute_0 rfl ?_
  refine k_callV C (n := 0) (as := []) (ct_X8_firstParts l D tc base obb zqq fss _ _ (by repeat (first | exact hs_eq _ _ _ | refine hs_ne (by omega) ?_ | assumption)) (by repeat (first | exact hs_eq _ _ _ | refine hs_ne (by omega) ?_ | assumption)) hne hi ha hm) ml_X8_83 im_X8_firstParts se_X8_firstParts ini_X8 co_X8_firstParts ⟨rfl, by decide, by decide, by decide +kernel⟩ rfl (ci := 8) rfl (by repeat (first | exact hs_eq _ _ _ | refine hs_ne (by omega) ?_ | assumption)) ⟨by decide, by decide⟩ rfl (Nat.le_of_ble_eq_true rfl) ⟨Nat.zero_le _, Nat.zero_le _⟩ dX8_minute_1 ?_
  rintro _ _ ⟨rfl, rfl⟩
  refine k_istore_n C dX8_minute_4 (by decide) rfl ?_
  refine k_aload_n C dX8_minute_5 rfl ?_
  refine k_callV C (n := 0) (as := []) (ct_X8_partSix l D tc base obb zqq fss _ _ (by repeat (first | exact hs_eq _ _ _ | refine hs_ne (by omega) ?_ | assumption)) (by repeat (first | exact hs_eq _ _ _ | refine hs_ne (by omega) ?_ | assumption)) hne hif.1) ml_X8_86 im_X8_partSix se_X8_partSix ini_X8 co_X8_partSix ⟨rfl, by decide, by decide, by decide +kernel⟩ rfl (ci := 8) rfl (by repeat (first | exact hs_eq _ _ _ | refine hs_ne (by omega) ?_ | assumption)) ⟨by decide, by decide⟩ rfl (Nat.le_of_ble_eq_true rfl) ⟨Nat.zero_le _, Nat.zero_le _⟩ dX8_minute_6 ?_
  rintro _ _ ⟨rfl, rfl⟩
  simp only [hs_hs]
  refine k_aload_n C dX8_minute_9 rfl ?_
  refine k_get C (k := 0) inX8 (ci := 8) rfl (by decide) fl_X8_7 dX8_minute_10 (by repeat (first | exact hs_eq _ _ _ | refine hs_ne (by omega) ?_ | assumption)) rfl ?_
  refine k_bipush C dX8_minute_13 (by decide +kernel) ?_
  refine k_dup2 C dX8_minute_15 rfl rfl ?_
  refine k_iaload C dX8_minute_16 (by repeat (first | exact hs_eq _ _ _ | refine hs_ne (by omega) ?_ | assumption)) (by omega) (by omega) (by omega) ?_
  refine k_iconst C dX8_minute_17 ?_
  refine k_iadd C dX8_minute_18 ?_
  refine k_iastore C dX8_minute_19 (by repeat (first | exact hs_eq _ _ _ | refine hs_ne (by omega) ?_ | assumption)) (by omega) (by omega) (by omega) ?_
  refine k_iload_n C dX8_minute_20 rfl ?_
  refine k_iconst C dX8_minute_21 ?_
  refine k_icmp_ne (tgt := 29) C dX8_minute_22 (by decide) ⟨by omega, by omega⟩ ⟨by omega, by omega⟩ (fun c22 => ?_) (fun c22 => ?_)
  · try (exfalso; omega)
    all_goals (
      refine k_iconst C dX8_minute_29 ?_
      refine k_zret C hr dX8_minute_30 (by omega) ?_
      first
        | (refine Or.inl ⟨rfl, ?_, by omega⟩
           (try simp only [hs_hs]) <;> rfl)
        | (refine Or.inr ⟨rfl, ?_, by omega⟩
           (try simp only [hs_hs]) <;> rfl))
  · try (exfalso; omega)
    all_goals (
      refine k_iconst C dX8_minute_25 ?_
      refine k_goto (tgt := 30) C dX8_minute_26 (by decide) ?_
      refine k_zret C hr dX8_minute_30 (by omega) ?_
      first
        | (refine Or.inl ⟨rfl, ?_, by omega⟩
           (try simp only [hs_hs]) <;> rfl)
        | (refine Or.inr ⟨rfl, ?_, by omega⟩
           (try simp only [hs_hs]) <;> rfl))

set_option maxRecDepth 20000 in
set_option maxHeartbeats 1000000 in
theorem ct_X8_goOn (l : Launch) (D : va_G) (tc : Nat → ClassId) (base : Nat) (obb zqq : Nat) (fss : List AV) (zrr : RZ) (hpp : AH) (hob : hpp obb = some (eO 8 (aR zqq :: fss))) (hzq : hpp zqq = some (eA 0 67 zrr)) (hne : obb ≠ zqq) (hi : zInv zrr) (ha : zrr 18 + zrr 19 ≤ zrr 13) (nn : Nat) (hn : zrr 13 + nn ≤ 100000) : CT l D tc base yX8_goOn cX8_goOn 4 none 6 [aR obb, aI nn] hpp (fun r h' => r = none ∧ h' = hs hpp zqq (eA 0 67 (zGo zrr nn))) := by
  refine CT.of [some (aR obb), some (aI nn), none, none] (by decide +kernel) rfl (Nat.le_of_ble_eq_true rfl) ?_
  intro p e s m args below meth c C hr hnm
  have g13 := hi.1.2.2.2.2.2.2.2.1
  refine k_iconst C dX8_goOn_0 ?_
  refine k_istore_n C dX8_goOn_1 (by decide) rfl ?_
  have loop2 : ∀ (n : Nat) (kk : Nat), kk ≤ nn → (nn : Int) - kk < (n : Int) → Wk D tc base 4 p l e (lvR 6) s m args below meth c 0 0 (MQ below (Qx D tc base (fun r h' => r = none ∧ h' = hs hpp zqq (eA 0 67 (zGo zrr nn)))) args s 0 0 (fun q => base ≤ q)) 2 [some (aR obb), some (aI nn), some (aI kk), none] [] (hs hpp zqq (eA 0 67 (zGo zrr kk))) := by
    intro n
    induction n with
    | zero =>
      intro kk hk hmu
      exfalso
      omega
    | succ n ih =>
      intro kk hk hmu
      have hok := zOk_go ⟨hi, ha⟩ kk
      refine k_iload_n C dX8_goOn_2 rfl ?_
      refine k_iload_n C dX8_goOn_3 rfl ?_
      refine k_icmp_ge (tgt := 18) C dX8_goOn_4 (by decide) ⟨by omega, by omega⟩ ⟨by omega, by omega⟩ (fun c4 => ?_) (fun c4 => ?_)
      · try (exfalso; omega)
        all_goals (
          refine k_vret C hr dX8_goOn_18 ?_
          refine ⟨rfl, ?_⟩
          have ek : kk = nn := by omega
          rw [ek])
      · try (exfalso; omega)
        all_goals (
          refine k_aload_n C dX8_goOn_7 rfl ?_
          refine k_callV C (n := 0) (as := []) (ct_X8_minute l D tc base obb zqq fss _ _ (by repeat (first | exact hs_eq _ _ _ | refine hs_ne (by omega) ?_ | assumption)) (by repeat (first | exact hs_eq _ _ _ | refine hs_ne (by omega) ?_ | assumption)) hne hok.1.1 hok.1.2 (by omega)) ml_X8_89 im_X8_minute se_X8_minute ini_X8 co_X8_minute ⟨rfl, by decide, by decide, by decide +kernel⟩ rfl (ci := 8) rfl (by repeat (first | exact hs_eq _ _ _ | refine hs_ne (by omega) ?_ | assumption)) ⟨by decide, by decide⟩ rfl (Nat.le_of_ble_eq_true rfl) ⟨Nat.zero_le _, Nat.zero_le _⟩ dX8_goOn_8 ?_
          rintro _ _ (⟨rfl, rfl, hq8⟩ | ⟨rfl, rfl, hq8⟩)
          · skip
            simp only [hs_hs]
            refine k_istore_n C dX8_goOn_11 (by decide) rfl ?_
            refine k_iinc C dX8_goOn_12 rfl (by decide) rfl ?_
            refine k_goto (tgt := 2) C dX8_goOn_15 (by decide) ?_
            have q1 := ih (kk + 1) (by omega) (by omega)
            have e1 : ((kk + 1 : Nat) : Int) = (kk : Int) + 1 := by omega
            rw [e1] at q1
            exact k_sub q1 (And.intro rfl (And.intro rfl (And.intro rfl trivial)))
          · skip
            simp only [hs_hs]
            refine k_istore_n C dX8_goOn_11 (by decide) rfl ?_
            refine k_iinc C dX8_goOn_12 rfl (by decide) rfl ?_
            refine k_goto (tgt := 2) C dX8_goOn_15 (by decide) ?_
            have q1 := ih (kk + 1) (by omega) (by omega)
            have e1 : ((kk + 1 : Nat) : Int) = (kk : Int) + 1 := by omega
            rw [e1] at q1
            exact k_sub q1 (And.intro rfl (And.intro rfl (And.intro rfl trivial))))
  have q1 := loop2 (nn + 1) 0 (by omega) (by omega)
  have e0 : hs hpp zqq (eA 0 67 (zGo zrr 0)) = hpp := hs_same hzq
  rw [e0] at q1
  exact q1
