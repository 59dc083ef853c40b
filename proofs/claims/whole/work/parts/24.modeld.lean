set_option maxRecDepth 20000 in
set_option maxHeartbeats 1000000 in
theorem ct_X8_save (l : Launch) (D : va_G) (tc : Nat → ClassId) (base : Nat) (oo : Nat) (zrr hhi htx has hro : Int → Int) (st ln th re du hsh : Int) (hpp : AH) (hM : MA hpp oo zrr hhi htx has hro st ln th re du hsh) (hst : 0 ≤ st ∧ st ≤ 6) : CT l D tc base yX8_save cX8_save 2 none 0 [aR oo] hpp (fun r h' => r = none ∧ MA h' oo (zrr) (sHi zrr hhi st) (htx) (has) (hro) (sSt st) (ln) (th) (re) (du) (hsh) ∧ Fr hpp h' oo 6) := by
  refine CT.of [some (aR oo), none] (by decide +kernel) rfl (Nat.le_of_ble_eq_true rfl) ?_
  intro p e s m args below meth c C hr hnm
  obtain ⟨g0, g1, g2, g3, g4, g5⟩ := id hM
  refine k_aload_n C dX8_save_0 rfl ?_
  refine k_get C (k := 1) inX8 (ci := 8) rfl (by decide) fl_X8_29 dX8_save_1 (by repeat (first | exact hs_eq _ _ _ | refine hs_ne (by omega) ?_ | assumption)) rfl ?_
  refine k_bipush C dX8_save_4 (by decide +kernel) ?_
  refine k_icmp_ne (tgt := 50) C dX8_save_6 (by decide) ⟨by omega, by omega⟩ ⟨by omega, by omega⟩ (fun c6 => ?_) (fun c6 => ?_)
  · try (exfalso; omega)
    all_goals (
      refine k_iconst C dX8_save_50 ?_
      refine k_istore_n C dX8_save_51 (by decide) rfl ?_
      have loop52 : ∀ (n : Nat) (kk ss : Int) (hxx : Int → Int) (hkk : AH), 0 ≤ kk → kk ≤ 67 → 0 ≤ ss → ss ≤ 5 → hPut hxx (67 * ss) zrr 67 = sHi zrr hhi st → ss + 1 = sSt st → MA hkk oo (zrr) (hPut hxx (67 * ss) zrr kk) (htx) (has) (hro) (ss) (ln) (th) (re) (du) (hsh) → Fr hpp hkk oo 6 → (67 : Int) - kk < (n : Int) → Wk D tc base 2 p l e (lvR 0) s m args below meth c 0 0 (MQ below (Qx D tc base (fun r h' => r = none ∧ MA h' oo (zrr) (sHi zrr hhi st) (htx) (has) (hro) (sSt st) (ln) (th) (re) (du) (hsh) ∧ Fr hpp h' oo 6)) args s 0 0 (fun q => base ≤ q)) 52 [some (aR oo), some (aI kk)] [] hkk := by
        intro n
        induction n with
        | zero =>
          intro kk ss hxx hkk hk0 hk1 hs0 hs1 hxe hse hMk hFk hmu
          exfalso
          omega
        | succ n ih =>
          intro kk ss hxx hkk hk0 hk1 hs0 hs1 hxe hse hMk hFk hmu
          obtain ⟨k0, k1, k2, k3, k4, k5⟩ := id hMk
          refine k_iload_n C dX8_save_52 rfl ?_
          refine k_bipush C dX8_save_53 (by decide +kernel) ?_
          refine k_icmp_ge (tgt := 84) C dX8_save_55 (by decide) ⟨by omega, by omega⟩ ⟨by omega, by omega⟩ (fun c55 => ?_) (fun c55 => ?_)
          · try (exfalso; omega)
            all_goals (
              refine k_aload_n C dX8_save_84 rfl ?_
              refine k_dup C dX8_save_85 rfl ?_
              refine k_get C (k := 1) inX8 (ci := 8) rfl (by decide) fl_X8_29 dX8_save_86 (by repeat (first | exact hs_eq _ _ _ | refine hs_ne (by omega) ?_ | assumption)) rfl ?_
              refine k_iconst C dX8_save_89 ?_
              refine k_iadd C dX8_save_90 ?_
              refine k_put C (k := 1) inX8 tyX8_ok nmX8 (ci := 8) rfl (by decide) fl_X8_29 rfl (Nat.le_of_ble_eq_true rfl) dX8_save_91 (by repeat (first | exact hs_eq _ _ _ | refine hs_ne (by omega) ?_ | assumption)) ?_
              refine k_vret C hr dX8_save_94 ?_
              have e6 : kk = 67 := by omega
              subst e6
              rw [hxe] at k2
              rw [← hse, ← hxe]
              refine ⟨rfl, ?_, hFk.tr (fun aaa haa => by repeat (first | rfl | refine hs_ne (by omega) ?_))⟩
              rw [hxe]
              exact ⟨(by repeat (first | exact hs_eq _ _ _ | refine hs_ne (by omega) ?_ | assumption)), (by repeat (first | exact hs_eq _ _ _ | refine hs_ne (by omega) ?_ | assumption)), (by repeat (first | exact hs_eq _ _ _ | refine hs_ne (by omega) ?_ | assumption)), (by repeat (first | exact hs_eq _ _ _ | refine hs_ne (by omega) ?_ | assumption)), (by repeat (first | exact hs_eq _ _ _ | refine hs_ne (by omega) ?_ | assumption)), (by repeat (first | exact hs_eq _ _ _ | refine hs_ne (by omega) ?_ | assumption))⟩)
          · try (exfalso; omega)
            all_goals (
              refine k_aload_n C dX8_save_58 rfl ?_
              refine k_get C (k := 2) inX8 (ci := 8) rfl (by decide) fl_X8_13 dX8_save_59 (by repeat (first | exact hs_eq _ _ _ | refine hs_ne (by omega) ?_ | assumption)) rfl ?_
              refine k_bipush C dX8_save_62 (by decide +kernel) ?_
              refine k_aload_n C dX8_save_64 rfl ?_
              refine k_get C (k := 1) inX8 (ci := 8) rfl (by decide) fl_X8_29 dX8_save_65 (by repeat (first | exact hs_eq _ _ _ | refine hs_ne (by omega) ?_ | assumption)) rfl ?_
              refine k_imul C dX8_save_68 ?_
              refine k_iload_n C dX8_save_69 rfl ?_
              refine k_iadd C dX8_save_70 ?_
              refine k_aload_n C dX8_save_71 rfl ?_
              refine k_get C (k := 0) inX8 (ci := 8) rfl (by decide) fl_X8_7 dX8_save_72 (by repeat (first | exact hs_eq _ _ _ | refine hs_ne (by omega) ?_ | assumption)) rfl ?_
              refine k_iload_n C dX8_save_75 rfl ?_
              refine k_iaload C dX8_save_76 (by repeat (first | exact hs_eq _ _ _ | refine hs_ne (by omega) ?_ | assumption)) (by omega) (by omega) (by omega) ?_
              refine k_iastore C dX8_save_77 (by repeat (first | exact hs_eq _ _ _ | refine hs_ne (by omega) ?_ | assumption)) (by omega) (by omega) (by omega) ?_
              refine k_iinc C dX8_save_78 rfl (by decide) rfl ?_
              refine k_goto (tgt := 52) C dX8_save_81 (by decide) ?_
              rw [hPut_s hxx (67 * ss) zrr hk0]
              exact ih (kk + 1) ss hxx _ (by omega) (by omega) hs0 hs1 hxe hse ⟨(by repeat (first | exact hs_eq _ _ _ | refine hs_ne (by omega) ?_ | assumption)), (by repeat (first | exact hs_eq _ _ _ | refine hs_ne (by omega) ?_ | assumption)), (by repeat (first | exact hs_eq _ _ _ | refine hs_ne (by omega) ?_ | assumption)), (by repeat (first | exact hs_eq _ _ _ | refine hs_ne (by omega) ?_ | assumption)), (by repeat (first | exact hs_eq _ _ _ | refine hs_ne (by omega) ?_ | assumption)), (by repeat (first | exact hs_eq _ _ _ | refine hs_ne (by omega) ?_ | assumption))⟩ (hFk.tr (fun aaa haa => by repeat (first | rfl | refine hs_ne (by omega) ?_))) (by omega))
      first
        | (have q1 := loop52 68 0 5 (hShift hhi 402) (hs hkk oo (eO 8 [aR (oo + 1), aI (st - 1), aR (oo + 2), aI ln, aR (oo + 3), aI th, aR (oo + 4), aR (oo + 5), aI re, aI du, aL hsh])) (by omega) (by omega) (by omega) (by omega) (by rw [sHi, if_pos (by omega)]; rfl) (by rw [sSt, if_pos (by omega)]; rfl) (by
             have e6 : kk = 402 := by omega
             have e5 : st - 1 = 5 := by omega
             subst e6
             rw [hPut_0]
             rw [← e5]
             exact ⟨(by repeat (first | exact hs_eq _ _ _ | refine hs_ne (by omega) ?_ | assumption)), (by repeat (first | exact hs_eq _ _ _ | refine hs_ne (by omega) ?_ | assumption)), (by repeat (first | exact hs_eq _ _ _ | refine hs_ne (by omega) ?_ | assumption)), (by repeat (first | exact hs_eq _ _ _ | refine hs_ne (by omega) ?_ | assumption)), (by repeat (first | exact hs_eq _ _ _ | refine hs_ne (by omega) ?_ | assumption)), (by repeat (first | exact hs_eq _ _ _ | refine hs_ne (by omega) ?_ | assumption))⟩) (hFk.tr (fun aaa haa => by repeat (first | rfl | refine hs_ne (by omega) ?_))) (by omega)
           exact q1)
        | (have q1 := loop52 68 0 st hhi hpp (by omega) (by omega) (by omega) (by omega) (by rw [sHi, if_neg (by omega)]) (by rw [sSt, if_neg (by omega)]) (by rw [hPut_0]; exact hM) (Fr.rf _ _ _) (by omega)
           exact q1))
  · try (exfalso; omega)
    all_goals (
      refine k_bipush C dX8_save_9 (by decide +kernel) ?_
      refine k_istore_n C dX8_save_11 (by decide) rfl ?_
      have loop12 : ∀ (n : Nat) (kk : Int) (hkk : AH), 67 ≤ kk → kk ≤ 402 → MA hkk oo (zrr) (hShift hhi kk) (htx) (has) (hro) (st) (ln) (th) (re) (du) (hsh) → Fr hpp hkk oo 6 → (402 : Int) - kk < (n : Int) → Wk D tc base 2 p l e (lvR 0) s m args below meth c 0 0 (MQ below (Qx D tc base (fun r h' => r = none ∧ MA h' oo (zrr) (sHi zrr hhi st) (htx) (has) (hro) (sSt st) (ln) (th) (re) (du) (hsh) ∧ Fr hpp h' oo 6)) args s 0 0 (fun q => base ≤ q)) 12 [some (aR oo), some (aI kk)] [] hkk := by
        intro n
        induction n with
        | zero =>
          intro kk hkk hk0 hk1 hMk hFk hmu
          exfalso
          omega
        | succ n ih =>
          intro kk hkk hk0 hk1 hMk hFk hmu
          obtain ⟨k0, k1, k2, k3, k4, k5⟩ := id hMk
          refine k_iload_n C dX8_save_12 rfl ?_
          refine k_sipush C dX8_save_13 (by decide +kernel) ?_
          refine k_icmp_ge (tgt := 40) C dX8_save_16 (by decide) ⟨by omega, by omega⟩ ⟨by omega, by omega⟩ (fun c16 => ?_) (fun c16 => ?_)
          · try (exfalso; omega)
            all_goals (
              refine k_aload_n C dX8_save_40 rfl ?_
              refine k_dup C dX8_save_41 rfl ?_
              refine k_get C (k := 1) inX8 (ci := 8) rfl (by decide) fl_X8_29 dX8_save_42 (by repeat (first | exact hs_eq _ _ _ | refine hs_ne (by omega) ?_ | assumption)) rfl ?_
              refine k_iconst C dX8_save_45 ?_
              refine k_isub C dX8_save_46 ?_
              refine k_put C (k := 1) inX8 tyX8_ok nmX8 (ci := 8) rfl (by decide) fl_X8_29 rfl (Nat.le_of_ble_eq_true rfl) dX8_save_47 (by repeat (first | exact hs_eq _ _ _ | refine hs_ne (by omega) ?_ | assumption)) ?_
              refine k_iconst C dX8_save_50 ?_
              refine k_istore_n C dX8_save_51 (by decide) rfl ?_
              have loop52 : ∀ (n : Nat) (kk ss : Int) (hxx : Int → Int) (hkk : AH), 0 ≤ kk → kk ≤ 67 → 0 ≤ ss → ss ≤ 5 → hPut hxx (67 * ss) zrr 67 = sHi zrr hhi st → ss + 1 = sSt st → MA hkk oo (zrr) (hPut hxx (67 * ss) zrr kk) (htx) (has) (hro) (ss) (ln) (th) (re) (du) (hsh) → Fr hpp hkk oo 6 → (67 : Int) - kk < (n : Int) → Wk D tc base 2 p l e (lvR 0) s m args below meth c 0 0 (MQ below (Qx D tc base (fun r h' => r = none ∧ MA h' oo (zrr) (sHi zrr hhi st) (htx) (has) (hro) (sSt st) (ln) (th) (re) (du) (hsh) ∧ Fr hpp h' oo 6)) args s 0 0 (fun q => base ≤ q)) 52 [some (aR oo), some (aI kk)] [] hkk := by
                intro n
                induction n with
                | zero =>
                  intro kk ss hxx hkk hk0 hk1 hs0 hs1 hxe hse hMk hFk hmu
                  exfalso
                  omega
                | succ n ih =>
                  intro kk ss hxx hkk hk0 hk1 hs0 hs1 hxe hse hMk hFk hmu
                  obtain ⟨k0, k1, k2, k3, k4, k5⟩ := id hMk
                  refine k_iload_n C dX8_save_52 rfl ?_
                  refine k_bipush C dX8_save_53 (by decide +kernel) ?_
                  refine k_icmp_ge (tgt := 84) C dX8_save_55 (by decide) ⟨by omega, by omega⟩ ⟨by omega, by omega⟩ (fun c55 => ?_) (fun c55 => ?_)
                  · try (exfalso; omega)
                    all_goals (
                      refine k_aload_n C dX8_save_84 rfl ?_
                      refine k_dup C dX8_save_85 rfl ?_
                      refine k_get C (k := 1) inX8 (ci := 8) rfl (by decide) fl_X8_29 dX8_save_86 (by repeat (first | exact hs_eq _ _ _ | refine hs_ne (by omega) ?_ | assumption)) rfl ?_
                      refine k_iconst C dX8_save_89 ?_
                      refine k_iadd C dX8_save_90 ?_
                      refine k_put C (k := 1) inX8 tyX8_ok nmX8 (ci := 8) rfl (by decide) fl_X8_29 rfl (Nat.le_of_ble_eq_true rfl) dX8_save_91 (by repeat (first | exact hs_eq _ _ _ | refine hs_ne (by omega) ?_ | assumption)) ?_
                      refine k_vret C hr dX8_save_94 ?_
                      have e6 : kk = 67 := by omega
                      subst e6
                      rw [hxe] at k2
                      rw [← hse, ← hxe]
                      refine ⟨rfl, ?_, hFk.tr (fun aaa haa => by repeat (first | rfl | refine hs_ne (by omega) ?_))⟩
                      rw [hxe]
                      exact ⟨(by repeat (first | exact hs_eq _ _ _ | refine hs_ne (by omega) ?_ | assumption)), (by repeat (first | exact hs_eq _ _ _ | refine hs_ne (by omega) ?_ | assumption)), (by repeat (first | exact hs_eq _ _ _ | refine hs_ne (by omega) ?_ | assumption)), (by repeat (first | exact hs_eq _ _ _ | refine hs_ne (by omega) ?_ | assumption)), (by repeat (first | exact hs_eq _ _ _ | refine hs_ne (by omega) ?_ | assumption)), (by repeat (first | exact hs_eq _ _ _ | refine hs_ne (by omega) ?_ | assumption))⟩)
                  · try (exfalso; omega)
                    all_goals (
                      refine k_aload_n C dX8_save_58 rfl ?_
                      refine k_get C (k := 2) inX8 (ci := 8) rfl (by decide) fl_X8_13 dX8_save_59 (by repeat (first | exact hs_eq _ _ _ | refine hs_ne (by omega) ?_ | assumption)) rfl ?_
                      refine k_bipush C dX8_save_62 (by decide +kernel) ?_
                      refine k_aload_n C dX8_save_64 rfl ?_
                      refine k_get C (k := 1) inX8 (ci := 8) rfl (by decide) fl_X8_29 dX8_save_65 (by repeat (first | exact hs_eq _ _ _ | refine hs_ne (by omega) ?_ | assumption)) rfl ?_
                      refine k_imul C dX8_save_68 ?_
                      refine k_iload_n C dX8_save_69 rfl ?_
                      refine k_iadd C dX8_save_70 ?_
                      refine k_aload_n C dX8_save_71 rfl ?_
                      refine k_get C (k := 0) inX8 (ci := 8) rfl (by decide) fl_X8_7 dX8_save_72 (by repeat (first | exact hs_eq _ _ _ | refine hs_ne (by omega) ?_ | assumption)) rfl ?_
                      refine k_iload_n C dX8_save_75 rfl ?_
                      refine k_iaload C dX8_save_76 (by repeat (first | exact hs_eq _ _ _ | refine hs_ne (by omega) ?_ | assumption)) (by omega) (by omega) (by omega) ?_
                      refine k_iastore C dX8_save_77 (by repeat (first | exact hs_eq _ _ _ | refine hs_ne (by omega) ?_ | assumption)) (by omega) (by omega) (by omega) ?_
                      refine k_iinc C dX8_save_78 rfl (by decide) rfl ?_
                      refine k_goto (tgt := 52) C dX8_save_81 (by decide) ?_
                      rw [hPut_s hxx (67 * ss) zrr hk0]
                      exact ih (kk + 1) ss hxx _ (by omega) (by omega) hs0 hs1 hxe hse ⟨(by repeat (first | exact hs_eq _ _ _ | refine hs_ne (by omega) ?_ | assumption)), (by repeat (first | exact hs_eq _ _ _ | refine hs_ne (by omega) ?_ | assumption)), (by repeat (first | exact hs_eq _ _ _ | refine hs_ne (by omega) ?_ | assumption)), (by repeat (first | exact hs_eq _ _ _ | refine hs_ne (by omega) ?_ | assumption)), (by repeat (first | exact hs_eq _ _ _ | refine hs_ne (by omega) ?_ | assumption)), (by repeat (first | exact hs_eq _ _ _ | refine hs_ne (by omega) ?_ | assumption))⟩ (hFk.tr (fun aaa haa => by repeat (first | rfl | refine hs_ne (by omega) ?_))) (by omega))
              first
                | (have q1 := loop52 68 0 5 (hShift hhi 402) (hs hkk oo (eO 8 [aR (oo + 1), aI (st - 1), aR (oo + 2), aI ln, aR (oo + 3), aI th, aR (oo + 4), aR (oo + 5), aI re, aI du, aL hsh])) (by omega) (by omega) (by omega) (by omega) (by rw [sHi, if_pos (by omega)]; rfl) (by rw [sSt, if_pos (by omega)]; rfl) (by
                     have e6 : kk = 402 := by omega
                     have e5 : st - 1 = 5 := by omega
                     subst e6
                     rw [hPut_0]
                     rw [← e5]
                     exact ⟨(by repeat (first | exact hs_eq _ _ _ | refine hs_ne (by omega) ?_ | assumption)), (by repeat (first | exact hs_eq _ _ _ | refine hs_ne (by omega) ?_ | assumption)), (by repeat (first | exact hs_eq _ _ _ | refine hs_ne (by omega) ?_ | assumption)), (by repeat (first | exact hs_eq _ _ _ | refine hs_ne (by omega) ?_ | assumption)), (by repeat (first | exact hs_eq _ _ _ | refine hs_ne (by omega) ?_ | assumption)), (by repeat (first | exact hs_eq _ _ _ | refine hs_ne (by omega) ?_ | assumption))⟩) (hFk.tr (fun aaa haa => by repeat (first | rfl | refine hs_ne (by omega) ?_))) (by omega)
                   exact q1)
                | (have q1 := loop52 68 0 st hhi hpp (by omega) (by omega) (by omega) (by omega) (by rw [sHi, if_neg (by omega)]) (by rw [sSt, if_neg (by omega)]) (by rw [hPut_0]; exact hM) (Fr.rf _ _ _) (by omega)
                   exact q1))
          · try (exfalso; omega)
            all_goals (
              refine k_aload_n C dX8_save_19 rfl ?_
              refine k_get C (k := 2) inX8 (ci := 8) rfl (by decide) fl_X8_13 dX8_save_20 (by repeat (first | exact hs_eq _ _ _ | refine hs_ne (by omega) ?_ | assumption)) rfl ?_
              refine k_iload_n C dX8_save_23 rfl ?_
              refine k_bipush C dX8_save_24 (by decide +kernel) ?_
              refine k_isub C dX8_save_26 ?_
              refine k_aload_n C dX8_save_27 rfl ?_
              refine k_get C (k := 2) inX8 (ci := 8) rfl (by decide) fl_X8_13 dX8_save_28 (by repeat (first | exact hs_eq _ _ _ | refine hs_ne (by omega) ?_ | assumption)) rfl ?_
              refine k_iload_n C dX8_save_31 rfl ?_
              refine k_iaload C dX8_save_32 (by repeat (first | exact hs_eq _ _ _ | refine hs_ne (by omega) ?_ | assumption)) (by omega) (by omega) (by omega) ?_
              refine k_iastore C dX8_save_33 (by repeat (first | exact hs_eq _ _ _ | refine hs_ne (by omega) ?_ | assumption)) (by omega) (by omega) (by omega) ?_
              refine k_iinc C dX8_save_34 rfl (by decide) rfl ?_
              refine k_goto (tgt := 12) C dX8_save_37 (by decide) ?_
              rw [hShift_at, hShift_s hhi hk0]
              exact ih (kk + 1) _ (by omega) (by omega) ⟨(by repeat (first | exact hs_eq _ _ _ | refine hs_ne (by omega) ?_ | assumption)), (by repeat (first | exact hs_eq _ _ _ | refine hs_ne (by omega) ?_ | assumption)), (by repeat (first | exact hs_eq _ _ _ | refine hs_ne (by omega) ?_ | assumption)), (by repeat (first | exact hs_eq _ _ _ | refine hs_ne (by omega) ?_ | assumption)), (by repeat (first | exact hs_eq _ _ _ | refine hs_ne (by omega) ?_ | assumption)), (by repeat (first | exact hs_eq _ _ _ | refine hs_ne (by omega) ?_ | assumption))⟩ (hFk.tr (fun aaa haa => by repeat (first | rfl | refine hs_ne (by omega) ?_))) (by omega))
      exact loop12 336 67 hpp (by omega) (by omega) (by rw [hShift_0]; exact hM) (Fr.rf _ _ _) (by omega))

set_option maxRecDepth 20000 in
set_option maxHeartbeats 1000000 in
theorem ct_X8_layAside (l : Launch) (D : va_G) (tc : Nat → ClassId) (base : Nat) (oo : Nat) (zrr hhi htx has hro : Int → Int) (st ln th re du hsh : Int) (hpp : AH) (hM : MA hpp oo zrr hhi htx has hro st ln th re du hsh) : CT l D tc base yX8_layAside cX8_layAside 2 none 0 [aR oo] hpp (fun r h' => r = none ∧ MA h' oo (zrr) (hhi) (htx) (hCp has zrr 67) (hro) (st) (ln) (th) (re) (du) (hsh) ∧ Fr hpp h' oo 6) := by
  refine CT.of [some (aR oo), none] (by decide +kernel) rfl (Nat.le_of_ble_eq_true rfl) ?_
  intro p e s m args below meth c C hr hnm
  obtain ⟨g0, g1, g2, g3, g4, g5⟩ := id hM
  refine k_iconst C dX8_layAside_0 ?_
  refine k_istore_n C dX8_layAside_1 (by decide) rfl ?_
  have loop2 : ∀ (n : Nat) (kk : Int) (hkk : AH), 0 ≤ kk → kk ≤ 67 → MA hkk oo (zrr) (hhi) (htx) (hCp has zrr kk) (hro) (st) (ln) (th) (re) (du) (hsh) → Fr hpp hkk oo 6 → (67 : Int) - kk < (n : Int) → Wk D tc base 2 p l e (lvR 0) s m args below meth c 0 0 (MQ below (Qx D tc base (fun r h' => r = none ∧ MA h' oo (zrr) (hhi) (htx) (hCp has zrr 67) (hro) (st) (ln) (th) (re) (du) (hsh) ∧ Fr hpp h' oo 6)) args s 0 0 (fun q => base ≤ q)) 2 [some (aR oo), some (aI kk)] [] hkk := by
    intro n
    induction n with
    | zero =>
      intro kk hkk hk0 hk1 hMk hFk hmu
      exfalso
      omega
    | succ n ih =>
      intro kk hkk hk0 hk1 hMk hFk hmu
      obtain ⟨k0, k1, k2, k3, k4, k5⟩ := id hMk
      refine k_iload_n C dX8_layAside_2 rfl ?_
      refine k_bipush C dX8_layAside_3 (by decide +kernel) ?_
      refine k_icmp_ge (tgt := 26) C dX8_layAside_5 (by decide) ⟨by omega, by omega⟩ ⟨by omega, by omega⟩ (fun c5 => ?_) (fun c5 => ?_)
      · try (exfalso; omega)
        all_goals (
          refine k_vret C hr dX8_layAside_26 ?_
          have e6 : kk = 67 := by omega
          subst e6
          exact ⟨rfl, hMk, hFk⟩)
      · try (exfalso; omega)
        all_goals (
          refine k_aload_n C dX8_layAside_8 rfl ?_
          refine k_get C (k := 6) inX8 (ci := 8) rfl (by decide) fl_X8_19 dX8_layAside_9 (by repeat (first | exact hs_eq _ _ _ | refine hs_ne (by omega) ?_ | assumption)) rfl ?_
          refine k_iload_n C dX8_layAside_12 rfl ?_
          refine k_aload_n C dX8_layAside_13 rfl ?_
          refine k_get C (k := 0) inX8 (ci := 8) rfl (by decide) fl_X8_7 dX8_layAside_14 (by repeat (first | exact hs_eq _ _ _ | refine hs_ne (by omega) ?_ | assumption)) rfl ?_
          refine k_iload_n C dX8_layAside_17 rfl ?_
          refine k_iaload C dX8_layAside_18 (by repeat (first | exact hs_eq _ _ _ | refine hs_ne (by omega) ?_ | assumption)) (by omega) (by omega) (by omega) ?_
          refine k_iastore C dX8_layAside_19 (by repeat (first | exact hs_eq _ _ _ | refine hs_ne (by omega) ?_ | assumption)) (by omega) (by omega) (by omega) ?_
          refine k_iinc C dX8_layAside_20 rfl (by decide) rfl ?_
          refine k_goto (tgt := 2) C dX8_layAside_23 (by decide) ?_
          rw [hCp_s has zrr hk0]
          exact ih (kk + 1) _ (by omega) (by omega) ⟨(by repeat (first | exact hs_eq _ _ _ | refine hs_ne (by omega) ?_ | assumption)), (by repeat (first | exact hs_eq _ _ _ | refine hs_ne (by omega) ?_ | assumption)), (by repeat (first | exact hs_eq _ _ _ | refine hs_ne (by omega) ?_ | assumption)), (by repeat (first | exact hs_eq _ _ _ | refine hs_ne (by omega) ?_ | assumption)), (by repeat (first | exact hs_eq _ _ _ | refine hs_ne (by omega) ?_ | assumption)), (by repeat (first | exact hs_eq _ _ _ | refine hs_ne (by omega) ?_ | assumption))⟩ (hFk.tr (fun aaa haa => by repeat (first | rfl | refine hs_ne (by omega) ?_))) (by omega))
  exact loop2 68 0 hpp (by omega) (by omega) (by rw [hCp_0]; exact hM) (Fr.rf _ _ _) (by omega)

set_option maxRecDepth 20000 in
set_option maxHeartbeats 1000000 in
theorem ct_X8_layBack (l : Launch) (D : va_G) (tc : Nat → ClassId) (base : Nat) (oo : Nat) (zrr hhi htx has hro : Int → Int) (st ln th re du hsh : Int) (hpp : AH) (hM : MA hpp oo zrr hhi htx has hro st ln th re du hsh) : CT l D tc base yX8_layBack cX8_layBack 2 none 0 [aR oo] hpp (fun r h' => r = none ∧ MA h' oo (hCp zrr has 67) (hhi) (htx) (has) (hro) (st) (ln) (th) (re) (du) (hsh) ∧ Fr hpp h' oo 6) := by
  refine CT.of [some (aR oo), none] (by decide +kernel) rfl (Nat.le_of_ble_eq_true rfl) ?_
  intro p e s m args below meth c C hr hnm
  obtain ⟨g0, g1, g2, g3, g4, g5⟩ := id hM
  refine k_iconst C dX8_layBack_0 ?_
  refine k_istore_n C dX8_layBack_1 (by decide) rfl ?_
  have loop2 : ∀ (n : Nat) (kk : Int) (hkk : AH), 0 ≤ kk → kk ≤ 67 → MA hkk oo (hCp zrr has kk) (hhi) (htx) (has) (hro) (st) (ln) (th) (re) (du) (hsh) → Fr hpp hkk oo 6 → (67 : Int) - kk < (n : Int) → Wk D tc base 2 p l e (lvR 0) s m args below meth c 0 0 (MQ below (Qx D tc base (fun r h' => r = none ∧ MA h' oo (hCp zrr has 67) (hhi) (htx) (has) (hro) (st) (ln) (th) (re) (du) (hsh) ∧ Fr hpp h' oo 6)) args s 0 0 (fun q => base ≤ q)) 2 [some (aR oo), some (aI kk)] [] hkk := by
    intro n
    induction n with
    | zero =>
      intro kk hkk hk0 hk1 hMk hFk hmu
      exfalso
      omega
    | succ n ih =>
      intro kk hkk hk0 hk1 hMk hFk hmu
      obtain ⟨k0, k1, k2, k3, k4, k5⟩ := id hMk
      refine k_iload_n C dX8_layBack_2 rfl ?_
      refine k_bipush C dX8_layBack_3 (by decide +kernel) ?_
      refine k_icmp_ge (tgt := 26) C dX8_layBack_5 (by decide) ⟨by omega, by omega⟩ ⟨by omega, by omega⟩ (fun c5 => ?_) (fun c5 => ?_)
      · try (exfalso; omega)
        all_goals (
          refine k_vret C hr dX8_layBack_26 ?_
          have e6 : kk = 67 := by omega
          subst e6
          exact ⟨rfl, hMk, hFk⟩)
      · try (exfalso; omega)
        all_goals (
          refine k_aload_n C dX8_layBack_8 rfl ?_
          refine k_get C (k := 0) inX8 (ci := 8) rfl (by decide) fl_X8_7 dX8_layBack_9 (by repeat (first | exact hs_eq _ _ _ | refine hs_ne (by omega) ?_ | assumption)) rfl ?_
          refine k_iload_n C dX8_layBack_12 rfl ?_
          refine k_aload_n C dX8_layBack_13 rfl ?_
          refine k_get C (k := 6) inX8 (ci := 8) rfl (by decide) fl_X8_19 dX8_layBack_14 (by repeat (first | exact hs_eq _ _ _ | refine hs_ne (by omega) ?_ | assumption)) rfl ?_
          refine k_iload_n C dX8_layBack_17 rfl ?_
          refine k_iaload C dX8_layBack_18 (by repeat (first | exact hs_eq _ _ _ | refine hs_ne (by omega) ?_ | assumption)) (by omega) (by omega) (by omega) ?_
          refine k_iastore C dX8_layBack_19 (by repeat (first | exact hs_eq _ _ _ | refine hs_ne (by omega) ?_ | assumption)) (by omega) (by omega) (by omega) ?_
          refine k_iinc C dX8_layBack_20 rfl (by decide) rfl ?_
          refine k_goto (tgt := 2) C dX8_layBack_23 (by decide) ?_
          rw [hCp_s zrr has hk0]
          exact ih (kk + 1) _ (by omega) (by omega) ⟨(by repeat (first | exact hs_eq _ _ _ | refine hs_ne (by omega) ?_ | assumption)), (by repeat (first | exact hs_eq _ _ _ | refine hs_ne (by omega) ?_ | assumption)), (by repeat (first | exact hs_eq _ _ _ | refine hs_ne (by omega) ?_ | assumption)), (by repeat (first | exact hs_eq _ _ _ | refine hs_ne (by omega) ?_ | assumption)), (by repeat (first | exact hs_eq _ _ _ | refine hs_ne (by omega) ?_ | assumption)), (by repeat (first | exact hs_eq _ _ _ | refine hs_ne (by omega) ?_ | assumption))⟩ (hFk.tr (fun aaa haa => by repeat (first | rfl | refine hs_ne (by omega) ?_))) (by omega))
  exact loop2 68 0 hpp (by omega) (by omega) (by rw [hCp_0]; exact hM) (Fr.rf _ _ _) (by omega)

set_option maxRecDepth 20000 in
set_option maxHeartbeats 1000000 in
theorem ct_X8_comes (l : Launch) (D : va_G) (tc : Nat → ClassId) (base : Nat) (oo : Nat) (zrr hhi htx has hro : Int → Int) (st ln th re du hsh : Int) (hpp : AH) (hM : MA hpp oo zrr hhi htx has hro st ln th re du hsh) (ww tt pd : Int) (h21 : 0 ≤ zrr 21 ∧ zrr 21 ≤ 5) : CT l D tc base yX8_comes cX8_comes 5 none 1 [aR oo, aI ww, aI tt, aI pd] hpp (fun r h' => r = none ∧ MA h' oo (zComes zrr ww tt pd) (hhi) (htx) (has) (hro) (st) (ln) (th) (re) (du) (hsh) ∧ Fr hpp h' oo 6) := by
  refine CT.of [some (aR oo), some (aI ww), some (aI tt), some (aI pd), none] (by decide +kernel) rfl (Nat.le_of_ble_eq_true rfl) ?_
  intro p e s m args below meth c C hr hnm
  obtain ⟨g0, g1, g2, g3, g4, g5⟩ := id hM
  refine k_aload_n C dX8_comes_0 rfl ?_
  refine k_get C (k := 0) inX8 (ci := 8) rfl (by decide) fl_X8_7 dX8_comes_1 (by repeat (first | exact hs_eq _ _ _ | refine hs_ne (by omega) ?_ | assumption)) rfl ?_
  refine k_bipush C dX8_comes_4 (by decide +kernel) ?_
  refine k_iaload C dX8_comes_6 (by repeat (first | exact hs_eq _ _ _ | refine hs_ne (by omega) ?_ | assumption)) (by omega) (by omega) (by omega) ?_
  refine k_callS C (n := 1) (as := [_]) (ct_X8_at l D tc base _ _) ml_X8_36 sm_X8_at ini_X8 co_X8_at ⟨by decide, by decide, by decide +kernel⟩ rfl ⟨by decide, by decide⟩ rfl (Nat.le_of_ble_eq_true rfl) ⟨Nat.zero_le _, Nat.zero_le _⟩ dX8_comes_7 ?_
  rintro _ _ ⟨rfl, rfl⟩
  refine k_istore C dX8_comes_10 (by decide) rfl ?_
  refine k_aload_n C dX8_comes_12 rfl ?_
  refine k_get C (k := 0) inX8 (ci := 8) rfl (by decide) fl_X8_7 dX8_comes_13 (by repeat (first | exact hs_eq _ _ _ | refine hs_ne (by omega) ?_ | assumption)) rfl ?_
  refine k_iload C dX8_comes_16 rfl ?_
  refine k_iload_n C dX8_comes_18 rfl ?_
  refine k_iastore C dX8_comes_19 (by repeat (first | exact hs_eq _ _ _ | refine hs_ne (by omega) ?_ | assumption)) (by omega) (by omega) (by omega) ?_
  refine k_aload_n C dX8_comes_20 rfl ?_
  refine k_get C (k := 0) inX8 (ci := 8) rfl (by decide) fl_X8_7 dX8_comes_21 (by repeat (first | exact hs_eq _ _ _ | refine hs_ne (by omega) ?_ | assumption)) rfl ?_
  refine k_iload C dX8_comes_24 rfl ?_
  refine k_iconst C dX8_comes_26 ?_
  refine k_iadd C dX8_comes_27 ?_
  refine k_iload_n C dX8_comes_28 rfl ?_
  refine k_iastore C dX8_comes_29 (by repeat (first | exact hs_eq _ _ _ | refine hs_ne (by omega) ?_ | assumption)) (by omega) (by omega) (by omega) ?_
  refine k_aload_n C dX8_comes_30 rfl ?_
  refine k_get C (k := 0) inX8 (ci := 8) rfl (by decide) fl_X8_7 dX8_comes_31 (by repeat (first | exact hs_eq _ _ _ | refine hs_ne (by omega) ?_ | assumption)) rfl ?_
  refine k_iload C dX8_comes_34 rfl ?_
  refine k_iconst C dX8_comes_36 ?_
  refine k_iadd C dX8_comes_37 ?_
  refine k_iload_n C dX8_comes_38 rfl ?_
  refine k_iastore C dX8_comes_39 (by repeat (first | exact hs_eq _ _ _ | refine hs_ne (by omega) ?_ | assumption)) (by omega) (by omega) (by omega) ?_
  refine k_aload_n C dX8_comes_40 rfl ?_
  refine k_get C (k := 0) inX8 (ci := 8) rfl (by decide) fl_X8_7 dX8_comes_41 (by repeat (first | exact hs_eq _ _ _ | refine hs_ne (by omega) ?_ | assumption)) rfl ?_
  refine k_iload C dX8_comes_44 rfl ?_
  refine k_iconst C dX8_comes_46 ?_
  refine k_iadd C dX8_comes_47 ?_
  refine k_aload_n C dX8_comes_48 rfl ?_
  refine k_get C (k := 0) inX8 (ci := 8) rfl (by decide) fl_X8_7 dX8_comes_49 (by repeat (first | exact hs_eq _ _ _ | refine hs_ne (by omega) ?_ | assumption)) rfl ?_
  refine k_bipush C dX8_comes_52 (by decide +kernel) ?_
  refine k_iaload C dX8_comes_54 (by repeat (first | exact hs_eq _ _ _ | refine hs_ne (by omega) ?_ | assumption)) (by omega) (by omega) (by omega) ?_
  try simp (disch := omega) only [iu_ne, iu_eq, hs_hs]
  refine k_iload_n C dX8_comes_55 rfl ?_
  refine k_iadd C dX8_comes_56 ?_
  refine k_iastore C dX8_comes_57 (by repeat (first | exact hs_eq _ _ _ | refine hs_ne (by omega) ?_ | assumption)) (by omega) (by omega) (by omega) ?_
  refine k_aload_n C dX8_comes_58 rfl ?_
  refine k_get C (k := 0) inX8 (ci := 8) rfl (by decide) fl_X8_7 dX8_comes_59 (by repeat (first | exact hs_eq _ _ _ | refine hs_ne (by omega) ?_ | assumption)) rfl ?_
  refine k_iload C dX8_comes_62 rfl ?_
  refine k_iconst C dX8_comes_64 ?_
  refine k_iadd C dX8_comes_65 ?_
  refine k_iconst C dX8_comes_66 ?_
  refine k_iastore C dX8_comes_67 (by repeat (first | exact hs_eq _ _ _ | refine hs_ne (by omega) ?_ | assumption)) (by omega) (by omega) (by omega) ?_
  refine k_aload_n C dX8_comes_68 rfl ?_
  refine k_get C (k := 0) inX8 (ci := 8) rfl (by decide) fl_X8_7 dX8_comes_69 (by repeat (first | exact hs_eq _ _ _ | refine hs_ne (by omega) ?_ | assumption)) rfl ?_
  refine k_bipush C dX8_comes_72 (by decide +kernel) ?_
  refine k_dup2 C dX8_comes_74 rfl rfl ?_
  refine k_iaload C dX8_comes_75 (by repeat (first | exact hs_eq _ _ _ | refine hs_ne (by omega) ?_ | assumption)) (by omega) (by omega) (by omega) ?_
  try simp (disch := omega) only [iu_ne, iu_eq, hs_hs]
  refine k_iconst C dX8_comes_76 ?_
  refine k_iadd C dX8_comes_77 ?_
  refine k_iastore C dX8_comes_78 (by repeat (first | exact hs_eq _ _ _ | refine hs_ne (by omega) ?_ | assumption)) (by omega) (by omega) (by omega) ?_
  refine k_vret C hr dX8_comes_79 ?_
  exact ⟨rfl, ⟨(by repeat (first | exact hs_eq _ _ _ | refine hs_ne (by omega) ?_ | assumption)), (by repeat (first | exact hs_eq _ _ _ | refine hs_ne (by omega) ?_ | assumption)), (by repeat (first | exact hs_eq _ _ _ | refine hs_ne (by omega) ?_ | assumption)), (by repeat (first | exact hs_eq _ _ _ | refine hs_ne (by omega) ?_ | assumption)), (by repeat (first | exact hs_eq _ _ _ | refine hs_ne (by omega) ?_ | assumption)), (by repeat (first | exact hs_eq _ _ _ | refine hs_ne (by omega) ?_ | assumption))⟩, fun aaa haa => by repeat (first | rfl | refine hs_ne (by omega) ?_)⟩

set_option maxRecDepth 20000 in
set_option maxHeartbeats 1000000 in
theorem ct_X8_isWeight (l : Launch) (D : va_G) (tc : Nat → ClassId) (base : Nat) (ww : Int) (hpp : AH) (hw : r32 ww) : CT l D tc base yX8_isWeight cX8_isWeight 1 (some .boolean) 1 [aI ww] hpp (fun r h' => (r = some (aI 1) ∧ hpp = h' ∧ 0 ≤ ww ∧ ww ≤ 2) ∨ (r = some (aI 0) ∧ hpp = h' ∧ ¬ (0 ≤ ww ∧ ww ≤ 2))) := by
  refine CT.of [some (aI ww)] (by decide +kernel) rfl (Nat.le_of_ble_eq_true rfl) ?_
  intro p e s m args below meth c C hr hnm
  refine k_iload_n C dX8_isWeight_0 rfl ?_
  refine k_iconst C dX8_isWeight_1 ?_
  refine k_iconst C dX8_isWeight_2 ?_
  refine k_callS C (n := 3) (as := [_, _, _]) (ct_X8_within l D tc base _ _ _ _ hw ⟨by omega, by omega⟩ ⟨by omega, by omega⟩) ml_X8_92 sm_X8_within ini_X8 co_X8_within ⟨by decide, by decide, by decide +kernel⟩ rfl ⟨by decide, by decide⟩ rfl (Nat.le_of_ble_eq_true rfl) ⟨Nat.zero_le _, Nat.zero_le _⟩ dX8_isWeight_3 ?_
  rintro _ _ (⟨rfl, rfl, hq⟩ | ⟨rfl, rfl, hq⟩)
  · skip
    refine k_zret C hr dX8_isWeight_6 (by omega) ?_
    first | exact Or.inl ⟨rfl, rfl, hq⟩ | exact Or.inr ⟨rfl, rfl, hq⟩
  · skip
    refine k_zret C hr dX8_isWeight_6 (by omega) ?_
    first | exact Or.inl ⟨rfl, rfl, hq⟩ | exact Or.inr ⟨rfl, rfl, hq⟩

set_option maxRecDepth 20000 in
set_option maxHeartbeats 1000000 in
theorem ct_X8_areTurns (l : Launch) (D : va_G) (tc : Nat → ClassId) (base : Nat) (ww : Int) (hpp : AH) (hw : r32 ww) : CT l D tc base yX8_areTurns cX8_areTurns 1 (some .boolean) 1 [aI ww] hpp (fun r h' => (r = some (aI 1) ∧ hpp = h' ∧ 1 ≤ ww ∧ ww ≤ 200) ∨ (r = some (aI 0) ∧ hpp = h' ∧ ¬ (1 ≤ ww ∧ ww ≤ 200))) := by
  refine CT.of [some (aI ww)] (by decide +kernel) rfl (Nat.le_of_ble_eq_true rfl) ?_
  intro p e s m args below meth c C hr hnm
  refine k_iload_n C dX8_areTurns_0 rfl ?_
  refine k_iconst C dX8_areTurns_1 ?_
  refine k_sipush C dX8_areTurns_2 (by decide +kernel) ?_
  refine k_callS C (n := 3) (as := [_, _, _]) (ct_X8_within l D tc base _ _ _ _ hw ⟨by omega, by omega⟩ ⟨by omega, by omega⟩) ml_X8_92 sm_X8_within ini_X8 co_X8_within ⟨by decide, by decide, by decide +kernel⟩ rfl ⟨by decide, by decide⟩ rfl (Nat.le_of_ble_eq_true rfl) ⟨Nat.zero_le _, Nat.zero_le _⟩ dX8_areTurns_5 ?_
  rintro _ _ (⟨rfl, rfl, hq⟩ | ⟨rfl, rfl, hq⟩)
  · skip
    refine k_zret C hr dX8_areTurns_8 (by omega) ?_
    first | exact Or.inl ⟨rfl, rfl, hq⟩ | exact Or.inr ⟨rfl, rfl, hq⟩
  · skip
    refine k_zret C hr dX8_areTurns_8 (by omega) ?_
    first | exact Or.inl ⟨rfl, rfl, hq⟩ | exact Or.inr ⟨rfl, rfl, hq⟩

set_option maxRecDepth 20000 in
set_option maxHeartbeats 1000000 in
theorem ct_X8_isPeriod (l : Launch) (D : va_G) (tc : Nat → ClassId) (base : Nat) (ww : Int) (hpp : AH) (hw : r32 ww) : CT l D tc base yX8_isPeriod cX8_isPeriod 1 (some .boolean) 1 [aI ww] hpp (fun r h' => (r = some (aI 1) ∧ hpp = h' ∧ 1 ≤ ww ∧ ww ≤ 720) ∨ (r = some (aI 0) ∧ hpp = h' ∧ ¬ (1 ≤ ww ∧ ww ≤ 720))) := by
  refine CT.of [some (aI ww)] (by decide +kernel) rfl (Nat.le_of_ble_eq_true rfl) ?_
  intro p e s m args below meth c C hr hnm
  refine k_iload_n C dX8_isPeriod_0 rfl ?_
  refine k_iconst C dX8_isPeriod_1 ?_
  refine k_sipush C dX8_isPeriod_2 (by decide +kernel) ?_
  refine k_callS C (n := 3) (as := [_, _, _]) (ct_X8_within l D tc base _ _ _ _ hw ⟨by omega, by omega⟩ ⟨by omega, by omega⟩) ml_X8_92 sm_X8_within ini_X8 co_X8_within ⟨by decide, by decide, by decide +kernel⟩ rfl ⟨by decide, by decide⟩ rfl (Nat.le_of_ble_eq_true rfl) ⟨Nat.zero_le _, Nat.zero_le _⟩ dX8_isPeriod_5 ?_
  rintro _ _ (⟨rfl, rfl, hq⟩ | ⟨rfl, rfl, hq⟩)
  · skip
    refine k_zret C hr dX8_isPeriod_8 (by omega) ?_
    first | exact Or.inl ⟨rfl, rfl, hq⟩ | exact Or.inr ⟨rfl, rfl, hq⟩
  · skip
    refine k_zret C hr dX8_isPeriod_8 (by omega) ?_
    first | exact Or.inl ⟨rfl, rfl, hq⟩ | exact Or.inr ⟨rfl, rfl, hq⟩
