set_option maxRecDepth 20000 in
set_option maxHeartbeats 1000000 in
theorem ct_X8_load (l : Launch) (D : va_G) (tc : Nat → ClassId) (base : Nat) (oo : Nat) (zrr hhi htx has hro : Int → Int) (st ln th re du hsh : Int) (hpp : AH) (hM : MA hpp oo zrr hhi htx has hro st ln th re du hsh) (hst : 0 ≤ st ∧ st ≤ 6) (hln : 0 ≤ ln ∧ ln ≤ 60) (htr : ∀ jj : Int, 0 ≤ jj → jj < ln → 33 ≤ htx jj ∧ htx jj ≤ 126) : CT l D tc base yX8_load cX8_load 3 (some .int) 6 [aR oo] hpp (fun r h' => (pWhole htx hro ln.toNat ∧ (pS htx hro ln.toNat).1 + 1 ≤ 6 ∧ r = some (aI ((pS htx hro ln.toNat).1 + 1)) ∧ MA h' oo (zLd zrr (pS htx hro ln.toNat).2.2 ((pS htx hro ln.toNat).1 + 1).toNat) (sHi zrr hhi st) htx has (pS htx hro ln.toNat).2.2 (sSt st) 0 0 (pS htx hro ln.toNat).1 (pS htx hro ln.toNat).2.1 hsh ∧ Fr hpp h' oo 6) ∨ (¬ pWhole htx hro ln.toNat ∧ r = some (aI 0) ∧ (∃ (rex dux : Int) (hrx : Int → Int), MA h' oo zrr hhi htx has hrx st ln 1 rex dux hsh) ∧ Fr hpp h' oo 6) ∨ (pWhole htx hro ln.toNat ∧ ¬ (pS htx hro ln.toNat).1 + 1 ≤ 6 ∧ r = some (aI 0) ∧ (∃ (rex dux : Int) (hrx : Int → Int), MA h' oo zrr hhi htx has hrx st ln 2 rex dux hsh) ∧ Fr hpp h' oo 6)) := by
  refine CT.of [some (aR oo), none, none] (by decide +kernel) rfl (Nat.le_of_ble_eq_true rfl) ?_
  intro p e s m args below meth c C hr hnm
  obtain ⟨g0, g1, g2, g3, g4, g5⟩ := id hM
  refine k_aload_n C dX8_load_0 rfl ?_
  refine k_callV C (n := 0) (as := []) (ct_X8_rightUpTo l D tc base oo zrr hhi htx has hro st ln th re du hsh _ ⟨(by repeat (first | exact hs_eq _ _ _ | refine hs_ne (by omega) ?_ | assumption)), (by repeat (first | exact hs_eq _ _ _ | refine hs_ne (by omega) ?_ | assumption)), (by repeat (first | exact hs_eq _ _ _ | refine hs_ne (by omega) ?_ | assumption)), (by repeat (first | exact hs_eq _ _ _ | refine hs_ne (by omega) ?_ | assumption)), (by repeat (first | exact hs_eq _ _ _ | refine hs_ne (by omega) ?_ | assumption)), (by repeat (first | exact hs_eq _ _ _ | refine hs_ne (by omega) ?_ | assumption))⟩ hln htr) ml_X8_143 im_X8_rightUpTo se_X8_rightUpTo ini_X8 co_X8_rightUpTo ⟨rfl, by decide, by decide, by decide +kernel⟩ rfl (ci := 8) rfl (by repeat (first | exact hs_eq _ _ _ | refine hs_ne (by omega) ?_ | assumption)) ⟨by decide, by decide⟩ rfl (Nat.le_of_ble_eq_true rfl) ⟨Nat.zero_le _, Nat.zero_le _⟩ dX8_load_1 ?_
  rintro _ hra ⟨nn, rfl, hn1, hpf, hn3, hFa⟩
  have hnm : ∃ (rex dux : Int) (hrx : Int → Int), MA hra oo zrr hhi htx has hrx st ln th rex dux hsh ∧ ((nn : Int) = ln → rex = (pS htx hro nn).1 ∧ dux = (pS htx hro nn).2.1 ∧ hrx = (pS htx hro nn).2.2) := by
    rcases hn3 with ⟨-, q2⟩ | ⟨q1, -, rex, dux, hrx, q2⟩
    · exact ⟨_, _, _, q2, fun _ => ⟨rfl, rfl, rfl⟩⟩
    · exact ⟨rex, dux, hrx, q2, fun q => by omega⟩
  have hno : (nn : Int) < ln → ¬ pOk (htx nn) (pS htx hro nn).1 (pS htx hro nn).2.1 (pS htx hro nn).2.2 := fun q => by
    rcases hn3 with ⟨q1, -⟩ | ⟨-, q2, -⟩
    · omega
    · exact q2
  have hpi := pInv_run hpf
  obtain ⟨zre, zdu, zro, hMa, hnr⟩ := hnm
  obtain ⟨k0, k1, k2, k3, k4, k5⟩ := id hMa
  refine k_aload_n C dX8_load_4 rfl ?_
  refine k_get C (k := 3) inX8 (ci := 8) rfl (by decide) fl_X8_126 dX8_load_5 (by repeat (first | exact hs_eq _ _ _ | refine hs_ne (by omega) ?_ | assumption)) rfl ?_
  refine k_icmp_ne (tgt := 39) C dX8_load_8 (by decide) ⟨by omega, by omega⟩ ⟨by omega, by omega⟩ (fun c8 => ?_) (fun c8 => ?_)
  · try (exfalso; omega)
    all_goals (
      refine k_iconst C dX8_load_39 ?_
      refine k_istore_n C dX8_load_40 (by decide) rfl ?_
      refine k_aload_n C dX8_load_41 rfl ?_
      refine k_iload_n C dX8_load_42 rfl ?_
      refine k_if_ne (tgt := 50) C dX8_load_43 (by decide) ⟨by omega, by omega⟩ (fun c43 => ?_) (fun c43 => ?_)
      · try (exfalso; omega)
        all_goals (
          refine k_aload_n C dX8_load_50 rfl ?_
          refine k_get C (k := 8) inX8 (ci := 8) rfl (by decide) fl_X8_129 dX8_load_51 (by repeat (first | exact hs_eq _ _ _ | refine hs_ne (by omega) ?_ | assumption)) rfl ?_
          refine k_iconst C dX8_load_54 ?_
          refine k_iadd C dX8_load_55 ?_
          refine k_bipush C dX8_load_56 (by decide +kernel) ?_
          refine k_icmp_le (tgt := 65) C dX8_load_58 (by decide) ⟨by omega, by omega⟩ ⟨by omega, by omega⟩ (fun c58 => ?_) (fun c58 => ?_)
          · try (exfalso; omega)
            all_goals (
              refine k_iconst C dX8_load_65 ?_
              refine k_put C (k := 5) inX8 tyX8_ok nmX8 (ci := 8) rfl (by decide) fl_X8_25 rfl (Nat.le_of_ble_eq_true rfl) dX8_load_66 (by repeat (first | exact hs_eq _ _ _ | refine hs_ne (by omega) ?_ | assumption)) ?_
              refine k_aload_n C dX8_load_69 rfl ?_
              refine k_get C (k := 5) inX8 (ci := 8) rfl (by decide) fl_X8_25 dX8_load_70 (by repeat (first | exact hs_eq _ _ _ | refine hs_ne (by omega) ?_ | assumption)) rfl ?_
              refine k_if_le (tgt := 78) C dX8_load_73 (by decide) ⟨by omega, by omega⟩ (fun c73 => ?_) (fun c73 => ?_)
              · try (exfalso; omega)
                all_goals (
                  refine k_aload_n C dX8_load_78 rfl ?_
                  refine k_callV C (n := 0) (as := []) (ct_X8_save l D tc base oo zrr hhi htx has (pS htx hro nn).2.2 st ln 0 (pS htx hro nn).1 (pS htx hro nn).2.1 hsh _ ⟨(by repeat (first | exact hs_eq _ _ _ | refine hs_ne (by omega) ?_ | assumption)), (by repeat (first | exact hs_eq _ _ _ | refine hs_ne (by omega) ?_ | assumption)), (by repeat (first | exact hs_eq _ _ _ | refine hs_ne (by omega) ?_ | assumption)), (by repeat (first | exact hs_eq _ _ _ | refine hs_ne (by omega) ?_ | assumption)), (by repeat (first | exact hs_eq _ _ _ | refine hs_ne (by omega) ?_ | assumption)), (by repeat (first | exact hs_eq _ _ _ | refine hs_ne (by omega) ?_ | assumption))⟩ hst) ml_X8_102 im_X8_save se_X8_save ini_X8 co_X8_save ⟨rfl, by decide, by decide, by decide +kernel⟩ rfl (ci := 8) rfl (by repeat (first | exact hs_eq _ _ _ | refine hs_ne (by omega) ?_ | assumption)) ⟨by decide, by decide⟩ rfl (Nat.le_of_ble_eq_true rfl) ⟨Nat.zero_le _, Nat.zero_le _⟩ dX8_load_79 ?_
                  rintro _ hsv ⟨rfl, hM1, hF1⟩
                  obtain ⟨k0, k1, k2, k3, k4, k5⟩ := id hM1
                  refine k_aload_n C dX8_load_82 rfl ?_
                  refine k_iconst C dX8_load_83 ?_
                  refine k_put C (k := 3) inX8 tyX8_ok nmX8 (ci := 8) rfl (by decide) fl_X8_126 rfl (Nat.le_of_ble_eq_true rfl) dX8_load_84 (by repeat (first | exact hs_eq _ _ _ | refine hs_ne (by omega) ?_ | assumption)) ?_
                  refine k_aload_n C dX8_load_87 rfl ?_
                  refine k_get C (k := 0) inX8 (ci := 8) rfl (by decide) fl_X8_7 dX8_load_88 (by repeat (first | exact hs_eq _ _ _ | refine hs_ne (by omega) ?_ | assumption)) rfl ?_
                  refine k_bipush C dX8_load_91 (by decide +kernel) ?_
                  refine k_iconst C dX8_load_93 ?_
                  refine k_iastore C dX8_load_94 (by repeat (first | exact hs_eq _ _ _ | refine hs_ne (by omega) ?_ | assumption)) (by omega) (by omega) (by omega) ?_
                  refine k_iconst C dX8_load_95 ?_
                  refine k_istore_n C dX8_load_96 (by decide) rfl ?_
                  have loop97 : ∀ (n : Nat) (kk : Nat) (hkk : AH), (kk : Int) ≤ (pS htx hro nn).1 + 1 → MA hkk oo (zLd zrr (pS htx hro nn).2.2 kk) (sHi zrr hhi st) htx has (pS htx hro nn).2.2 (sSt st) 0 0 (pS htx hro nn).1 (pS htx hro nn).2.1 hsh → Fr hpp hkk oo 6 → (pS htx hro nn).1 + 1 - kk < (n : Int) → Wk D tc base 3 p l e (lvR 6) s m args below meth c 0 0 (MQ below (Qx D tc base (fun r h' => (pWhole htx hro ln.toNat ∧ (pS htx hro ln.toNat).1 + 1 ≤ 6 ∧ r = some (aI ((pS htx hro ln.toNat).1 + 1)) ∧ MA h' oo (zLd zrr (pS htx hro ln.toNat).2.2 ((pS htx hro ln.toNat).1 + 1).toNat) (sHi zrr hhi st) htx has (pS htx hro ln.toNat).2.2 (sSt st) 0 0 (pS htx hro ln.toNat).1 (pS htx hro ln.toNat).2.1 hsh ∧ Fr hpp h' oo 6) ∨ (¬ pWhole htx hro ln.toNat ∧ r = some (aI 0) ∧ (∃ (rex dux : Int) (hrx : Int → Int), MA h' oo zrr hhi htx has hrx st ln 1 rex dux hsh) ∧ Fr hpp h' oo 6) ∨ (pWhole htx hro ln.toNat ∧ ¬ (pS htx hro ln.toNat).1 + 1 ≤ 6 ∧ r = some (aI 0) ∧ (∃ (rex dux : Int) (hrx : Int → Int), MA h' oo zrr hhi htx has hrx st ln 2 rex dux hsh) ∧ Fr hpp h' oo 6))) args s 0 0 (fun q => base ≤ q)) 97 [some (aR oo), some (aI 1), some (aI kk)] [] hkk := by
                    intro n
                    induction n with
                    | zero =>
                      intro kk hkk hk hMk hFk hmu
                      exfalso
                      omega
                    | succ n ih =>
                      intro kk hkk hk hMk hFk hmu
                      have hz21 := zLd_21 (z := zrr) (ro := (pS htx hro nn).2.2) (k := kk)
                      obtain ⟨y0, y1, y2, y3, y4, y5⟩ := id hMk
                      refine k_iload_n C dX8_load_97 rfl ?_
                      refine k_aload_n C dX8_load_98 rfl ?_
                      refine k_get C (k := 8) inX8 (ci := 8) rfl (by decide) fl_X8_129 dX8_load_99 (by repeat (first | exact hs_eq _ _ _ | refine hs_ne (by omega) ?_ | assumption)) rfl ?_
                      refine k_icmp_gt (tgt := 143) C dX8_load_102 (by decide) ⟨by omega, by omega⟩ ⟨by omega, by omega⟩ (fun c102 => ?_) (fun c102 => ?_)
                      · try (exfalso; omega)
                        all_goals (
                          refine k_aload_n C dX8_load_143 rfl ?_
                          refine k_get C (k := 0) inX8 (ci := 8) rfl (by decide) fl_X8_7 dX8_load_144 (by repeat (first | exact hs_eq _ _ _ | refine hs_ne (by omega) ?_ | assumption)) rfl ?_
                          refine k_bipush C dX8_load_147 (by decide +kernel) ?_
                          refine k_iaload C dX8_load_149 (by repeat (first | exact hs_eq _ _ _ | refine hs_ne (by omega) ?_ | assumption)) (by omega) (by omega) (by omega) ?_
                          refine k_iret C hr dX8_load_150 ?_
                          first
                            | (have hkk2 : ((pS htx hro nn).1 + 1).toNat = kk := by omega
                               rw [hkl]
                               exact Or.inl ⟨⟨hpf, by omega, by omega⟩, by omega, congrArg (fun qq => some (aI qq)) (by omega), by rw [hkk2]; exact hMk, hFk⟩)
                            | exact Or.inr (Or.inl ⟨fun hpw => by obtain ⟨x1, x2, x3⟩ := hpw; first | omega | (rw [hkl] at x2 x3; omega) | exact hno (by omega) (x1 nn (by omega)), rfl, ⟨_, _, _, ⟨(by repeat (first | exact hs_eq _ _ _ | refine hs_ne (by omega) ?_ | assumption)), (by repeat (first | exact hs_eq _ _ _ | refine hs_ne (by omega) ?_ | assumption)), (by repeat (first | exact hs_eq _ _ _ | refine hs_ne (by omega) ?_ | assumption)), (by repeat (first | exact hs_eq _ _ _ | refine hs_ne (by omega) ?_ | assumption)), (by repeat (first | exact hs_eq _ _ _ | refine hs_ne (by omega) ?_ | assumption)), (by repeat (first | exact hs_eq _ _ _ | refine hs_ne (by omega) ?_ | assumption))⟩⟩, Fr.tr hFa (fun aaa haa => by repeat (first | rfl | refine hs_ne (by omega) ?_))⟩)
                            | exact Or.inr (Or.inr ⟨⟨hkl ▸ hpf, by rw [hkl]; omega, by rw [hkl]; omega⟩, by rw [hkl]; omega, rfl, ⟨_, _, _, ⟨(by repeat (first | exact hs_eq _ _ _ | refine hs_ne (by omega) ?_ | assumption)), (by repeat (first | exact hs_eq _ _ _ | refine hs_ne (by omega) ?_ | assumption)), (by repeat (first | exact hs_eq _ _ _ | refine hs_ne (by omega) ?_ | assumption)), (by repeat (first | exact hs_eq _ _ _ | refine hs_ne (by omega) ?_ | assumption)), (by repeat (first | exact hs_eq _ _ _ | refine hs_ne (by omega) ?_ | assumption)), (by repeat (first | exact hs_eq _ _ _ | refine hs_ne (by omega) ?_ | assumption))⟩⟩, Fr.tr hFa (fun aaa haa => by repeat (first | rfl | refine hs_ne (by omega) ?_))⟩))
                      · try (exfalso; omega)
                        all_goals (
                          refine k_aload_n C dX8_load_105 rfl ?_
                          refine k_aload_n C dX8_load_106 rfl ?_
                          refine k_get C (k := 7) inX8 (ci := 8) rfl (by decide) fl_X8_22 dX8_load_107 (by repeat (first | exact hs_eq _ _ _ | refine hs_ne (by omega) ?_ | assumption)) rfl ?_
                          refine k_iconst C dX8_load_110 ?_
                          refine k_iload_n C dX8_load_111 rfl ?_
                          refine k_imul C dX8_load_112 ?_
                          refine k_iaload C dX8_load_113 (by repeat (first | exact hs_eq _ _ _ | refine hs_ne (by omega) ?_ | assumption)) (by omega) (by omega) (by omega) ?_
                          refine k_aload_n C dX8_load_114 rfl ?_
                          refine k_get C (k := 7) inX8 (ci := 8) rfl (by decide) fl_X8_22 dX8_load_115 (by repeat (first | exact hs_eq _ _ _ | refine hs_ne (by omega) ?_ | assumption)) rfl ?_
                          refine k_iconst C dX8_load_118 ?_
                          refine k_iload_n C dX8_load_119 rfl ?_
                          refine k_imul C dX8_load_120 ?_
                          refine k_iconst C dX8_load_121 ?_
                          refine k_iadd C dX8_load_122 ?_
                          refine k_iaload C dX8_load_123 (by repeat (first | exact hs_eq _ _ _ | refine hs_ne (by omega) ?_ | assumption)) (by omega) (by omega) (by omega) ?_
                          refine k_aload_n C dX8_load_124 rfl ?_
                          refine k_get C (k := 7) inX8 (ci := 8) rfl (by decide) fl_X8_22 dX8_load_125 (by repeat (first | exact hs_eq _ _ _ | refine hs_ne (by omega) ?_ | assumption)) rfl ?_
                          refine k_iconst C dX8_load_128 ?_
                          refine k_iload_n C dX8_load_129 rfl ?_
                          refine k_imul C dX8_load_130 ?_
                          refine k_iconst C dX8_load_131 ?_
                          refine k_iadd C dX8_load_132 ?_
                          refine k_iaload C dX8_load_133 (by repeat (first | exact hs_eq _ _ _ | refine hs_ne (by omega) ?_ | assumption)) (by omega) (by omega) (by omega) ?_
                          refine k_callV C (n := 3) (as := [_, _, _]) (ct_X8_comes l D tc base oo (zLd zrr (pS htx hro nn).2.2 kk) _ _ _ _ _ _ _ _ _ _ _ hMk _ _ _ ⟨by omega, by omega⟩) ml_X8_115 im_X8_comes se_X8_comes ini_X8 co_X8_comes ⟨rfl, by decide, by decide, by decide +kernel⟩ rfl (ci := 8) rfl (by repeat (first | exact hs_eq _ _ _ | refine hs_ne (by omega) ?_ | assumption)) ⟨by decide, by decide⟩ rfl (Nat.le_of_ble_eq_true rfl) ⟨Nat.zero_le _, Nat.zero_le _⟩ dX8_load_134 ?_
                          rintro _ hcc ⟨rfl, hM2, hF2⟩
                          refine k_iinc C dX8_load_137 rfl (by decide) rfl ?_
                          refine k_goto (tgt := 97) C dX8_load_140 (by decide) ?_
                          have e2 : ((kk + 1 : Nat) : Int) = (kk : Int) + 1 := by omega
                          have q1 := ih (kk + 1) _ (by omega) hM2 (hFk.tr hF2) (by omega)
                          rw [e2] at q1
                          exact q1)
                  exact loop97 ((pS htx hro nn).1 + 2).toNat 0 _ (by omega) ⟨(by repeat (first | exact hs_eq _ _ _ | refine hs_ne (by omega) ?_ | assumption)), (by repeat (first | exact hs_eq _ _ _ | refine hs_ne (by omega) ?_ | assumption)), (by repeat (first | exact hs_eq _ _ _ | refine hs_ne (by omega) ?_ | assumption)), (by repeat (first | exact hs_eq _ _ _ | refine hs_ne (by omega) ?_ | assumption)), (by repeat (first | exact hs_eq _ _ _ | refine hs_ne (by omega) ?_ | assumption)), (by repeat (first | exact hs_eq _ _ _ | refine hs_ne (by omega) ?_ | assumption))⟩ (Fr.tr (Fr.tr (Fr.tr hFa (fun aaa haa => by repeat (first | rfl | refine hs_ne (by omega) ?_))) hF1) (fun aaa haa => by repeat (first | rfl | refine hs_ne (by omega) ?_))) (by omega))
              · try (exfalso; omega)
                all_goals (
                  refine k_iconst C dX8_load_76 ?_
                  refine k_iret C hr dX8_load_77 ?_
                  first
                    | (have hkk2 : ((pS htx hro nn).1 + 1).toNat = kk := by omega
                       rw [hkl]
                       exact Or.inl ⟨⟨hpf, by omega, by omega⟩, by omega, congrArg (fun qq => some (aI qq)) (by omega), by rw [hkk2]; exact hMk, hFk⟩)
                    | exact Or.inr (Or.inl ⟨fun hpw => by obtain ⟨x1, x2, x3⟩ := hpw; first | omega | (rw [hkl] at x2 x3; omega) | exact hno (by omega) (x1 nn (by omega)), rfl, ⟨_, _, _, ⟨(by repeat (first | exact hs_eq _ _ _ | refine hs_ne (by omega) ?_ | assumption)), (by repeat (first | exact hs_eq _ _ _ | refine hs_ne (by omega) ?_ | assumption)), (by repeat (first | exact hs_eq _ _ _ | refine hs_ne (by omega) ?_ | assumption)), (by repeat (first | exact hs_eq _ _ _ | refine hs_ne (by omega) ?_ | assumption)), (by repeat (first | exact hs_eq _ _ _ | refine hs_ne (by omega) ?_ | assumption)), (by repeat (first | exact hs_eq _ _ _ | refine hs_ne (by omega) ?_ | assumption))⟩⟩, Fr.tr hFa (fun aaa haa => by repeat (first | rfl | refine hs_ne (by omega) ?_))⟩)
                    | exact Or.inr (Or.inr ⟨⟨hkl ▸ hpf, by rw [hkl]; omega, by rw [hkl]; omega⟩, by rw [hkl]; omega, rfl, ⟨_, _, _, ⟨(by repeat (first | exact hs_eq _ _ _ | refine hs_ne (by omega) ?_ | assumption)), (by repeat (first | exact hs_eq _ _ _ | refine hs_ne (by omega) ?_ | assumption)), (by repeat (first | exact hs_eq _ _ _ | refine hs_ne (by omega) ?_ | assumption)), (by repeat (first | exact hs_eq _ _ _ | refine hs_ne (by omega) ?_ | assumption)), (by repeat (first | exact hs_eq _ _ _ | refine hs_ne (by omega) ?_ | assumption)), (by repeat (first | exact hs_eq _ _ _ | refine hs_ne (by omega) ?_ | assumption))⟩⟩, Fr.tr hFa (fun aaa haa => by repeat (first | rfl | refine hs_ne (by omega) ?_))⟩)))
          · try (exfalso; omega)
            all_goals (
              refine k_iconst C dX8_load_61 ?_
              refine k_goto (tgt := 66) C dX8_load_62 (by decide) ?_
              refine k_put C (k := 5) inX8 tyX8_ok nmX8 (ci := 8) rfl (by decide) fl_X8_25 rfl (Nat.le_of_ble_eq_true rfl) dX8_load_66 (by repeat (first | exact hs_eq _ _ _ | refine hs_ne (by omega) ?_ | assumption)) ?_
              refine k_aload_n C dX8_load_69 rfl ?_
              refine k_get C (k := 5) inX8 (ci := 8) rfl (by decide) fl_X8_25 dX8_load_70 (by repeat (first | exact hs_eq _ _ _ | refine hs_ne (by omega) ?_ | assumption)) rfl ?_
              refine k_if_le (tgt := 78) C dX8_load_73 (by decide) ⟨by omega, by omega⟩ (fun c73 => ?_) (fun c73 => ?_)
              · try (exfalso; omega)
                all_goals (
                  refine k_aload_n C dX8_load_78 rfl ?_
                  refine k_callV C (n := 0) (as := []) (ct_X8_save l D tc base oo zrr hhi htx has (pS htx hro nn).2.2 st ln 0 (pS htx hro nn).1 (pS htx hro nn).2.1 hsh _ ⟨(by repeat (first | exact hs_eq _ _ _ | refine hs_ne (by omega) ?_ | assumption)), (by repeat (first | exact hs_eq _ _ _ | refine hs_ne (by omega) ?_ | assumption)), (by repeat (first | exact hs_eq _ _ _ | refine hs_ne (by omega) ?_ | assumption)), (by repeat (first | exact hs_eq _ _ _ | refine hs_ne (by omega) ?_ | assumption)), (by repeat (first | exact hs_eq _ _ _ | refine hs_ne (by omega) ?_ | assumption)), (by repeat (first | exact hs_eq _ _ _ | refine hs_ne (by omega) ?_ | assumption))⟩ hst) ml_X8_102 im_X8_save se_X8_save ini_X8 co_X8_save ⟨rfl, by decide, by decide, by decide +kernel⟩ rfl (ci := 8) rfl (by repeat (first | exact hs_eq _ _ _ | refine hs_ne (by omega) ?_ | assumption)) ⟨by decide, by decide⟩ rfl (Nat.le_of_ble_eq_true rfl) ⟨Nat.zero_le _, Nat.zero_le _⟩ dX8_load_79 ?_
                  rintro _ hsv ⟨rfl, hM1, hF1⟩
                  obtain ⟨k0, k1, k2, k3, k4, k5⟩ := id hM1
                  refine k_aload_n C dX8_load_82 rfl ?_
                  refine k_iconst C dX8_load_83 ?_
                  refine k_put C (k := 3) inX8 tyX8_ok nmX8 (ci := 8) rfl (by decide) fl_X8_126 rfl (Nat.le_of_ble_eq_true rfl) dX8_load_84 (by repeat (first | exact hs_eq _ _ _ | refine hs_ne (by omega) ?_ | assumption)) ?_
                  refine k_aload_n C dX8_load_87 rfl ?_
                  refine k_get C (k := 0) inX8 (ci := 8) rfl (by decide) fl_X8_7 dX8_load_88 (by repeat (first | exact hs_eq _ _ _ | refine hs_ne (by omega) ?_ | assumption)) rfl ?_
                  refine k_bipush C dX8_load_91 (by decide +kernel) ?_
                  refine k_iconst C dX8_load_93 ?_
                  refine k_iastore C dX8_load_94 (by repeat (first | exact hs_eq _ _ _ | refine hs_ne (by omega) ?_ | assumption)) (by omega) (by omega) (by omega) ?_
                  refine k_iconst C dX8_load_95 ?_
                  refine k_istore_n C dX8_load_96 (by decide) rfl ?_
                  have loop97 : ∀ (n : Nat) (kk : Nat) (hkk : AH), (kk : Int) ≤ (pS htx hro nn).1 + 1 → MA hkk oo (zLd zrr (pS htx hro nn).2.2 kk) (sHi zrr hhi st) htx has (pS htx hro nn).2.2 (sSt st) 0 0 (pS htx hro nn).1 (pS htx hro nn).2.1 hsh → Fr hpp hkk oo 6 → (pS htx hro nn).1 + 1 - kk < (n : Int) → Wk D tc base 3 p l e (lvR 6) s m args below meth c 0 0 (MQ below (Qx D tc base (fun r h' => (pWhole htx hro ln.toNat ∧ (pS htx hro ln.toNat).1 + 1 ≤ 6 ∧ r = some (aI ((pS htx hro ln.toNat).1 + 1)) ∧ MA h' oo (zLd zrr (pS htx hro ln.toNat).2.2 ((pS htx hro ln.toNat).1 + 1).toNat) (sHi zrr hhi st) htx has (pS htx hro ln.toNat).2.2 (sSt st) 0 0 (pS htx hro ln.toNat).1 (pS htx hro ln.toNat).2.1 hsh ∧ Fr hpp h' oo 6) ∨ (¬ pWhole htx hro ln.toNat ∧ r = some (aI 0) ∧ (∃ (rex dux : Int) (hrx : Int → Int), MA h' oo zrr hhi htx has hrx st ln 1 rex dux hsh) ∧ Fr hpp h' oo 6) ∨ (pWhole htx hro ln.toNat ∧ ¬ (pS htx hro ln.toNat).1 + 1 ≤ 6 ∧ r = some (aI 0) ∧ (∃ (rex dux : Int) (hrx : Int → Int), MA h' oo zrr hhi htx has hrx st ln 2 rex dux hsh) ∧ Fr hpp h' oo 6))) args s 0 0 (fun q => base ≤ q)) 97 [some (aR oo), some (aI 1), some (aI kk)] [] hkk := by
                    intro n
                    induction n with
                    | zero =>
                      intro kk hkk hk hMk hFk hmu
                      exfalso
                      omega
                    | succ n ih =>
                      intro kk hkk hk hMk hFk hmu
                      have hz21 := zLd_21 (z := zrr) (ro := (pS htx hro nn).2.2) (k := kk)
                      obtain ⟨y0, y1, y2, y3, y4, y5⟩ := id hMk
                      refine k_iload_n C dX8_load_97 rfl ?_
                      refine k_aload_n C dX8_load_98 rfl ?_
                      refine k_get C (k := 8) inX8 (ci := 8) rfl (by decide) fl_X8_129 dX8_load_99 (by repeat (first | exact hs_eq _ _ _ | refine hs_ne (by omega) ?_ | assumption)) rfl ?_
                      refine k_icmp_gt (tgt := 143) C dX8_load_102 (by decide) ⟨by omega, by omega⟩ ⟨by omega, by omega⟩ (fun c102 => ?_) (fun c102 => ?_)
                      · try (exfalso; omega)
                        all_goals (
                          refine k_aload_n C dX8_load_143 rfl ?_
                          refine k_get C (k := 0) inX8 (ci := 8) rfl (by decide) fl_X8_7 dX8_load_144 (by repeat (first | exact hs_eq _ _ _ | refine hs_ne (by omega) ?_ | assumption)) rfl ?_
                          refine k_bipush C dX8_load_147 (by decide +kernel) ?_
                          refine k_iaload C dX8_load_149 (by repeat (first | exact hs_eq _ _ _ | refine hs_ne (by omega) ?_ | assumption)) (by omega) (by omega) (by omega) ?_
                          refine k_iret C hr dX8_load_150 ?_
                          first
                            | (have hkk2 : ((pS htx hro nn).1 + 1).toNat = kk := by omega
                               rw [hkl]
                               exact Or.inl ⟨⟨hpf, by omega, by omega⟩, by omega, congrArg (fun qq => some (aI qq)) (by omega), by rw [hkk2]; exact hMk, hFk⟩)
                            | exact Or.inr (Or.inl ⟨fun hpw => by obtain ⟨x1, x2, x3⟩ := hpw; first | omega | (rw [hkl] at x2 x3; omega) | exact hno (by omega) (x1 nn (by omega)), rfl, ⟨_, _, _, ⟨(by repeat (first | exact hs_eq _ _ _ | refine hs_ne (by omega) ?_ | assumption)), (by repeat (first | exact hs_eq _ _ _ | refine hs_ne (by omega) ?_ | assumption)), (by repeat (first | exact hs_eq _ _ _ | refine hs_ne (by omega) ?_ | assumption)), (by repeat (first | exact hs_eq _ _ _ | refine hs_ne (by omega) ?_ | assumption)), (by repeat (first | exact hs_eq _ _ _ | refine hs_ne (by omega) ?_ | assumption)), (by repeat (first | exact hs_eq _ _ _ | refine hs_ne (by omega) ?_ | assumption))⟩⟩, Fr.tr hFa (fun aaa haa => by repeat (first | rfl | refine hs_ne (by omega) ?_))⟩)
                            | exact Or.inr (Or.inr ⟨⟨hkl ▸ hpf, by rw [hkl]; omega, by rw [hkl]; omega⟩, by rw [hkl]; omega, rfl, ⟨_, _, _, ⟨(by repeat (first | exact hs_eq _ _ _ | refine hs_ne (by omega) ?_ | assumption)), (by repeat (first | exact hs_eq _ _ _ | refine hs_ne (by omega) ?_ | assumption)), (by repeat (first | exact hs_eq _ _ _ | refine hs_ne (by omega) ?_ | assumption)), (by repeat (first | exact hs_eq _ _ _ | refine hs_ne (by omega) ?_ | assumption)), (by repeat (first | exact hs_eq _ _ _ | refine hs_ne (by omega) ?_ | assumption)), (by repeat (first | exact hs_eq _ _ _ | refine hs_ne (by omega) ?_ | assumption))⟩⟩, Fr.tr hFa (fun aaa haa => by repeat (first | rfl | refine hs_ne (by omega) ?_))⟩))
                      · try (exfalso; omega)
                        all_goals (
                          refine k_aload_n C dX8_load_105 rfl ?_
                          refine k_aload_n C dX8_load_106 rfl ?_
                          refine k_get C (k := 7) inX8 (ci := 8) rfl (by decide) fl_X8_22 dX8_load_107 (by repeat (first | exact hs_eq _ _ _ | refine hs_ne (by omega) ?_ | assumption)) rfl ?_
                          refine k_iconst C dX8_load_110 ?_
                          refine k_iload_n C dX8_load_111 rfl ?_
                          refine k_imul C dX8_load_112 ?_
                          refine k_iaload C dX8_load_113 (by repeat (first | exact hs_eq _ _ _ | refine hs_ne (by omega) ?_ | assumption)) (by omega) (by omega) (by omega) ?_
                          refine k_aload_n C dX8_load_114 rfl ?_
                          refine k_get C (k := 7) inX8 (ci := 8) rfl (by decide) fl_X8_22 dX8_load_115 (by repeat (first | exact hs_eq _ _ _ | refine hs_ne (by omega) ?_ | assumption)) rfl ?_
                          refine k_iconst C dX8_load_118 ?_
                          refine k_iload_n C dX8_load_119 rfl ?_
                          refine k_imul C dX8_load_120 ?_
                          refine k_iconst C dX8_load_121 ?_
                          refine k_iadd C dX8_load_122 ?_
                          refine k_iaload C dX8_load_123 (by repeat (first | exact hs_eq _ _ _ | refine hs_ne (by omega) ?_ | assumption)) (by omega) (by omega) (by omega) ?_
                          refine k_aload_n C dX8_load_124 rfl ?_
                          refine k_get C (k := 7) inX8 (ci := 8) rfl (by decide) fl_X8_22 dX8_load_125 (by repeat (first | exact hs_eq _ _ _ | refine hs_ne (by omega) ?_ | assumption)) rfl ?_
                          refine k_iconst C dX8_load_128 ?_
                          refine k_iload_n C dX8_load_129 rfl ?_
                          refine k_imul C dX8_load_130 ?_
                          refine k_iconst C dX8_load_131 ?_
                          refine k_iadd C dX8_load_132 ?_
                          refine k_iaload C dX8_load_133 (by repeat (first | exact hs_eq _ _ _ | refine hs_ne (by omega) ?_ | assumption)) (by omega) (by omega) (by omega) ?_
                          refine k_callV C (n := 3) (as := [_, _, _]) (ct_X8_comes l D tc base oo (zLd zrr (pS htx hro nn).2.2 kk) _ _ _ _ _ _ _ _ _ _ _ hMk _ _ _ ⟨by omega, by omega⟩) ml_X8_115 im_X8_comes se_X8_comes ini_X8 co_X8_comes ⟨rfl, by decide, by decide, by decide +kernel⟩ rfl (ci := 8) rfl (by repeat (first | exact hs_eq _ _ _ | refine hs_ne (by omega) ?_ | assumption)) ⟨by decide, by decide⟩ rfl (Nat.le_of_ble_eq_true rfl) ⟨Nat.zero_le _, Nat.zero_le _⟩ dX8_load_134 ?_
                          rintro _ hcc ⟨rfl, hM2, hF2⟩
                          refine k_iinc C dX8_load_137 rfl (by decide) rfl ?_
                          refine k_goto (tgt := 97) C dX8_load_140 (by decide) ?_
                          have e2 : ((kk + 1 : Nat) : Int) = (kk : Int) + 1 := by omega
                          have q1 := ih (kk + 1) _ (by omega) hM2 (hFk.tr hF2) (by omega)
                          rw [e2] at q1
                          exact q1)
                  exact loop97 ((pS htx hro nn).1 + 2).toNat 0 _ (by omega) ⟨(by repeat (first | exact hs_eq _ _ _ | refine hs_ne (by omega) ?_ | assumption)), (by repeat (first | exact hs_eq _ _ _ | refine hs_ne (by omega) ?_ | assumption)), (by repeat (first | exact hs_eq _ _ _ | refine hs_ne (by omega) ?_ | assumption)), (by repeat (first | exact hs_eq _ _ _ | refine hs_ne (by omega) ?_ | assumption)), (by repeat (first | exact hs_eq _ _ _ | refine hs_ne (by omega) ?_ | assumption)), (by repeat (first | exact hs_eq _ _ _ | refine hs_ne (by omega) ?_ | assumption))⟩ (Fr.tr (Fr.tr (Fr.tr hFa (fun aaa haa => by repeat (first | rfl | refine hs_ne (by omega) ?_))) hF1) (fun aaa haa => by repeat (first | rfl | refine hs_ne (by omega) ?_))) (by omega))
              · try (exfalso; omega)
                all_goals (
                  refine k_iconst C dX8_load_76 ?_
                  refine k_iret C hr dX8_load_77 ?_
                  first
                    | (have hkk2 : ((pS htx hro nn).1 + 1).toNat = kk := by omega
                       rw [hkl]
                       exact Or.inl ⟨⟨hpf, by omega, by omega⟩, by omega, congrArg (fun qq => some (aI qq)) (by omega), by rw [hkk2]; exact hMk, hFk⟩)
                    | exact Or.inr (Or.inl ⟨fun hpw => by obtain ⟨x1, x2, x3⟩ := hpw; first | omega | (rw [hkl] at x2 x3; omega) | exact hno (by omega) (x1 nn (by omega)), rfl, ⟨_, _, _, ⟨(by repeat (first | exact hs_eq _ _ _ | refine hs_ne (by omega) ?_ | assumption)), (by repeat (first | exact hs_eq _ _ _ | refine hs_ne (by omega) ?_ | assumption)), (by repeat (first | exact hs_eq _ _ _ | refine hs_ne (by omega) ?_ | assumption)), (by repeat (first | exact hs_eq _ _ _ | refine hs_ne (by omega) ?_ | assumption)), (by repeat (first | exact hs_eq _ _ _ | refine hs_ne (by omega) ?_ | assumption)), (by repeat (first | exact hs_eq _ _ _ | refine hs_ne (by omega) ?_ | assumption))⟩⟩, Fr.tr hFa (fun aaa haa => by repeat (first | rfl | refine hs_ne (by omega) ?_))⟩)
                    | exact Or.inr (Or.inr ⟨⟨hkl ▸ hpf, by rw [hkl]; omega, by rw [hkl]; omega⟩, by rw [hkl]; omega, rfl, ⟨_, _, _, ⟨(by repeat (first | exact hs_eq _ _ _ | refine hs_ne (by omega) ?_ | assumption)), (by repeat (first | exact hs_eq _ _ _ | refine hs_ne (by omega) ?_ | assumption)), (by repeat (first | exact hs_eq _ _ _ | refine hs_ne (by omega) ?_ | assumption)), (by repeat (first | exact hs_eq _ _ _ | refine hs_ne (by omega) ?_ | assumption)), (by repeat (first | exact hs_eq _ _ _ | refine hs_ne (by omega) ?_ | assumption)), (by repeat (first | exact hs_eq _ _ _ | refine hs_ne (by omega) ?_ | assumption))⟩⟩, Fr.tr hFa (fun aaa haa => by repeat (first | rfl | refine hs_ne (by omega) ?_))⟩))))
      · try (exfalso; omega)
        all_goals (
          refine k_iconst C dX8_load_46 ?_
          refine k_goto (tgt := 66) C dX8_load_47 (by decide) ?_
          refine k_put C (k := 5) inX8 tyX8_ok nmX8 (ci := 8) rfl (by decide) fl_X8_25 rfl (Nat.le_of_ble_eq_true rfl) dX8_load_66 (by repeat (first | exact hs_eq _ _ _ | refine hs_ne (by omega) ?_ | assumption)) ?_
          refine k_aload_n C dX8_load_69 rfl ?_
          refine k_get C (k := 5) inX8 (ci := 8) rfl (by decide) fl_X8_25 dX8_load_70 (by repeat (first | exact hs_eq _ _ _ | refine hs_ne (by omega) ?_ | assumption)) rfl ?_
          refine k_if_le (tgt := 78) C dX8_load_73 (by decide) ⟨by omega, by omega⟩ (fun c73 => ?_) (fun c73 => ?_)
          · try (exfalso; omega)
            all_goals (
              refine k_aload_n C dX8_load_78 rfl ?_
              refine k_callV C (n := 0) (as := []) (ct_X8_save l D tc base oo zrr hhi htx has (pS htx hro nn).2.2 st ln 0 (pS htx hro nn).1 (pS htx hro nn).2.1 hsh _ ⟨(by repeat (first | exact hs_eq _ _ _ | refine hs_ne (by omega) ?_ | assumption)), (by repeat (first | exact hs_eq _ _ _ | refine hs_ne (by omega) ?_ | assumption)), (by repeat (first | exact hs_eq _ _ _ | refine hs_ne (by omega) ?_ | assumption)), (by repeat (first | exact hs_eq _ _ _ | refine hs_ne (by omega) ?_ | assumption)), (by repeat (first | exact hs_eq _ _ _ | refine hs_ne (by omega) ?_ | assumption)), (by repeat (first | exact hs_eq _ _ _ | refine hs_ne (by omega) ?_ | assumption))⟩ hst) ml_X8_102 im_X8_save se_X8_save ini_X8 co_X8_save ⟨rfl, by decide, by decide, by decide +kernel⟩ rfl (ci := 8) rfl (by repeat (first | exact hs_eq _ _ _ | refine hs_ne (by omega) ?_ | assumption)) ⟨by decide, by decide⟩ rfl (Nat.le_of_ble_eq_true rfl) ⟨Nat.zero_le _, Nat.zero_le _⟩ dX8_load_79 ?_
              rintro _ hsv ⟨rfl, hM1, hF1⟩
              obtain ⟨k0, k1, k2, k3, k4, k5⟩ := id hM1
              refine k_aload_n C dX8_load_82 rfl ?_
              refine k_iconst C dX8_load_83 ?_
              refine k_put C (k := 3) inX8 tyX8_ok nmX8 (ci := 8) rfl (by decide) fl_X8_126 rfl (Nat.le_of_ble_eq_true rfl) dX8_load_84 (by repeat (first | exact hs_eq _ _ _ | refine hs_ne (by omega) ?_ | assumption)) ?_
              refine k_aload_n C dX8_load_87 rfl ?_
              refine k_get C (k := 0) inX8 (ci := 8) rfl (by decide) fl_X8_7 dX8_load_88 (by repeat (first | exact hs_eq _ _ _ | refine hs_ne (by omega) ?_ | assumption)) rfl ?_
              refine k_bipush C dX8_load_91 (by decide +kernel) ?_
              refine k_iconst C dX8_load_93 ?_
              refine k_iastore C dX8_load_94 (by repeat (first | exact hs_eq _ _ _ | refine hs_ne (by omega) ?_ | assumption)) (by omega) (by omega) (by omega) ?_
              refine k_iconst C dX8_load_95 ?_
              refine k_istore_n C dX8_load_96 (by decide) rfl ?_
              have loop97 : ∀ (n : Nat) (kk : Nat) (hkk : AH), (kk : Int) ≤ (pS htx hro nn).1 + 1 → MA hkk oo (zLd zrr (pS htx hro nn).2.2 kk) (sHi zrr hhi st) htx has (pS htx hro nn).2.2 (sSt st) 0 0 (pS htx hro nn).1 (pS htx hro nn).2.1 hsh → Fr hpp hkk oo 6 → (pS htx hro nn).1 + 1 - kk < (n : Int) → Wk D tc base 3 p l e (lvR 6) s m args below meth c 0 0 (MQ below (Qx D tc base (fun r h' => (pWhole htx hro ln.toNat ∧ (pS htx hro ln.toNat).1 + 1 ≤ 6 ∧ r = some (aI ((pS htx hro ln.toNat).1 + 1)) ∧ MA h' oo (zLd zrr (pS htx hro ln.toNat).2.2 ((pS htx hro ln.toNat).1 + 1).toNat) (sHi zrr hhi st) htx has (pS htx hro ln.toNat).2.2 (sSt st) 0 0 (pS htx hro ln.toNat).1 (pS htx hro ln.toNat).2.1 hsh ∧ Fr hpp h' oo 6) ∨ (¬ pWhole htx hro ln.toNat ∧ r = some (aI 0) ∧ (∃ (rex dux : Int) (hrx : Int → Int), MA h' oo zrr hhi htx has hrx st ln 1 rex dux hsh) ∧ Fr hpp h' oo 6) ∨ (pWhole htx hro ln.toNat ∧ ¬ (pS htx hro ln.toNat).1 + 1 ≤ 6 ∧ r = some (aI 0) ∧ (∃ (rex dux : Int) (hrx : Int → Int), MA h' oo zrr hhi htx has hrx st ln 2 rex dux hsh) ∧ Fr hpp h' oo 6))) args s 0 0 (fun q => base ≤ q)) 97 [some (aR oo), some (aI 1), some (aI kk)] [] hkk := by
                intro n
                induction n with
                | zero =>
                  intro kk hkk hk hMk hFk hmu
                  exfalso
                  omega
                | succ n ih =>
                  intro kk hkk hk hMk hFk hmu
                  have hz21 := zLd_21 (z := zrr) (ro := (pS htx hro nn).2.2) (k := kk)
                  obtain ⟨y0, y1, y2, y3, y4, y5⟩ := id hMk
                  refine k_iload_n C dX8_load_97 rfl ?_
                  refine k_aload_n C dX8_load_98 rfl ?_
                  refine k_get C (k := 8) inX8 (ci := 8) rfl (by decide) fl_X8_129 dX8_load_99 (by repeat (first | exact hs_eq _ _ _ | refine hs_ne (by omega) ?_ | assumption)) rfl ?_
                  refine k_icmp_gt (tgt := 143) C dX8_load_102 (by decide) ⟨by omega, by omega⟩ ⟨by omega, by omega⟩ (fun c102 => ?_) (fun c102 => ?_)
                  · try (exfalso; omega)
                    all_goals (
                      refine k_aload_n C dX8_load_143 rfl ?_
                      refine k_get C (k := 0) inX8 (ci := 8) rfl (by decide) fl_X8_7 dX8_load_144 (by repeat (first | exact hs_eq _ _ _ | refine hs_ne (by omega) ?_ | assumption)) rfl ?_
                      refine k_bipush C dX8_load_147 (by decide +kernel) ?_
                      refine k_iaload C dX8_load_149 (by repeat (first | exact hs_eq _ _ _ | refine hs_ne (by omega) ?_ | assumption)) (by omega) (by omega) (by omega) ?_
                      refine k_iret C hr dX8_load_150 ?_
                      first
                        | (have hkk2 : ((pS htx hro nn).1 + 1).toNat = kk := by omega
                           rw [hkl]
                           exact Or.inl ⟨⟨hpf, by omega, by omega⟩, by omega, congrArg (fun qq => some (aI qq)) (by omega), by rw [hkk2]; exact hMk, hFk⟩)
                        | exact Or.inr (Or.inl ⟨fun hpw => by obtain ⟨x1, x2, x3⟩ := hpw; first | omega | (rw [hkl] at x2 x3; omega) | exact hno (by omega) (x1 nn (by omega)), rfl, ⟨_, _, _, ⟨(by repeat (first | exact hs_eq _ _ _ | refine hs_ne (by omega) ?_ | assumption)), (by repeat (first | exact hs_eq _ _ _ | refine hs_ne (by omega) ?_ | assumption)), (by repeat (first | exact hs_eq _ _ _ | refine hs_ne (by omega) ?_ | assumption)), (by repeat (first | exact hs_eq _ _ _ | refine hs_ne (by omega) ?_ | assumption)), (by repeat (first | exact hs_eq _ _ _ | refine hs_ne (by omega) ?_ | assumption)), (by repeat (first | exact hs_eq _ _ _ | refine hs_ne (by omega) ?_ | assumption))⟩⟩, Fr.tr hFa (fun aaa haa => by repeat (first | rfl | refine hs_ne (by omega) ?_))⟩)
                        | exact Or.inr (Or.inr ⟨⟨hkl ▸ hpf, by rw [hkl]; omega, by rw [hkl]; omega⟩, by rw [hkl]; omega, rfl, ⟨_, _, _, ⟨(by repeat (first | exact hs_eq _ _ _ | refine hs_ne (by omega) ?_ | assumption)), (by repeat (first | exact hs_eq _ _ _ | refine hs_ne (by omega) ?_ | assumption)), (by repeat (first | exact hs_eq _ _ _ | refine hs_ne (by omega) ?_ | assumption)), (by repeat (first | exact hs_eq _ _ _ | refine hs_ne (by omega) ?_ | assumption)), (by repeat (first | exact hs_eq _ _ _ | refine hs_ne (by omega) ?_ | assumption)), (by repeat (first | exact hs_eq _ _ _ | refine hs_ne (by omega) ?_ | assumption))⟩⟩, Fr.tr hFa (fun aaa haa => by repeat (first | rfl | refine hs_ne (by omega) ?_))⟩))
                  · try (exfalso; omega)
                    all_goals (
                      refine k_aload_n C dX8_load_105 rfl ?_
                      refine k_aload_n C dX8_load_106 rfl ?_
                      refine k_get C (k := 7) inX8 (ci := 8) rfl (by decide) fl_X8_22 dX8_load_107 (by repeat (first | exact hs_eq _ _ _ | refine hs_ne (by omega) ?_ | assumption)) rfl ?_
                      refine k_iconst C dX8_load_110 ?_
                      refine k_iload_n C dX8_load_111 rfl ?_
                      refine k_imul C dX8_load_112 ?_
                      refine k_iaload C dX8_load_113 (by repeat (first | exact hs_eq _ _ _ | refine hs_ne (by omega) ?_ | assumption)) (by omega) (by omega) (by omega) ?_
                      refine k_aload_n C dX8_load_114 rfl ?_
                      refine k_get C (k := 7) inX8 (ci := 8) rfl (by decide) fl_X8_22 dX8_load_115 (by repeat (first | exact hs_eq _ _ _ | refine hs_ne (by omega) ?_ | assumption)) rfl ?_
                      refine k_iconst C dX8_load_118 ?_
                      refine k_iload_n C dX8_load_119 rfl ?_
                      refine k_imul C dX8_load_120 ?_
                      refine k_iconst C dX8_load_121 ?_
                      refine k_iadd C dX8_load_122 ?_
                      refine k_iaload C dX8_load_123 (by repeat (first | exact hs_eq _ _ _ | refine hs_ne (by omega) ?_ | assumption)) (by omega) (by omega) (by omega) ?_
                      refine k_aload_n C dX8_load_124 rfl ?_
                      refine k_get C (k := 7) inX8 (ci := 8) rfl (by decide) fl_X8_22 dX8_load_125 (by repeat (first | exact hs_eq _ _ _ | refine hs_ne (by omega) ?_ | assumption)) rfl ?_
                      refine k_iconst C dX8_load_128 ?_
                      refine k_iload_n C dX8_load_129 rfl ?_
                      refine k_imul C dX8_load_130 ?_
                      refine k_iconst C dX8_load_131 ?_
                      refine k_iadd C dX8_load_132 ?_
                      refine k_iaload C dX8_load_133 (by repeat (first | exact hs_eq _ _ _ | refine hs_ne (by omega) ?_ | assumption)) (by omega) (by omega) (by omega) ?_
                      refine k_callV C (n := 3) (as := [_, _, _]) (ct_X8_comes l D tc base oo (zLd zrr (pS htx hro nn).2.2 kk) _ _ _ _ _ _ _ _ _ _ _ hMk _ _ _ ⟨by omega, by omega⟩) ml_X8_115 im_X8_comes se_X8_comes ini_X8 co_X8_comes ⟨rfl, by decide, by decide, by decide +kernel⟩ rfl (ci := 8) rfl (by repeat (first | exact hs_eq _ _ _ | refine hs_ne (by omega) ?_ | assumption)) ⟨by decide, by decide⟩ rfl (Nat.le_of_ble_eq_true rfl) ⟨Nat.zero_le _, Nat.zero_le _⟩ dX8_load_134 ?_
                      rintro _ hcc ⟨rfl, hM2, hF2⟩
                      refine k_iinc C dX8_load_137 rfl (by decide) rfl ?_
                      refine k_goto (tgt := 97) C dX8_load_140 (by decide) ?_
                      have e2 : ((kk + 1 : Nat) : Int) = (kk : Int) + 1 := by omega
                      have q1 := ih (kk + 1) _ (by omega) hM2 (hFk.tr hF2) (by omega)
                      rw [e2] at q1
                      exact q1)
              exact loop97 ((pS htx hro nn).1 + 2).toNat 0 _ (by omega) ⟨(by repeat (first | exact hs_eq _ _ _ | refine hs_ne (by omega) ?_ | assumption)), (by repeat (first | exact hs_eq _ _ _ | refine hs_ne (by omega) ?_ | assumption)), (by repeat (first | exact hs_eq _ _ _ | refine hs_ne (by omega) ?_ | assumption)), (by repeat (first | exact hs_eq _ _ _ | refine hs_ne (by omega) ?_ | assumption)), (by repeat (first | exact hs_eq _ _ _ | refine hs_ne (by omega) ?_ | assumption)), (by repeat (first | exact hs_eq _ _ _ | refine hs_ne (by omega) ?_ | assumption))⟩ (Fr.tr (Fr.tr (Fr.tr hFa (fun aaa haa => by repeat (first | rfl | refine hs_ne (by omega) ?_))) hF1) (fun aaa haa => by repeat (first | rfl | refine hs_ne (by omega) ?_))) (by omega))
          · try (exfalso; omega)
            all_goals (
              refine k_iconst C dX8_load_76 ?_
              refine k_iret C hr dX8_load_77 ?_
              first
                | (have hkk2 : ((pS htx hro nn).1 + 1).toNat = kk := by omega
                   rw [hkl]
                   exact Or.inl ⟨⟨hpf, by omega, by omega⟩, by omega, congrArg (fun qq => some (aI qq)) (by omega), by rw [hkk2]; exact hMk, hFk⟩)
                | exact Or.inr (Or.inl ⟨fun hpw => by obtain ⟨x1, x2, x3⟩ := hpw; first | omega | (rw [hkl] at x2 x3; omega) | exact hno (by omega) (x1 nn (by omega)), rfl, ⟨_, _, _, ⟨(by repeat (first | exact hs_eq _ _ _ | refine hs_ne (by omega) ?_ | assumption)), (by repeat (first | exact hs_eq _ _ _ | refine hs_ne (by omega) ?_ | assumption)), (by repeat (first | exact hs_eq _ _ _ | refine hs_ne (by omega) ?_ | assumption)), (by repeat (first | exact hs_eq _ _ _ | refine hs_ne (by omega) ?_ | assumption)), (by repeat (first | exact hs_eq _ _ _ | refine hs_ne (by omega) ?_ | assumption)), (by repeat (first | exact hs_eq _ _ _ | refine hs_ne (by omega) ?_ | assumption))⟩⟩, Fr.tr hFa (fun aaa haa => by repeat (first | rfl | refine hs_ne (by omega) ?_))⟩)
                | exact Or.inr (Or.inr ⟨⟨hkl ▸ hpf, by rw [hkl]; omega, by rw [hkl]; omega⟩, by rw [hkl]; omega, rfl, ⟨_, _, _, ⟨(by repeat (first | exact hs_eq _ _ _ | refine hs_ne (by omega) ?_ | assumption)), (by repeat (first | exact hs_eq _ _ _ | refine hs_ne (by omega) ?_ | assumption)), (by repeat (first | exact hs_eq _ _ _ | refine hs_ne (by omega) ?_ | assumption)), (by repeat (first | exact hs_eq _ _ _ | refine hs_ne (by omega) ?_ | assumption)), (by repeat (first | exact hs_eq _ _ _ | refine hs_ne (by omega) ?_ | assumption)), (by repeat (first | exact hs_eq _ _ _ | refine hs_ne (by omega) ?_ | assumption))⟩⟩, Fr.tr hFa (fun aaa haa => by repeat (first | rfl | refine hs_ne (by omega) ?_))⟩))))
  · try (exfalso; omega)
    all_goals (
      have hkl : ln.toNat = nn := by omega
      obtain ⟨rfl, rfl, rfl⟩ := hnr (by omega)
      have hp1 := hpi.1
      have hp2 := hpi.2.1
      refine k_aload_n C dX8_load_11 rfl ?_
      refine k_get C (k := 9) inX8 (ci := 8) rfl (by decide) fl_X8_132 dX8_load_12 (by repeat (first | exact hs_eq _ _ _ | refine hs_ne (by omega) ?_ | assumption)) rfl ?_
      refine k_iconst C dX8_load_15 ?_
      refine k_icmp_ne (tgt := 39) C dX8_load_16 (by decide) ⟨by omega, by omega⟩ ⟨by omega, by omega⟩ (fun c16 => ?_) (fun c16 => ?_)
      · try (exfalso; omega)
        all_goals (
          refine k_iconst C dX8_load_39 ?_
          refine k_istore_n C dX8_load_40 (by decide) rfl ?_
          refine k_aload_n C dX8_load_41 rfl ?_
          refine k_iload_n C dX8_load_42 rfl ?_
          refine k_if_ne (tgt := 50) C dX8_load_43 (by decide) ⟨by omega, by omega⟩ (fun c43 => ?_) (fun c43 => ?_)
          · try (exfalso; omega)
            all_goals (
              refine k_aload_n C dX8_load_50 rfl ?_
              refine k_get C (k := 8) inX8 (ci := 8) rfl (by decide) fl_X8_129 dX8_load_51 (by repeat (first | exact hs_eq _ _ _ | refine hs_ne (by omega) ?_ | assumption)) rfl ?_
              refine k_iconst C dX8_load_54 ?_
              refine k_iadd C dX8_load_55 ?_
              refine k_bipush C dX8_load_56 (by decide +kernel) ?_
              refine k_icmp_le (tgt := 65) C dX8_load_58 (by decide) ⟨by omega, by omega⟩ ⟨by omega, by omega⟩ (fun c58 => ?_) (fun c58 => ?_)
              · try (exfalso; omega)
                all_goals (
                  refine k_iconst C dX8_load_65 ?_
                  refine k_put C (k := 5) inX8 tyX8_ok nmX8 (ci := 8) rfl (by decide) fl_X8_25 rfl (Nat.le_of_ble_eq_true rfl) dX8_load_66 (by repeat (first | exact hs_eq _ _ _ | refine hs_ne (by omega) ?_ | assumption)) ?_
                  refine k_aload_n C dX8_load_69 rfl ?_
                  refine k_get C (k := 5) inX8 (ci := 8) rfl (by decide) fl_X8_25 dX8_load_70 (by repeat (first | exact hs_eq _ _ _ | refine hs_ne (by omega) ?_ | assumption)) rfl ?_
                  refine k_if_le (tgt := 78) C dX8_load_73 (by decide) ⟨by omega, by omega⟩ (fun c73 => ?_) (fun c73 => ?_)
                  · try (exfalso; omega)
                    all_goals (
                      refine k_aload_n C dX8_load_78 rfl ?_
                      refine k_callV C (n := 0) (as := []) (ct_X8_save l D tc base oo zrr hhi htx has (pS htx hro nn).2.2 st ln 0 (pS htx hro nn).1 (pS htx hro nn).2.1 hsh _ ⟨(by repeat (first | exact hs_eq _ _ _ | refine hs_ne (by omega) ?_ | assumption)), (by repeat (first | exact hs_eq _ _ _ | refine hs_ne (by omega) ?_ | assumption)), (by repeat (first | exact hs_eq _ _ _ | refine hs_ne (by omega) ?_ | assumption)), (by repeat (first | exact hs_eq _ _ _ | refine hs_ne (by omega) ?_ | assumption)), (by repeat (first | exact hs_eq _ _ _ | refine hs_ne (by omega) ?_ | assumption)), (by repeat (first | exact hs_eq _ _ _ | refine hs_ne (by omega) ?_ | assumption))⟩ hst) ml_X8_102 im_X8_save se_X8_save ini_X8 co_X8_save ⟨rfl, by decide, by decide, by decide +kernel⟩ rfl (ci := 8) rfl (by repeat (first | exact hs_eq _ _ _ | refine hs_ne (by omega) ?_ | assumption)) ⟨by decide, by decide⟩ rfl (Nat.le_of_ble_eq_true rfl) ⟨Nat.zero_le _, Nat.zero_le _⟩ dX8_load_79 ?_
                      rintro _ hsv ⟨rfl, hM1, hF1⟩
                      obtain ⟨k0, k1, k2, k3, k4, k5⟩ := id hM1
                      refine k_aload_n C dX8_load_82 rfl ?_
                      refine k_iconst C dX8_load_83 ?_
                      refine k_put C (k := 3) inX8 tyX8_ok nmX8 (ci := 8) rfl (by decide) fl_X8_126 rfl (Nat.le_of_ble_eq_true rfl) dX8_load_84 (by repeat (first | exact hs_eq _ _ _ | refine hs_ne (by omega) ?_ | assumption)) ?_
                      refine k_aload_n C dX8_load_87 rfl ?_
                      refine k_get C (k := 0) inX8 (ci := 8) rfl (by decide) fl_X8_7 dX8_load_88 (by repeat (first | exact hs_eq _ _ _ | refine hs_ne (by omega) ?_ | assumption)) rfl ?_
                      refine k_bipush C dX8_load_91 (by decide +kernel) ?_
                      refine k_iconst C dX8_load_93 ?_
                      refine k_iastore C dX8_load_94 (by repeat (first | exact hs_eq _ _ _ | refine hs_ne (by omega) ?_ | assumption)) (by omega) (by omega) (by omega) ?_
                      refine k_iconst C dX8_load_95 ?_
                      refine k_istore_n C dX8_load_96 (by decide) rfl ?_
                      have loop97 : ∀ (n : Nat) (kk : Nat) (hkk : AH), (kk : Int) ≤ (pS htx hro nn).1 + 1 → MA hkk oo (zLd zrr (pS htx hro nn).2.2 kk) (sHi zrr hhi st) htx has (pS htx hro nn).2.2 (sSt st) 0 0 (pS htx hro nn).1 (pS htx hro nn).2.1 hsh → Fr hpp hkk oo 6 → (pS htx hro nn).1 + 1 - kk < (n : Int) → Wk D tc base 3 p l e (lvR 6) s m args below meth c 0 0 (MQ below (Qx D tc base (fun r h' => (pWhole htx hro ln.toNat ∧ (pS htx hro ln.toNat).1 + 1 ≤ 6 ∧ r = some (aI ((pS htx hro ln.toNat).1 + 1)) ∧ MA h' oo (zLd zrr (pS htx hro ln.toNat).2.2 ((pS htx hro ln.toNat).1 + 1).toNat) (sHi zrr hhi st) htx has (pS htx hro ln.toNat).2.2 (sSt st) 0 0 (pS htx hro ln.toNat).1 (pS htx hro ln.toNat).2.1 hsh ∧ Fr hpp h' oo 6) ∨ (¬ pWhole htx hro ln.toNat ∧ r = some (aI 0) ∧ (∃ (rex dux : Int) (hrx : Int → Int), MA h' oo zrr hhi htx has hrx st ln 1 rex dux hsh) ∧ Fr hpp h' oo 6) ∨ (pWhole htx hro ln.toNat ∧ ¬ (pS htx hro ln.toNat).1 + 1 ≤ 6 ∧ r = some (aI 0) ∧ (∃ (rex dux : Int) (hrx : Int → Int), MA h' oo zrr hhi htx has hrx st ln 2 rex dux hsh) ∧ Fr hpp h' oo 6))) args s 0 0 (fun q => base ≤ q)) 97 [some (aR oo), some (aI 1), some (aI kk)] [] hkk := by
                        intro n
                        induction n with
                        | zero =>
                          intro kk hkk hk hMk hFk hmu
                          exfalso
                          omega
                        | succ n ih =>
                          intro kk hkk hk hMk hFk hmu
                          have hz21 := zLd_21 (z := zrr) (ro := (pS htx hro nn).2.2) (k := kk)
                          obtain ⟨y0, y1, y2, y3, y4, y5⟩ := id hMk
                          refine k_iload_n C dX8_load_97 rfl ?_
                          refine k_aload_n C dX8_load_98 rfl ?_
                          refine k_get C (k := 8) inX8 (ci := 8) rfl (by decide) fl_X8_129 dX8_load_99 (by repeat (first | exact hs_eq _ _ _ | refine hs_ne (by omega) ?_ | assumption)) rfl ?_
                          refine k_icmp_gt (tgt := 143) C dX8_load_102 (by decide) ⟨by omega, by omega⟩ ⟨by omega, by omega⟩ (fun c102 => ?_) (fun c102 => ?_)
                          · try (exfalso; omega)
                            all_goals (
                              refine k_aload_n C dX8_load_143 rfl ?_
                              refine k_get C (k := 0) inX8 (ci := 8) rfl (by decide) fl_X8_7 dX8_load_144 (by repeat (first | exact hs_eq _ _ _ | refine hs_ne (by omega) ?_ | assumption)) rfl ?_
                              refine k_bipush C dX8_load_147 (by decide +kernel) ?_
                              refine k_iaload C dX8_load_149 (by repeat (first | exact hs_eq _ _ _ | refine hs_ne (by omega) ?_ | assumption)) (by omega) (by omega) (by omega) ?_
                              refine k_iret C hr dX8_load_150 ?_
                              first
                                | (have hkk2 : ((pS htx hro nn).1 + 1).toNat = kk := by omega
                                   rw [hkl]
                                   exact Or.inl ⟨⟨hpf, by omega, by omega⟩, by omega, congrArg (fun qq => some (aI qq)) (by omega), by rw [hkk2]; exact hMk, hFk⟩)
                                | exact Or.inr (Or.inl ⟨fun hpw => by obtain ⟨x1, x2, x3⟩ := hpw; first | omega | (rw [hkl] at x2 x3; omega) | exact hno (by omega) (x1 nn (by omega)), rfl, ⟨_, _, _, ⟨(by repeat (first | exact hs_eq _ _ _ | refine hs_ne (by omega) ?_ | assumption)), (by repeat (first | exact hs_eq _ _ _ | refine hs_ne (by omega) ?_ | assumption)), (by repeat (first | exact hs_eq _ _ _ | refine hs_ne (by omega) ?_ | assumption)), (by repeat (first | exact hs_eq _ _ _ | refine hs_ne (by omega) ?_ | assumption)), (by repeat (first | exact hs_eq _ _ _ | refine hs_ne (by omega) ?_ | assumption)), (by repeat (first | exact hs_eq _ _ _ | refine hs_ne (by omega) ?_ | assumption))⟩⟩, Fr.tr hFa (fun aaa haa => by repeat (first | rfl | refine hs_ne (by omega) ?_))⟩)
                                | exact Or.inr (Or.inr ⟨⟨hkl ▸ hpf, by rw [hkl]; omega, by rw [hkl]; omega⟩, by rw [hkl]; omega, rfl, ⟨_, _, _, ⟨(by repeat (first | exact hs_eq _ _ _ | refine hs_ne (by omega) ?_ | assumption)), (by repeat (first | exact hs_eq _ _ _ | refine hs_ne (by omega) ?_ | assumption)), (by repeat (first | exact hs_eq _ _ _ | refine hs_ne (by omega) ?_ | assumption)), (by repeat (first | exact hs_eq _ _ _ | refine hs_ne (by omega) ?_ | assumption)), (by repeat (first | exact hs_eq _ _ _ | refine hs_ne (by omega) ?_ | assumption)), (by repeat (first | exact hs_eq _ _ _ | refine hs_ne (by omega) ?_ | assumption))⟩⟩, Fr.tr hFa (fun aaa haa => by repeat (first | rfl | refine hs_ne (by omega) ?_))⟩))
                          · try (exfalso; omega)
                            all_goals (
                              refine k_aload_n C dX8_load_105 rfl ?_
                              refine k_aload_n C dX8_load_106 rfl ?_
                              refine k_get C (k := 7) inX8 (ci := 8) rfl (by decide) fl_X8_22 dX8_load_107 (by repeat (first | exact hs_eq _ _ _ | refine hs_ne (by omega) ?_ | assumption)) rfl ?_
                              refine k_iconst C dX8_load_110 ?_
                              refine k_iload_n C dX8_load_111 rfl ?_
                              refine k_imul C dX8_load_112 ?_
                              refine k_iaload C dX8_load_113 (by repeat (first | exact hs_eq _ _ _ | refine hs_ne (by omega) ?_ | assumption)) (by omega) (by omega) (by omega) ?_
                              refine k_aload_n C dX8_load_114 rfl ?_
                              refine k_get C (k := 7) inX8 (ci := 8) rfl (by decide) fl_X8_22 dX8_load_115 (by repeat (first | exact hs_eq _ _ _ | refine hs_ne (by omega) ?_ | assumption)) rfl ?_
                              refine k_iconst C dX8_load_118 ?_
                              refine k_iload_n C dX8_load_119 rfl ?_
                              refine k_imul C dX8_load_120 ?_
                              refine k_iconst C dX8_load_121 ?_
                              refine k_iadd C dX8_load_122 ?_
                              refine k_iaload C dX8_load_123 (by repeat (first | exact hs_eq _ _ _ | refine hs_ne (by omega) ?_ | assumption)) (by omega) (by omega) (by omega) ?_
                              refine k_aload_n C dX8_load_124 rfl ?_
                              refine k_get C (k := 7) inX8 (ci := 8) rfl (by decide) fl_X8_22 dX8_load_125 (by repeat (first | exact hs_eq _ _ _ | refine hs_ne (by omega) ?_ | assumption)) rfl ?_
                              refine k_iconst C dX8_load_128 ?_
                              refine k_iload_n C dX8_load_129 rfl ?_
                              refine k_imul C dX8_load_130 ?_
                              refine k_iconst C dX8_load_131 ?_
                              refine k_iadd C dX8_load_132 ?_
                              refine k_iaload C dX8_load_133 (by repeat (first | exact hs_eq _ _ _ | refine hs_ne (by omega) ?_ | assumption)) (by omega) (by omega) (by omega) ?_
                              refine k_callV C (n := 3) (as := [_, _, _]) (ct_X8_comes l D tc base oo (zLd zrr (pS htx hro nn).2.2 kk) _ _ _ _ _ _ _ _ _ _ _ hMk _ _ _ ⟨by omega, by omega⟩) ml_X8_115 im_X8_comes se_X8_comes ini_X8 co_X8_comes ⟨rfl, by decide, by decide, by decide +kernel⟩ rfl (ci := 8) rfl (by repeat (first | exact hs_eq _ _ _ | refine hs_ne (by omega) ?_ | assumption)) ⟨by decide, by decide⟩ rfl (Nat.le_of_ble_eq_true rfl) ⟨Nat.zero_le _, Nat.zero_le _⟩ dX8_load_134 ?_
                              rintro _ hcc ⟨rfl, hM2, hF2⟩
                              refine k_iinc C dX8_load_137 rfl (by decide) rfl ?_
                              refine k_goto (tgt := 97) C dX8_load_140 (by decide) ?_
                              have e2 : ((kk + 1 : Nat) : Int) = (kk : Int) + 1 := by omega
                              have q1 := ih (kk + 1) _ (by omega) hM2 (hFk.tr hF2) (by omega)
                              rw [e2] at q1
                              exact q1)
                      exact loop97 ((pS htx hro nn).1 + 2).toNat 0 _ (by omega) ⟨(by repeat (first | exact hs_eq _ _ _ | refine hs_ne (by omega) ?_ | assumption)), (by repeat (first | exact hs_eq _ _ _ | refine hs_ne (by omega) ?_ | assumption)), (by repeat (first | exact hs_eq _ _ _ | refine hs_ne (by omega) ?_ | assumption)), (by repeat (first | exact hs_eq _ _ _ | refine hs_ne (by omega) ?_ | assumption)), (by repeat (first | exact hs_eq _ _ _ | refine hs_ne (by omega) ?_ | assumption)), (by repeat (first | exact hs_eq _ _ _ | refine hs_ne (by omega) ?_ | assumption))⟩ (Fr.tr (Fr.tr (Fr.tr hFa (fun aaa haa => by repeat (first | rfl | refine hs_ne (by omega) ?_))) hF1) (fun aaa haa => by repeat (first | rfl | refine hs_ne (by omega) ?_))) (by omega))
                  · try (exfalso; omega)
                    all_goals (
                      refine k_iconst C dX8_load_76 ?_
                      refine k_iret C hr dX8_load_77 ?_
                      first
                        | (have hkk2 : ((pS htx hro nn).1 + 1).toNat = kk := by omega
                           rw [hkl]
                           exact Or.inl ⟨⟨hpf, by omega, by omega⟩, by omega, congrArg (fun qq => some (aI qq)) (by omega), by rw [hkk2]; exact hMk, hFk⟩)
                        | exact Or.inr (Or.inl ⟨fun hpw => by obtain ⟨x1, x2, x3⟩ := hpw; first | omega | (rw [hkl] at x2 x3; omega) | exact hno (by omega) (x1 nn (by omega)), rfl, ⟨_, _, _, ⟨(by repeat (first | exact hs_eq _ _ _ | refine hs_ne (by omega) ?_ | assumption)), (by repeat (first | exact hs_eq _ _ _ | refine hs_ne (by omega) ?_ | assumption)), (by repeat (first | exact hs_eq _ _ _ | refine hs_ne (by omega) ?_ | assumption)), (by repeat (first | exact hs_eq _ _ _ | refine hs_ne (by omega) ?_ | assumption)), (by repeat (first | exact hs_eq _ _ _ | refine hs_ne (by omega) ?_ | assumption)), (by repeat (first | exact hs_eq _ _ _ | refine hs_ne (by omega) ?_ | assumption))⟩⟩, Fr.tr hFa (fun aaa haa => by repeat (first | rfl | refine hs_ne (by omega) ?_))⟩)
                        | exact Or.inr (Or.inr ⟨⟨hkl ▸ hpf, by rw [hkl]; omega, by rw [hkl]; omega⟩, by rw [hkl]; omega, rfl, ⟨_, _, _, ⟨(by repeat (first | exact hs_eq _ _ _ | refine hs_ne (by omega) ?_ | assumption)), (by repeat (first | exact hs_eq _ _ _ | refine hs_ne (by omega) ?_ | assumption)), (by repeat (first | exact hs_eq _ _ _ | refine hs_ne (by omega) ?_ | assumption)), (by repeat (first | exact hs_eq _ _ _ | refine hs_ne (by omega) ?_ | assumption)), (by repeat (first | exact hs_eq _ _ _ | refine hs_ne (by omega) ?_ | assumption)), (by repeat (first | exact hs_eq _ _ _ | refine hs_ne (by omega) ?_ | assumption))⟩⟩, Fr.tr hFa (fun aaa haa => by repeat (first | rfl | refine hs_ne (by omega) ?_))⟩)))
              · try (exfalso; omega)
                all_goals (
                  refine k_iconst C dX8_load_61 ?_
                  refine k_goto (tgt := 66) C dX8_load_62 (by decide) ?_
                  refine k_put C (k := 5) inX8 tyX8_ok nmX8 (ci := 8) rfl (by decide) fl_X8_25 rfl (Nat.le_of_ble_eq_true rfl) dX8_load_66 (by repeat (first | exact hs_eq _ _ _ | refine hs_ne (by omega) ?_ | assumption)) ?_
                  refine k_aload_n C dX8_load_69 rfl ?_
                  refine k_get C (k := 5) inX8 (ci := 8) rfl (by decide) fl_X8_25 dX8_load_70 (by repeat (first | exact hs_eq _ _ _ | refine hs_ne (by omega) ?_ | assumption)) rfl ?_
                  refine k_if_le (tgt := 78) C dX8_load_73 (by decide) ⟨by omega, by omega⟩ (fun c73 => ?_) (fun c73 => ?_)
                  · try (exfalso; omega)
                    all_goals (
                      refine k_aload_n C dX8_load_78 rfl ?_
                      refine k_callV C (n := 0) (as := []) (ct_X8_save l D tc base oo zrr hhi htx has (pS htx hro nn).2.2 st ln 0 (pS htx hro nn).1 (pS htx hro nn).2.1 hsh _ ⟨(by repeat (first | exact hs_eq _ _ _ | refine hs_ne (by omega) ?_ | assumption)), (by repeat (first | exact hs_eq _ _ _ | refine hs_ne (by omega) ?_ | assumption)), (by repeat (first | exact hs_eq _ _ _ | refine hs_ne (by omega) ?_ | assumption)), (by repeat (first | exact hs_eq _ _ _ | refine hs_ne (by omega) ?_ | assumption)), (by repeat (first | exact hs_eq _ _ _ | refine hs_ne (by omega) ?_ | assumption)), (by repeat (first | exact hs_eq _ _ _ | refine hs_ne (by omega) ?_ | assumption))⟩ hst) ml_X8_102 im_X8_save se_X8_save ini_X8 co_X8_save ⟨rfl, by decide, by decide, by decide +kernel⟩ rfl (ci := 8) rfl (by repeat (first | exact hs_eq _ _ _ | refine hs_ne (by omega) ?_ | assumption)) ⟨by decide, by decide⟩ rfl (Nat.le_of_ble_eq_true rfl) ⟨Nat.zero_le _, Nat.zero_le _⟩ dX8_load_79 ?_
                      rintro _ hsv ⟨rfl, hM1, hF1⟩
                      obtain ⟨k0, k1, k2, k3, k4, k5⟩ := id hM1
                      refine k_aload_n C dX8_load_82 rfl ?_
                      refine k_iconst C dX8_load_83 ?_
                      refine k_put C (k := 3) inX8 tyX8_ok nmX8 (ci := 8) rfl (by decide) fl_X8_126 rfl (Nat.le_of_ble_eq_true rfl) dX8_load_84 (by repeat (first | exact hs_eq _ _ _ | refine hs_ne (by omega) ?_ | assumption)) ?_
                      refine k_aload_n C dX8_load_87 rfl ?_
                      refine k_get C (k := 0) inX8 (ci := 8) rfl (by decide) fl_X8_7 dX8_load_88 (by repeat (first | exact hs_eq _ _ _ | refine hs_ne (by omega) ?_ | assumption)) rfl ?_
                      refine k_bipush C dX8_load_91 (by decide +kernel) ?_
                      refine k_iconst C dX8_load_93 ?_
                      refine k_iastore C dX8_load_94 (by repeat (first | exact hs_eq _ _ _ | refine hs_ne (by omega) ?_ | assumption)) (by omega) (by omega) (by omega) ?_
                      refine k_iconst C dX8_load_95 ?_
                      refine k_istore_n C dX8_load_96 (by decide) rfl ?_
                      have loop97 : ∀ (n : Nat) (kk : Nat) (hkk : AH), (kk : Int) ≤ (pS htx hro nn).1 + 1 → MA hkk oo (zLd zrr (pS htx hro nn).2.2 kk) (sHi zrr hhi st) htx has (pS htx hro nn).2.2 (sSt st) 0 0 (pS htx hro nn).1 (pS htx hro nn).2.1 hsh → Fr hpp hkk oo 6 → (pS htx hro nn).1 + 1 - kk < (n : Int) → Wk D tc base 3 p l e (lvR 6) s m args below meth c 0 0 (MQ below (Qx D tc base (fun r h' => (pWhole htx hro ln.toNat ∧ (pS htx hro ln.toNat).1 + 1 ≤ 6 ∧ r = some (aI ((pS htx hro ln.toNat).1 + 1)) ∧ MA h' oo (zLd zrr (pS htx hro ln.toNat).2.2 ((pS htx hro ln.toNat).1 + 1).toNat) (sHi zrr hhi st) htx has (pS htx hro ln.toNat).2.2 (sSt st) 0 0 (pS htx hro ln.toNat).1 (pS htx hro ln.toNat).2.1 hsh ∧ Fr hpp h' oo 6) ∨ (¬ pWhole htx hro ln.toNat ∧ r = some (aI 0) ∧ (∃ (rex dux : Int) (hrx : Int → Int), MA h' oo zrr hhi htx has hrx st ln 1 rex dux hsh) ∧ Fr hpp h' oo 6) ∨ (pWhole htx hro ln.toNat ∧ ¬ (pS htx hro ln.toNat).1 + 1 ≤ 6 ∧ r = some (aI 0) ∧ (∃ (rex dux : Int) (hrx : Int → Int), MA h' oo zrr hhi htx has hrx st ln 2 rex dux hsh) ∧ Fr hpp h' oo 6))) args s 0 0 (fun q => base ≤ q)) 97 [some (aR oo), some (aI 1), some (aI kk)] [] hkk := by
                        intro n
                        induction n with
                        | zero =>
                          intro kk hkk hk hMk hFk hmu
                          exfalso
                          omega
                        | succ n ih =>
                          intro kk hkk hk hMk hFk hmu
                          have hz21 := zLd_21 (z := zrr) (ro := (pS htx hro nn).2.2) (k := kk)
                          obtain ⟨y0, y1, y2, y3, y4, y5⟩ := id hMk
                          refine k_iload_n C dX8_load_97 rfl ?_
                          refine k_aload_n C dX8_load_98 rfl ?_
                          refine k_get C (k := 8) inX8 (ci := 8) rfl (by decide) fl_X8_129 dX8_load_99 (by repeat (first | exact hs_eq _ _ _ | refine hs_ne (by omega) ?_ | assumption)) rfl ?_
                          refine k_icmp_gt (tgt := 143) C dX8_load_102 (by decide) ⟨by omega, by omega⟩ ⟨by omega, by omega⟩ (fun c102 => ?_) (fun c102 => ?_)
                          · try (exfalso; omega)
                            all_goals (
                              refine k_aload_n C dX8_load_143 rfl ?_
                              refine k_get C (k := 0) inX8 (ci := 8) rfl (by decide) fl_X8_7 dX8_load_144 (by repeat (first | exact hs_eq _ _ _ | refine hs_ne (by omega) ?_ | assumption)) rfl ?_
                              refine k_bipush C dX8_load_147 (by decide +kernel) ?_
                              refine k_iaload C dX8_load_149 (by repeat (first | exact hs_eq _ _ _ | refine hs_ne (by omega) ?_ | assumption)) (by omega) (by omega) (by omega) ?_
                              refine k_iret C hr dX8_load_150 ?_
                              first
                                | (have hkk2 : ((pS htx hro nn).1 + 1).toNat = kk := by omega
                                   rw [hkl]
                                   exact Or.inl ⟨⟨hpf, by omega, by omega⟩, by omega, congrArg (fun qq => some (aI qq)) (by omega), by rw [hkk2]; exact hMk, hFk⟩)
                                | exact Or.inr (Or.inl ⟨fun hpw => by obtain ⟨x1, x2, x3⟩ := hpw; first | omega | (rw [hkl] at x2 x3; omega) | exact hno (by omega) (x1 nn (by omega)), rfl, ⟨_, _, _, ⟨(by repeat (first | exact hs_eq _ _ _ | refine hs_ne (by omega) ?_ | assumption)), (by repeat (first | exact hs_eq _ _ _ | refine hs_ne (by omega) ?_ | assumption)), (by repeat (first | exact hs_eq _ _ _ | refine hs_ne (by omega) ?_ | assumption)), (by repeat (first | exact hs_eq _ _ _ | refine hs_ne (by omega) ?_ | assumption)), (by repeat (first | exact hs_eq _ _ _ | refine hs_ne (by omega) ?_ | assumption)), (by repeat (first | exact hs_eq _ _ _ | refine hs_ne (by omega) ?_ | assumption))⟩⟩, Fr.tr hFa (fun aaa haa => by repeat (first | rfl | refine hs_ne (by omega) ?_))⟩)
                                | exact Or.inr (Or.inr ⟨⟨hkl ▸ hpf, by rw [hkl]; omega, by rw [hkl]; omega⟩, by rw [hkl]; omega, rfl, ⟨_, _, _, ⟨(by repeat (first | exact hs_eq _ _ _ | refine hs_ne (by omega) ?_ | assumption)), (by repeat (first | exact hs_eq _ _ _ | refine hs_ne (by omega) ?_ | assumption)), (by repeat (first | exact hs_eq _ _ _ | refine hs_ne (by omega) ?_ | assumption)), (by repeat (first | exact hs_eq _ _ _ | refine hs_ne (by omega) ?_ | assumption)), (by repeat (first | exact hs_eq _ _ _ | refine hs_ne (by omega) ?_ | assumption)), (by repeat (first | exact hs_eq _ _ _ | refine hs_ne (by omega) ?_ | assumption))⟩⟩, Fr.tr hFa (fun aaa haa => by repeat (first | rfl | refine hs_ne (by omega) ?_))⟩))
                          · try (exfalso; omega)
                            all_goals (
                              refine k_aload_n C dX8_load_105 rfl ?_
                              refine k_aload_n C dX8_load_106 rfl ?_
                              refine k_get C (k := 7) inX8 (ci := 8) rfl (by decide) fl_X8_22 dX8_load_107 (by repeat (first | exact hs_eq _ _ _ | refine hs_ne (by omega) ?_ | assumption)) rfl ?_
                              refine k_iconst C dX8_load_110 ?_
                              refine k_iload_n C dX8_load_111 rfl ?_
                              refine k_imul C dX8_load_112 ?_
                              refine k_iaload C dX8_load_113 (by repeat (first | exact hs_eq _ _ _ | refine hs_ne (by omega) ?_ | assumption)) (by omega) (by omega) (by omega) ?_
                              refine k_aload_n C dX8_load_114 rfl ?_
                              refine k_get C (k := 7) inX8 (ci := 8) rfl (by decide) fl_X8_22 dX8_load_115 (by repeat (first | exact hs_eq _ _ _ | refine hs_ne (by omega) ?_ | assumption)) rfl ?_
                              refine k_iconst C dX8_load_118 ?_
                              refine k_iload_n C dX8_load_119 rfl ?_
                              refine k_imul C dX8_load_120 ?_
                              refine k_iconst C dX8_load_121 ?_
                              refine k_iadd C dX8_load_122 ?_
                              refine k_iaload C dX8_load_123 (by repeat (first | exact hs_eq _ _ _ | refine hs_ne (by omega) ?_ | assumption)) (by omega) (by omega) (by omega) ?_
                              refine k_aload_n C dX8_load_124 rfl ?_
                              refine k_get C (k := 7) inX8 (ci := 8) rfl (by decide) fl_X8_22 dX8_load_125 (by repeat (first | exact hs_eq _ _ _ | refine hs_ne (by omega) ?_ | assumption)) rfl ?_
                              refine k_iconst C dX8_load_128 ?_
                              refine k_iload_n C dX8_load_129 rfl ?_
                              refine k_imul C dX8_load_130 ?_
                              refine k_iconst C dX8_load_131 ?_
                              refine k_iadd C dX8_load_132 ?_
                              refine k_iaload C dX8_load_133 (by repeat (first | exact hs_eq _ _ _ | refine hs_ne (by omega) ?_ | assumption)) (by omega) (by omega) (by omega) ?_
                              refine k_callV C (n := 3) (as := [_, _, _]) (ct_X8_comes l D tc base oo (zLd zrr (pS htx hro nn).2.2 kk) _ _ _ _ _ _ _ _ _ _ _ hMk _ _ _ ⟨by omega, by omega⟩) ml_X8_115 im_X8_comes se_X8_comes ini_X8 co_X8_comes ⟨rfl, by decide, by decide, by decide +kernel⟩ rfl (ci := 8) rfl (by repeat (first | exact hs_eq _ _ _ | refine hs_ne (by omega) ?_ | assumption)) ⟨by decide, by decide⟩ rfl (Nat.le_of_ble_eq_true rfl) ⟨Nat.zero_le _, Nat.zero_le _⟩ dX8_load_134 ?_
                              rintro _ hcc ⟨rfl, hM2, hF2⟩
                              refine k_iinc C dX8_load_137 rfl (by decide) rfl ?_
                              refine k_goto (tgt := 97) C dX8_load_140 (by decide) ?_
                              have e2 : ((kk + 1 : Nat) : Int) = (kk : Int) + 1 := by omega
                              have q1 := ih (kk + 1) _ (by omega) hM2 (hFk.tr hF2) (by omega)
                              rw [e2] at q1
                              exact q1)
                      exact loop97 ((pS htx hro nn).1 + 2).toNat 0 _ (by omega) ⟨(by repeat (first | exact hs_eq _ _ _ | refine hs_ne (by omega) ?_ | assumption)), (by repeat (first | exact hs_eq _ _ _ | refine hs_ne (by omega) ?_ | assumption)), (by repeat (first | exact hs_eq _ _ _ | refine hs_ne (by omega) ?_ | assumption)), (by repeat (first | exact hs_eq _ _ _ | refine hs_ne (by omega) ?_ | assumption)), (by repeat (first | exact hs_eq _ _ _ | refine hs_ne (by omega) ?_ | assumption)), (by repeat (first | exact hs_eq _ _ _ | refine hs_ne (by omega) ?_ | assumption))⟩ (Fr.tr (Fr.tr (Fr.tr hFa (fun aaa haa => by repeat (first | rfl | refine hs_ne (by omega) ?_))) hF1) (fun aaa haa => by repeat (first | rfl | refine hs_ne (by omega) ?_))) (by omega))
                  · try (exfalso; omega)
                    all_goals (
                      refine k_iconst C dX8_load_76 ?_
                      refine k_iret C hr dX8_load_77 ?_
                      first
                        | (have hkk2 : ((pS htx hro nn).1 + 1).toNat = kk := by omega
                           rw [hkl]
                           exact Or.inl ⟨⟨hpf, by omega, by omega⟩, by omega, congrArg (fun qq => some (aI qq)) (by omega), by rw [hkk2]; exact hMk, hFk⟩)
                        | exact Or.inr (Or.inl ⟨fun hpw => by obtain ⟨x1, x2, x3⟩ := hpw; first | omega | (rw [hkl] at x2 x3; omega) | exact hno (by omega) (x1 nn (by omega)), rfl, ⟨_, _, _, ⟨(by repeat (first | exact hs_eq _ _ _ | refine hs_ne (by omega) ?_ | assumption)), (by repeat (first | exact hs_eq _ _ _ | refine hs_ne (by omega) ?_ | assumption)), (by repeat (first | exact hs_eq _ _ _ | refine hs_ne (by omega) ?_ | assumption)), (by repeat (first | exact hs_eq _ _ _ | refine hs_ne (by omega) ?_ | assumption)), (by repeat (first | exact hs_eq _ _ _ | refine hs_ne (by omega) ?_ | assumption)), (by repeat (first | exact hs_eq _ _ _ | refine hs_ne (by omega) ?_ | assumption))⟩⟩, Fr.tr hFa (fun aaa haa => by repeat (first | rfl | refine hs_ne (by omega) ?_))⟩)
                        | exact Or.inr (Or.inr ⟨⟨hkl ▸ hpf, by rw [hkl]; omega, by rw [hkl]; omega⟩, by rw [hkl]; omega, rfl, ⟨_, _, _, ⟨(by repeat (first | exact hs_eq _ _ _ | refine hs_ne (by omega) ?_ | assumption)), (by repeat (first | exact hs_eq _ _ _ | refine hs_ne (by omega) ?_ | assumption)), (by repeat (first | exact hs_eq _ _ _ | refine hs_ne (by omega) ?_ | assumption)), (by repeat (first | exact hs_eq _ _ _ | refine hs_ne (by omega) ?_ | assumption)), (by repeat (first | exact hs_eq _ _ _ | refine hs_ne (by omega) ?_ | assumption)), (by repeat (first | exact hs_eq _ _ _ | refine hs_ne (by omega) ?_ | assumption))⟩⟩, Fr.tr hFa (fun aaa haa => by repeat (first | rfl | refine hs_ne (by omega) ?_))⟩))))
          · try (exfalso; omega)
            all_goals (
              refine k_iconst C dX8_load_46 ?_
              refine k_goto (tgt := 66) C dX8_load_47 (by decide) ?_
              refine k_put C (k := 5) inX8 tyX8_ok nmX8 (ci := 8) rfl (by decide) fl_X8_25 rfl (Nat.le_of_ble_eq_true rfl) dX8_load_66 (by repeat (first | exact hs_eq _ _ _ | refine hs_ne (by omega) ?_ | assumption)) ?_
              refine k_aload_n C dX8_load_69 rfl ?_
              refine k_get C (k := 5) inX8 (ci := 8) rfl (by decide) fl_X8_25 dX8_load_70 (by repeat (first | exact hs_eq _ _ _ | refine hs_ne (by omega) ?_ | assumption)) rfl ?_
              refine k_if_le (tgt := 78) C dX8_load_73 (by decide) ⟨by omega, by omega⟩ (fun c73 => ?_) (fun c73 => ?_)
              · try (exfalso; omega)
                all_goals (
                  refine k_aload_n C dX8_load_78 rfl ?_
                  refine k_callV C (n := 0) (as := []) (ct_X8_save l D tc base oo zrr hhi htx has (pS htx hro nn).2.2 st ln 0 (pS htx hro nn).1 (pS htx hro nn).2.1 hsh _ ⟨(by repeat (first | exact hs_eq _ _ _ | refine hs_ne (by omega) ?_ | assumption)), (by repeat (first | exact hs_eq _ _ _ | refine hs_ne (by omega) ?_ | assumption)), (by repeat (first | exact hs_eq _ _ _ | refine hs_ne (by omega) ?_ | assumption)), (by repeat (first | exact hs_eq _ _ _ | refine hs_ne (by omega) ?_ | assumption)), (by repeat (first | exact hs_eq _ _ _ | refine hs_ne (by omega) ?_ | assumption)), (by repeat (first | exact hs_eq _ _ _ | refine hs_ne (by omega) ?_ | assumption))⟩ hst) ml_X8_102 im_X8_save se_X8_save ini_X8 co_X8_save ⟨rfl, by decide, by decide, by decide +kernel⟩ rfl (ci := 8) rfl (by repeat (first | exact hs_eq _ _ _ | refine hs_ne (by omega) ?_ | assumption)) ⟨by decide, by decide⟩ rfl (Nat.le_of_ble_eq_true rfl) ⟨Nat.zero_le _, Nat.zero_le _⟩ dX8_load_79 ?_
                  rintro _ hsv ⟨rfl, hM1, hF1⟩
                  obtain ⟨k0, k1, k2, k3, k4, k5⟩ := id hM1
                  refine k_aload_n C dX8_load_82 rfl ?_
                  refine k_iconst C dX8_load_83 ?_
                  refine k_put C (k := 3) inX8 tyX8_ok nmX8 (ci := 8) rfl (by decide) fl_X8_126 rfl (Nat.le_of_ble_eq_true rfl) dX8_load_84 (by repeat (first | exact hs_eq _ _ _ | refine hs_ne (by omega) ?_ | assumption)) ?_
                  refine k_aload_n C dX8_load_87 rfl ?_
                  refine k_get C (k := 0) inX8 (ci := 8) rfl (by decide) fl_X8_7 dX8_load_88 (by repeat (first | exact hs_eq _ _ _ | refine hs_ne (by omega) ?_ | assumption)) rfl ?_
                  refine k_bipush C dX8_load_91 (by decide +kernel) ?_
                  refine k_iconst C dX8_load_93 ?_
                  refine k_iastore C dX8_load_94 (by repeat (first | exact hs_eq _ _ _ | refine hs_ne (by omega) ?_ | assumption)) (by omega) (by omega) (by omega) ?_
                  refine k_iconst C dX8_load_95 ?_
                  refine k_istore_n C dX8_load_96 (by decide) rfl ?_
                  have loop97 : ∀ (n : Nat) (kk : Nat) (hkk : AH), (kk : Int) ≤ (pS htx hro nn).1 + 1 → MA hkk oo (zLd zrr (pS htx hro nn).2.2 kk) (sHi zrr hhi st) htx has (pS htx hro nn).2.2 (sSt st) 0 0 (pS htx hro nn).1 (pS htx hro nn).2.1 hsh → Fr hpp hkk oo 6 → (pS htx hro nn).1 + 1 - kk < (n : Int) → Wk D tc base 3 p l e (lvR 6) s m args below meth c 0 0 (MQ below (Qx D tc base (fun r h' => (pWhole htx hro ln.toNat ∧ (pS htx hro ln.toNat).1 + 1 ≤ 6 ∧ r = some (aI ((pS htx hro ln.toNat).1 + 1)) ∧ MA h' oo (zLd zrr (pS htx hro ln.toNat).2.2 ((pS htx hro ln.toNat).1 + 1).toNat) (sHi zrr hhi st) htx has (pS htx hro ln.toNat).2.2 (sSt st) 0 0 (pS htx hro ln.toNat).1 (pS htx hro ln.toNat).2.1 hsh ∧ Fr hpp h' oo 6) ∨ (¬ pWhole htx hro ln.toNat ∧ r = some (aI 0) ∧ (∃ (rex dux : Int) (hrx : Int → Int), MA h' oo zrr hhi htx has hrx st ln 1 rex dux hsh) ∧ Fr hpp h' oo 6) ∨ (pWhole htx hro ln.toNat ∧ ¬ (pS htx hro ln.toNat).1 + 1 ≤ 6 ∧ r = some (aI 0) ∧ (∃ (rex dux : Int) (hrx : Int → Int), MA h' oo zrr hhi htx has hrx st ln 2 rex dux hsh) ∧ Fr hpp h' oo 6))) args s 0 0 (fun q => base ≤ q)) 97 [some (aR oo), some (aI 1), some (aI kk)] [] hkk := by
                    intro n
                    induction n with
                    | zero =>
                      intro kk hkk hk hMk hFk hmu
                      exfalso
                      omega
                    | succ n ih =>
                      intro kk hkk hk hMk hFk hmu
                      have hz21 := zLd_21 (z := zrr) (ro := (pS htx hro nn).2.2) (k := kk)
                      obtain ⟨y0, y1, y2, y3, y4, y5⟩ := id hMk
                      refine k_iload_n C dX8_load_97 rfl ?_
                      refine k_aload_n C dX8_load_98 rfl ?_
                      refine k_get C (k := 8) inX8 (ci := 8) rfl (by decide) fl_X8_129 dX8_load_99 (by repeat (first | exact hs_eq _ _ _ | refine hs_ne (by omega) ?_ | assumption)) rfl ?_
                      refine k_icmp_gt (tgt := 143) C dX8_load_102 (by decide) ⟨by omega, by omega⟩ ⟨by omega, by omega⟩ (fun c102 => ?_) (fun c102 => ?_)
                      · try (exfalso; omega)
                        all_goals (
                          refine k_aload_n C dX8_load_143 rfl ?_
                          refine k_get C (k := 0) inX8 (ci := 8) rfl (by decide) fl_X8_7 dX8_load_144 (by repeat (first | exact hs_eq _ _ _ | refine hs_ne (by omega) ?_ | assumption)) rfl ?_
                          refine k_bipush C dX8_load_147 (by decide +kernel) ?_
                          refine k_iaload C dX8_load_149 (by repeat (first | exact hs_eq _ _ _ | refine hs_ne (by omega) ?_ | assumption)) (by omega) (by omega) (by omega) ?_
                          refine k_iret C hr dX8_load_150 ?_
                          first
                            | (have hkk2 : ((pS htx hro nn).1 + 1).toNat = kk := by omega
                               rw [hkl]
                               exact Or.inl ⟨⟨hpf, by omega, by omega⟩, by omega, congrArg (fun qq => some (aI qq)) (by omega), by rw [hkk2]; exact hMk, hFk⟩)
                            | exact Or.inr (Or.inl ⟨fun hpw => by obtain ⟨x1, x2, x3⟩ := hpw; first | omega | (rw [hkl] at x2 x3; omega) | exact hno (by omega) (x1 nn (by omega)), rfl, ⟨_, _, _, ⟨(by repeat (first | exact hs_eq _ _ _ | refine hs_ne (by omega) ?_ | assumption)), (by repeat (first | exact hs_eq _ _ _ | refine hs_ne (by omega) ?_ | assumption)), (by repeat (first | exact hs_eq _ _ _ | refine hs_ne (by omega) ?_ | assumption)), (by repeat (first | exact hs_eq _ _ _ | refine hs_ne (by omega) ?_ | assumption)), (by repeat (first | exact hs_eq _ _ _ | refine hs_ne (by omega) ?_ | assumption)), (by repeat (first | exact hs_eq _ _ _ | refine hs_ne (by omega) ?_ | assumption))⟩⟩, Fr.tr hFa (fun aaa haa => by repeat (first | rfl | refine hs_ne (by omega) ?_))⟩)
                            | exact Or.inr (Or.inr ⟨⟨hkl ▸ hpf, by rw [hkl]; omega, by rw [hkl]; omega⟩, by rw [hkl]; omega, rfl, ⟨_, _, _, ⟨(by repeat (first | exact hs_eq _ _ _ | refine hs_ne (by omega) ?_ | assumption)), (by repeat (first | exact hs_eq _ _ _ | refine hs_ne (by omega) ?_ | assumption)), (by repeat (first | exact hs_eq _ _ _ | refine hs_ne (by omega) ?_ | assumption)), (by repeat (first | exact hs_eq _ _ _ | refine hs_ne (by omega) ?_ | assumption)), (by repeat (first | exact hs_eq _ _ _ | refine hs_ne (by omega) ?_ | assumption)), (by repeat (first | exact hs_eq _ _ _ | refine hs_ne (by omega) ?_ | assumption))⟩⟩, Fr.tr hFa (fun aaa haa => by repeat (first | rfl | refine hs_ne (by omega) ?_))⟩))
                      · try (exfalso; omega)
                        all_goals (
                          refine k_aload_n C dX8_load_105 rfl ?_
                          refine k_aload_n C dX8_load_106 rfl ?_
                          refine k_get C (k := 7) inX8 (ci := 8) rfl (by decide) fl_X8_22 dX8_load_107 (by repeat (first | exact hs_eq _ _ _ | refine hs_ne (by omega) ?_ | assumption)) rfl ?_
                          refine k_iconst C dX8_load_110 ?_
                          refine k_iload_n C dX8_load_111 rfl ?_
                          refine k_imul C dX8_load_112 ?_
                          refine k_iaload C dX8_load_113 (by repeat (first | exact hs_eq _ _ _ | refine hs_ne (by omega) ?_ | assumption)) (by omega) (by omega) (by omega) ?_
                          refine k_aload_n C dX8_load_114 rfl ?_
                          refine k_get C (k := 7) inX8 (ci := 8) rfl (by decide) fl_X8_22 dX8_load_115 (by repeat (first | exact hs_eq _ _ _ | refine hs_ne (by omega) ?_ | assumption)) rfl ?_
                          refine k_iconst C dX8_load_118 ?_
                          refine k_iload_n C dX8_load_119 rfl ?_
                          refine k_imul C dX8_load_120 ?_
                          refine k_iconst C dX8_load_121 ?_
                          refine k_iadd C dX8_load_122 ?_
                          refine k_iaload C dX8_load_123 (by repeat (first | exact hs_eq _ _ _ | refine hs_ne (by omega) ?_ | assumption)) (by omega) (by omega) (by omega) ?_
                          refine k_aload_n C dX8_load_124 rfl ?_
                          refine k_get C (k := 7) inX8 (ci := 8) rfl (by decide) fl_X8_22 dX8_load_125 (by repeat (first | exact hs_eq _ _ _ | refine hs_ne (by omega) ?_ | assumption)) rfl ?_
                          refine k_iconst C dX8_load_128 ?_
                          refine k_iload_n C dX8_load_129 rfl ?_
                          refine k_imul C dX8_load_130 ?_
                          refine k_iconst C dX8_load_131 ?_
                          refine k_iadd C dX8_load_132 ?_
                          refine k_iaload C dX8_load_133 (by repeat (first | exact hs_eq _ _ _ | refine hs_ne (by omega) ?_ | assumption)) (by omega) (by omega) (by omega) ?_
                          refine k_callV C (n := 3) (as := [_, _, _]) (ct_X8_comes l D tc base oo (zLd zrr (pS htx hro nn).2.2 kk) _ _ _ _ _ _ _ _ _ _ _ hMk _ _ _ ⟨by omega, by omega⟩) ml_X8_115 im_X8_comes se_X8_comes ini_X8 co_X8_comes ⟨rfl, by decide, by decide, by decide +kernel⟩ rfl (ci := 8) rfl (by repeat (first | exact hs_eq _ _ _ | refine hs_ne (by omega) ?_ | assumption)) ⟨by decide, by decide⟩ rfl (Nat.le_of_ble_eq_true rfl) ⟨Nat.zero_le _, Nat.zero_le _⟩ dX8_load_134 ?_
                          rintro _ hcc ⟨rfl, hM2, hF2⟩
                          refine k_iinc C dX8_load_137 rfl (by decide) rfl ?_
                          refine k_goto (tgt := 97) C dX8_load_140 (by decide) ?_
                          have e2 : ((kk + 1 : Nat) : Int) = (kk : Int) + 1 := by omega
                          have q1 := ih (kk + 1) _ (by omega) hM2 (hFk.tr hF2) (by omega)
                          rw [e2] at q1
                          exact q1)
                  exact loop97 ((pS htx hro nn).1 + 2).toNat 0 _ (by omega) ⟨(by repeat (first | exact hs_eq _ _ _ | refine hs_ne (by omega) ?_ | assumption)), (by repeat (first | exact hs_eq _ _ _ | refine hs_ne (by omega) ?_ | assumption)), (by repeat (first | exact hs_eq _ _ _ | refine hs_ne (by omega) ?_ | assumption)), (by repeat (first | exact hs_eq _ _ _ | refine hs_ne (by omega) ?_ | assumption)), (by repeat (first | exact hs_eq _ _ _ | refine hs_ne (by omega) ?_ | assumption)), (by repeat (first | exact hs_eq _ _ _ | refine hs_ne (by omega) ?_ | assumption))⟩ (Fr.tr (Fr.tr (Fr.tr hFa (fun aaa haa => by repeat (first | rfl | refine hs_ne (by omega) ?_))) hF1) (fun aaa haa => by repeat (first | rfl | refine hs_ne (by omega) ?_))) (by omega))
              · try (exfalso; omega)
                all_goals (
                  refine k_iconst C dX8_load_76 ?_
                  refine k_iret C hr dX8_load_77 ?_
                  first
                    | (have hkk2 : ((pS htx hro nn).1 + 1).toNat = kk := by omega
                       rw [hkl]
                       exact Or.inl ⟨⟨hpf, by omega, by omega⟩, by omega, congrArg (fun qq => some (aI qq)) (by omega), by rw [hkk2]; exact hMk, hFk⟩)
                    | exact Or.inr (Or.inl ⟨fun hpw => by obtain ⟨x1, x2, x3⟩ := hpw; first | omega | (rw [hkl] at x2 x3; omega) | exact hno (by omega) (x1 nn (by omega)), rfl, ⟨_, _, _, ⟨(by repeat (first | exact hs_eq _ _ _ | refine hs_ne (by omega) ?_ | assumption)), (by repeat (first | exact hs_eq _ _ _ | refine hs_ne (by omega) ?_ | assumption)), (by repeat (first | exact hs_eq _ _ _ | refine hs_ne (by omega) ?_ | assumption)), (by repeat (first | exact hs_eq _ _ _ | refine hs_ne (by omega) ?_ | assumption)), (by repeat (first | exact hs_eq _ _ _ | refine hs_ne (by omega) ?_ | assumption)), (by repeat (first | exact hs_eq _ _ _ | refine hs_ne (by omega) ?_ | assumption))⟩⟩, Fr.tr hFa (fun aaa haa => by repeat (first | rfl | refine hs_ne (by omega) ?_))⟩)
                    | exact Or.inr (Or.inr ⟨⟨hkl ▸ hpf, by rw [hkl]; omega, by rw [hkl]; omega⟩, by rw [hkl]; omega, rfl, ⟨_, _, _, ⟨(by repeat (first | exact hs_eq _ _ _ | refine hs_ne (by omega) ?_ | assumption)), (by repeat (first | exact hs_eq _ _ _ | refine hs_ne (by omega) ?_ | assumption)), (by repeat (first | exact hs_eq _ _ _ | refine hs_ne (by omega) ?_ | assumption)), (by repeat (first | exact hs_eq _ _ _ | refine hs_ne (by omega) ?_ | assumption)), (by repeat (first | exact hs_eq _ _ _ | refine hs_ne (by omega) ?_ | assumption)), (by repeat (first | exact hs_eq _ _ _ | refine hs_ne (by omega) ?_ | assumption))⟩⟩, Fr.tr hFa (fun aaa haa => by repeat (first | rfl | refine hs_ne (by omega) ?_))⟩))))
      · try (exfalso; omega)
        all_goals (
          refine k_aload_n C dX8_load_19 rfl ?_
          refine k_get C (k := 7) inX8 (ci := 8) rfl (by decide) fl_X8_22 dX8_load_20 (by repeat (first | exact hs_eq _ _ _ | refine hs_ne (by omega) ?_ | assumption)) rfl ?_
          refine k_iconst C dX8_load_23 ?_
          refine k_aload_n C dX8_load_24 rfl ?_
          refine k_get C (k := 8) inX8 (ci := 8) rfl (by decide) fl_X8_129 dX8_load_25 (by repeat (first | exact hs_eq _ _ _ | refine hs_ne (by omega) ?_ | assumption)) rfl ?_
          refine k_imul C dX8_load_28 ?_
          refine k_iconst C dX8_load_29 ?_
          refine k_iadd C dX8_load_30 ?_
          refine k_iaload C dX8_load_31 (by repeat (first | exact hs_eq _ _ _ | refine hs_ne (by omega) ?_ | assumption)) (by omega) (by omega) (by omega) ?_
          refine k_if_le (tgt := 39) C dX8_load_32 (by decide) ⟨by omega, by omega⟩ (fun c32 => ?_) (fun c32 => ?_)
          · try (exfalso; omega)
            all_goals (
              refine k_iconst C dX8_load_39 ?_
              refine k_istore_n C dX8_load_40 (by decide) rfl ?_
              refine k_aload_n C dX8_load_41 rfl ?_
              refine k_iload_n C dX8_load_42 rfl ?_
              refine k_if_ne (tgt := 50) C dX8_load_43 (by decide) ⟨by omega, by omega⟩ (fun c43 => ?_) (fun c43 => ?_)
              · try (exfalso; omega)
                all_goals (
                  refine k_aload_n C dX8_load_50 rfl ?_
                  refine k_get C (k := 8) inX8 (ci := 8) rfl (by decide) fl_X8_129 dX8_load_51 (by repeat (first | exact hs_eq _ _ _ | refine hs_ne (by omega) ?_ | assumption)) rfl ?_
                  refine k_iconst C dX8_load_54 ?_
                  refine k_iadd C dX8_load_55 ?_
                  refine k_bipush C dX8_load_56 (by decide +kernel) ?_
                  refine k_icmp_le (tgt := 65) C dX8_load_58 (by decide) ⟨by omega, by omega⟩ ⟨by omega, by omega⟩ (fun c58 => ?_) (fun c58 => ?_)
                  · try (exfalso; omega)
                    all_goals (
                      refine k_iconst C dX8_load_65 ?_
                      refine k_put C (k := 5) inX8 tyX8_ok nmX8 (ci := 8) rfl (by decide) fl_X8_25 rfl (Nat.le_of_ble_eq_true rfl) dX8_load_66 (by repeat (first | exact hs_eq _ _ _ | refine hs_ne (by omega) ?_ | assumption)) ?_
                      refine k_aload_n C dX8_load_69 rfl ?_
                      refine k_get C (k := 5) inX8 (ci := 8) rfl (by decide) fl_X8_25 dX8_load_70 (by repeat (first | exact hs_eq _ _ _ | refine hs_ne (by omega) ?_ | assumption)) rfl ?_
                      refine k_if_le (tgt := 78) C dX8_load_73 (by decide) ⟨by omega, by omega⟩ (fun c73 => ?_) (fun c73 => ?_)
                      · try (exfalso; omega)
                        all_goals (
                          refine k_aload_n C dX8_load_78 rfl ?_
                          refine k_callV C (n := 0) (as := []) (ct_X8_save l D tc base oo zrr hhi htx has (pS htx hro nn).2.2 st ln 0 (pS htx hro nn).1 (pS htx hro nn).2.1 hsh _ ⟨(by repeat (first | exact hs_eq _ _ _ | refine hs_ne (by omega) ?_ | assumption)), (by repeat (first | exact hs_eq _ _ _ | refine hs_ne (by omega) ?_ | assumption)), (by repeat (first | exact hs_eq _ _ _ | refine hs_ne (by omega) ?_ | assumption)), (by repeat (first | exact hs_eq _ _ _ | refine hs_ne (by omega) ?_ | assumption)), (by repeat (first | exact hs_eq _ _ _ | refine hs_ne (by omega) ?_ | assumption)), (by repeat (first | exact hs_eq _ _ _ | refine hs_ne (by omega) ?_ | assumption))⟩ hst) ml_X8_102 im_X8_save se_X8_save ini_X8 co_X8_save ⟨rfl, by decide, by decide, by decide +kernel⟩ rfl (ci := 8) rfl (by repeat (first | exact hs_eq _ _ _ | refine hs_ne (by omega) ?_ | assumption)) ⟨by decide, by decide⟩ rfl (Nat.le_of_ble_eq_true rfl) ⟨Nat.zero_le _, Nat.zero_le _⟩ dX8_load_79 ?_
                          rintro _ hsv ⟨rfl, hM1, hF1⟩
                          obtain ⟨k0, k1, k2, k3, k4, k5⟩ := id hM1
                          refine k_aload_n C dX8_load_82 rfl ?_
                          refine k_iconst C dX8_load_83 ?_
                          refine k_put C (k := 3) inX8 tyX8_ok nmX8 (ci := 8) rfl (by decide) fl_X8_126 rfl (Nat.le_of_ble_eq_true rfl) dX8_load_84 (by repeat (first | exact hs_eq _ _ _ | refine hs_ne (by omega) ?_ | assumption)) ?_
                          refine k_aload_n C dX8_load_87 rfl ?_
                          refine k_get C (k := 0) inX8 (ci := 8) rfl (by decide) fl_X8_7 dX8_load_88 (by repeat (first | exact hs_eq _ _ _ | refine hs_ne (by omega) ?_ | assumption)) rfl ?_
                          refine k_bipush C dX8_load_91 (by decide +kernel) ?_
                          refine k_iconst C dX8_load_93 ?_
                          refine k_iastore C dX8_load_94 (by repeat (first | exact hs_eq _ _ _ | refine hs_ne (by omega) ?_ | assumption)) (by omega) (by omega) (by omega) ?_
                          refine k_iconst C dX8_load_95 ?_
                          refine k_istore_n C dX8_load_96 (by decide) rfl ?_
                          have loop97 : ∀ (n : Nat) (kk : Nat) (hkk : AH), (kk : Int) ≤ (pS htx hro nn).1 + 1 → MA hkk oo (zLd zrr (pS htx hro nn).2.2 kk) (sHi zrr hhi st) htx has (pS htx hro nn).2.2 (sSt st) 0 0 (pS htx hro nn).1 (pS htx hro nn).2.1 hsh → Fr hpp hkk oo 6 → (pS htx hro nn).1 + 1 - kk < (n : Int) → Wk D tc base 3 p l e (lvR 6) s m args below meth c 0 0 (MQ below (Qx D tc base (fun r h' => (pWhole htx hro ln.toNat ∧ (pS htx hro ln.toNat).1 + 1 ≤ 6 ∧ r = some (aI ((pS htx hro ln.toNat).1 + 1)) ∧ MA h' oo (zLd zrr (pS htx hro ln.toNat).2.2 ((pS htx hro ln.toNat).1 + 1).toNat) (sHi zrr hhi st) htx has (pS htx hro ln.toNat).2.2 (sSt st) 0 0 (pS htx hro ln.toNat).1 (pS htx hro ln.toNat).2.1 hsh ∧ Fr hpp h' oo 6) ∨ (¬ pWhole htx hro ln.toNat ∧ r = some (aI 0) ∧ (∃ (rex dux : Int) (hrx : Int → Int), MA h' oo zrr hhi htx has hrx st ln 1 rex dux hsh) ∧ Fr hpp h' oo 6) ∨ (pWhole htx hro ln.toNat ∧ ¬ (pS htx hro ln.toNat).1 + 1 ≤ 6 ∧ r = some (aI 0) ∧ (∃ (rex dux : Int) (hrx : Int → Int), MA h' oo zrr hhi htx has hrx st ln 2 rex dux hsh) ∧ Fr hpp h' oo 6))) args s 0 0 (fun q => base ≤ q)) 97 [some (aR oo), some (aI 1), some (aI kk)] [] hkk := by
                            intro n
                            induction n with
                            | zero =>
                              intro kk hkk hk hMk hFk hmu
                              exfalso
                              omega
                            | succ n ih =>
                              intro kk hkk hk hMk hFk hmu
                              have hz21 := zLd_21 (z := zrr) (ro := (pS htx hro nn).2.2) (k := kk)
                              obtain ⟨y0, y1, y2, y3, y4, y5⟩ := id hMk
                              refine k_iload_n C dX8_load_97 rfl ?_
                              refine k_aload_n C dX8_load_98 rfl ?_
                              refine k_get C (k := 8) inX8 (ci := 8) rfl (by decide) fl_X8_129 dX8_load_99 (by repeat (first | exact hs_eq _ _ _ | refine hs_ne (by omega) ?_ | assumption)) rfl ?_
                              refine k_icmp_gt (tgt := 143) C dX8_load_102 (by decide) ⟨by omega, by omega⟩ ⟨by omega, by omega⟩ (fun c102 => ?_) (fun c102 => ?_)
                              · try (exfalso; omega)
                                all_goals (
                                  refine k_aload_n C dX8_load_143 rfl ?_
                                  refine k_get C (k := 0) inX8 (ci := 8) rfl (by decide) fl_X8_7 dX8_load_144 (by repeat (first | exact hs_eq _ _ _ | refine hs_ne (by omega) ?_ | assumption)) rfl ?_
                                  refine k_bipush C dX8_load_147 (by decide +kernel) ?_
                                  refine k_iaload C dX8_load_149 (by repeat (first | exact hs_eq _ _ _ | refine hs_ne (by omega) ?_ | assumption)) (by omega) (by omega) (by omega) ?_
                                  refine k_iret C hr dX8_load_150 ?_
                                  first
                                    | (have hkk2 : ((pS htx hro nn).1 + 1).toNat = kk := by omega
                                       rw [hkl]
                                       exact Or.inl ⟨⟨hpf, by omega, by omega⟩, by omega, congrArg (fun qq => some (aI qq)) (by omega), by rw [hkk2]; exact hMk, hFk⟩)
                                    | exact Or.inr (Or.inl ⟨fun hpw => by obtain ⟨x1, x2, x3⟩ := hpw; first | omega | (rw [hkl] at x2 x3; omega) | exact hno (by omega) (x1 nn (by omega)), rfl, ⟨_, _, _, ⟨(by repeat (first | exact hs_eq _ _ _ | refine hs_ne (by omega) ?_ | assumption)), (by repeat (first | exact hs_eq _ _ _ | refine hs_ne (by omega) ?_ | assumption)), (by repeat (first | exact hs_eq _ _ _ | refine hs_ne (by omega) ?_ | assumption)), (by repeat (first | exact hs_eq _ _ _ | refine hs_ne (by omega) ?_ | assumption)), (by repeat (first | exact hs_eq _ _ _ | refine hs_ne (by omega) ?_ | assumption)), (by repeat (first | exact hs_eq _ _ _ | refine hs_ne (by omega) ?_ | assumption))⟩⟩, Fr.tr hFa (fun aaa haa => by repeat (first | rfl | refine hs_ne (by omega) ?_))⟩)
                                    | exact Or.inr (Or.inr ⟨⟨hkl ▸ hpf, by rw [hkl]; omega, by rw [hkl]; omega⟩, by rw [hkl]; omega, rfl, ⟨_, _, _, ⟨(by repeat (first | exact hs_eq _ _ _ | refine hs_ne (by omega) ?_ | assumption)), (by repeat (first | exact hs_eq _ _ _ | refine hs_ne (by omega) ?_ | assumption)), (by repeat (first | exact hs_eq _ _ _ | refine hs_ne (by omega) ?_ | assumption)), (by repeat (first | exact hs_eq _ _ _ | refine hs_ne (by omega) ?_ | assumption)), (by repeat (first | exact hs_eq _ _ _ | refine hs_ne (by omega) ?_ | assumption)), (by repeat (first | exact hs_eq _ _ _ | refine hs_ne (by omega) ?_ | assumption))⟩⟩, Fr.tr hFa (fun aaa haa => by repeat (first | rfl | refine hs_ne (by omega) ?_))⟩))
                              · try (exfalso; omega)
                                all_goals (
                                  refine k_aload_n C dX8_load_105 rfl ?_
                                  refine k_aload_n C dX8_load_106 rfl ?_
                                  refine k_get C (k := 7) inX8 (ci := 8) rfl (by decide) fl_X8_22 dX8_load_107 (by repeat (first | exact hs_eq _ _ _ | refine hs_ne (by omega) ?_ | assumption)) rfl ?_
                                  refine k_iconst C dX8_load_110 ?_
                                  refine k_iload_n C dX8_load_111 rfl ?_
                                  refine k_imul C dX8_load_112 ?_
                                  refine k_iaload C dX8_load_113 (by repeat (first | exact hs_eq _ _ _ | refine hs_ne (by omega) ?_ | assumption)) (by omega) (by omega) (by omega) ?_
                                  refine k_aload_n C dX8_load_114 rfl ?_
                                  refine k_get C (k := 7) inX8 (ci := 8) rfl (by decide) fl_X8_22 dX8_load_115 (by repeat (first | exact hs_eq _ _ _ | refine hs_ne (by omega) ?_ | assumption)) rfl ?_
                                  refine k_iconst C dX8_load_118 ?_
                                  refine k_iload_n C dX8_load_119 rfl ?_
                                  refine k_imul C dX8_load_120 ?_
                                  refine k_iconst C dX8_load_121 ?_
                                  refine k_iadd C dX8_load_122 ?_
                                  refine k_iaload C dX8_load_123 (by repeat (first | exact hs_eq _ _ _ | refine hs_ne (by omega) ?_ | assumption)) (by omega) (by omega) (by omega) ?_
                                  refine k_aload_n C dX8_load_124 rfl ?_
                                  refine k_get C (k := 7) inX8 (ci := 8) rfl (by decide) fl_X8_22 dX8_load_125 (by repeat (first | exact hs_eq _ _ _ | refine hs_ne (by omega) ?_ | assumption)) rfl ?_
                                  refine k_iconst C dX8_load_128 ?_
                                  refine k_iload_n C dX8_load_129 rfl ?_
                                  refine k_imul C dX8_load_130 ?_
                                  refine k_iconst C dX8_load_131 ?_
                                  refine k_iadd C dX8_load_132 ?_
                                  refine k_iaload C dX8_load_133 (by repeat (first | exact hs_eq _ _ _ | refine hs_ne (by omega) ?_ | assumption)) (by omega) (by omega) (by omega) ?_
                                  refine k_callV C (n := 3) (as := [_, _, _]) (ct_X8_comes l D tc base oo (zLd zrr (pS htx hro nn).2.2 kk) _ _ _ _ _ _ _ _ _ _ _ hMk _ _ _ ⟨by omega, by omega⟩) ml_X8_115 im_X8_comes se_X8_comes ini_X8 co_X8_comes ⟨rfl, by decide, by decide, by decide +kernel⟩ rfl (ci := 8) rfl (by repeat (first | exact hs_eq _ _ _ | refine hs_ne (by omega) ?_ | assumption)) ⟨by decide, by decide⟩ rfl (Nat.le_of_ble_eq_true rfl) ⟨Nat.zero_le _, Nat.zero_le _⟩ dX8_load_134 ?_
                                  rintro _ hcc ⟨rfl, hM2, hF2⟩
                                  refine k_iinc C dX8_load_137 rfl (by decide) rfl ?_
                                  refine k_goto (tgt := 97) C dX8_load_140 (by decide) ?_
                                  have e2 : ((kk + 1 : Nat) : Int) = (kk : Int) + 1 := by omega
                                  have q1 := ih (kk + 1) _ (by omega) hM2 (hFk.tr hF2) (by omega)
                                  rw [e2] at q1
                                  exact q1)
                          exact loop97 ((pS htx hro nn).1 + 2).toNat 0 _ (by omega) ⟨(by repeat (first | exact hs_eq _ _ _ | refine hs_ne (by omega) ?_ | assumption)), (by repeat (first | exact hs_eq _ _ _ | refine hs_ne (by omega) ?_ | assumption)), (by repeat (first | exact hs_eq _ _ _ | refine hs_ne (by omega) ?_ | assumption)), (by repeat (first | exact hs_eq _ _ _ | refine hs_ne (by omega) ?_ | assumption)), (by repeat (first | exact hs_eq _ _ _ | refine hs_ne (by omega) ?_ | assumption)), (by repeat (first | exact hs_eq _ _ _ | refine hs_ne (by omega) ?_ | assumption))⟩ (Fr.tr (Fr.tr (Fr.tr hFa (fun aaa haa => by repeat (first | rfl | refine hs_ne (by omega) ?_))) hF1) (fun aaa haa => by repeat (first | rfl | refine hs_ne (by omega) ?_))) (by omega))
                      · try (exfalso; omega)
                        all_goals (
                          refine k_iconst C dX8_load_76 ?_
                          refine k_iret C hr dX8_load_77 ?_
                          first
                            | (have hkk2 : ((pS htx hro nn).1 + 1).toNat = kk := by omega
                               rw [hkl]
                               exact Or.inl ⟨⟨hpf, by omega, by omega⟩, by omega, congrArg (fun qq => some (aI qq)) (by omega), by rw [hkk2]; exact hMk, hFk⟩)
                            | exact Or.inr (Or.inl ⟨fun hpw => by obtain ⟨x1, x2, x3⟩ := hpw; first | omega | (rw [hkl] at x2 x3; omega) | exact hno (by omega) (x1 nn (by omega)), rfl, ⟨_, _, _, ⟨(by repeat (first | exact hs_eq _ _ _ | refine hs_ne (by omega) ?_ | assumption)), (by repeat (first | exact hs_eq _ _ _ | refine hs_ne (by omega) ?_ | assumption)), (by repeat (first | exact hs_eq _ _ _ | refine hs_ne (by omega) ?_ | assumption)), (by repeat (first | exact hs_eq _ _ _ | refine hs_ne (by omega) ?_ | assumption)), (by repeat (first | exact hs_eq _ _ _ | refine hs_ne (by omega) ?_ | assumption)), (by repeat (first | exact hs_eq _ _ _ | refine hs_ne (by omega) ?_ | assumption))⟩⟩, Fr.tr hFa (fun aaa haa => by repeat (first | rfl | refine hs_ne (by omega) ?_))⟩)
                            | exact Or.inr (Or.inr ⟨⟨hkl ▸ hpf, by rw [hkl]; omega, by rw [hkl]; omega⟩, by rw [hkl]; omega, rfl, ⟨_, _, _, ⟨(by repeat (first | exact hs_eq _ _ _ | refine hs_ne (by omega) ?_ | assumption)), (by repeat (first | exact hs_eq _ _ _ | refine hs_ne (by omega) ?_ | assumption)), (by repeat (first | exact hs_eq _ _ _ | refine hs_ne (by omega) ?_ | assumption)), (by repeat (first | exact hs_eq _ _ _ | refine hs_ne (by omega) ?_ | assumption)), (by repeat (first | exact hs_eq _ _ _ | refine hs_ne (by omega) ?_ | assumption)), (by repeat (first | exact hs_eq _ _ _ | refine hs_ne (by omega) ?_ | assumption))⟩⟩, Fr.tr hFa (fun aaa haa => by repeat (first | rfl | refine hs_ne (by omega) ?_))⟩)))
                  · try (exfalso; omega)
                    all_goals (
                      refine k_iconst C dX8_load_61 ?_
                      refine k_goto (tgt := 66) C dX8_load_62 (by decide) ?_
                      refine k_put C (k := 5) inX8 tyX8_ok nmX8 (ci := 8) rfl (by decide) fl_X8_25 rfl (Nat.le_of_ble_eq_true rfl) dX8_load_66 (by repeat (first | exact hs_eq _ _ _ | refine hs_ne (by omega) ?_ | assumption)) ?_
                      refine k_aload_n C dX8_load_69 rfl ?_
                      refine k_get C (k := 5) inX8 (ci := 8) rfl (by decide) fl_X8_25 dX8_load_70 (by repeat (first | exact hs_eq _ _ _ | refine hs_ne (by omega) ?_ | assumption)) rfl ?_
                      refine k_if_le (tgt := 78) C dX8_load_73 (by decide) ⟨by omega, by omega⟩ (fun c73 => ?_) (fun c73 => ?_)
                      · try (exfalso; omega)
                        all_goals (
                          refine k_aload_n C dX8_load_78 rfl ?_
                          refine k_callV C (n := 0) (as := []) (ct_X8_save l D tc base oo zrr hhi htx has (pS htx hro nn).2.2 st ln 0 (pS htx hro nn).1 (pS htx hro nn).2.1 hsh _ ⟨(by repeat (first | exact hs_eq _ _ _ | refine hs_ne (by omega) ?_ | assumption)), (by repeat (first | exact hs_eq _ _ _ | refine hs_ne (by omega) ?_ | assumption)), (by repeat (first | exact hs_eq _ _ _ | refine hs_ne (by omega) ?_ | assumption)), (by repeat (first | exact hs_eq _ _ _ | refine hs_ne (by omega) ?_ | assumption)), (by repeat (first | exact hs_eq _ _ _ | refine hs_ne (by omega) ?_ | assumption)), (by repeat (first | exact hs_eq _ _ _ | refine hs_ne (by omega) ?_ | assumption))⟩ hst) ml_X8_102 im_X8_save se_X8_save ini_X8 co_X8_save ⟨rfl, by decide, by decide, by decide +kernel⟩ rfl (ci := 8) rfl (by repeat (first | exact hs_eq _ _ _ | refine hs_ne (by omega) ?_ | assumption)) ⟨by decide, by decide⟩ rfl (Nat.le_of_ble_eq_true rfl) ⟨Nat.zero_le _, Nat.zero_le _⟩ dX8_load_79 ?_
                          rintro _ hsv ⟨rfl, hM1, hF1⟩
                          obtain ⟨k0, k1, k2, k3, k4, k5⟩ := id hM1
                          refine k_aload_n C dX8_load_82 rfl ?_
                          refine k_iconst C dX8_load_83 ?_
                          refine k_put C (k := 3) inX8 tyX8_ok nmX8 (ci := 8) rfl (by decide) fl_X8_126 rfl (Nat.le_of_ble_eq_true rfl) dX8_load_84 (by repeat (first | exact hs_eq _ _ _ | refine hs_ne (by omega) ?_ | assumption)) ?_
                          refine k_aload_n C dX8_load_87 rfl ?_
                          refine k_get C (k := 0) inX8 (ci := 8) rfl (by decide) fl_X8_7 dX8_load_88 (by repeat (first | exact hs_eq _ _ _ | refine hs_ne (by omega) ?_ | assumption)) rfl ?_
                          refine k_bipush C dX8_load_91 (by decide +kernel) ?_
                          refine k_iconst C dX8_load_93 ?_
                          refine k_iastore C dX8_load_94 (by repeat (first | exact hs_eq _ _ _ | refine hs_ne (by omega) ?_ | assumption)) (by omega) (by omega) (by omega) ?_
                          refine k_iconst C dX8_load_95 ?_
                          refine k_istore_n C dX8_load_96 (by decide) rfl ?_
                          have loop97 : ∀ (n : Nat) (kk : Nat) (hkk : AH), (kk : Int) ≤ (pS htx hro nn).1 + 1 → MA hkk oo (zLd zrr (pS htx hro nn).2.2 kk) (sHi zrr hhi st) htx has (pS htx hro nn).2.2 (sSt st) 0 0 (pS htx hro nn).1 (pS htx hro nn).2.1 hsh → Fr hpp hkk oo 6 → (pS htx hro nn).1 + 1 - kk < (n : Int) → Wk D tc base 3 p l e (lvR 6) s m args below meth c 0 0 (MQ below (Qx D tc base (fun r h' => (pWhole htx hro ln.toNat ∧ (pS htx hro ln.toNat).1 + 1 ≤ 6 ∧ r = some (aI ((pS htx hro ln.toNat).1 + 1)) ∧ MA h' oo (zLd zrr (pS htx hro ln.toNat).2.2 ((pS htx hro ln.toNat).1 + 1).toNat) (sHi zrr hhi st) htx has (pS htx hro ln.toNat).2.2 (sSt st) 0 0 (pS htx hro ln.toNat).1 (pS htx hro ln.toNat).2.1 hsh ∧ Fr hpp h' oo 6) ∨ (¬ pWhole htx hro ln.toNat ∧ r = some (aI 0) ∧ (∃ (rex dux : Int) (hrx : Int → Int), MA h' oo zrr hhi htx has hrx st ln 1 rex dux hsh) ∧ Fr hpp h' oo 6) ∨ (pWhole htx hro ln.toNat ∧ ¬ (pS htx hro ln.toNat).1 + 1 ≤ 6 ∧ r = some (aI 0) ∧ (∃ (rex dux : Int) (hrx : Int → Int), MA h' oo zrr hhi htx has hrx st ln 2 rex dux hsh) ∧ Fr hpp h' oo 6))) args s 0 0 (fun q => base ≤ q)) 97 [some (aR oo), some (aI 1), some (aI kk)] [] hkk := by
                            intro n
                            induction n with
                            | zero =>
                              intro kk hkk hk hMk hFk hmu
                              exfalso
                              omega
                            | succ n ih =>
                              intro kk hkk hk hMk hFk hmu
                              have hz21 := zLd_21 (z := zrr) (ro := (pS htx hro nn).2.2) (k := kk)
                              obtain ⟨y0, y1, y2, y3, y4, y5⟩ := id hMk
                              refine k_iload_n C dX8_load_97 rfl ?_
                              refine k_aload_n C dX8_load_98 rfl ?_
                              refine k_get C (k := 8) inX8 (ci := 8) rfl (by decide) fl_X8_129 dX8_load_99 (by repeat (first | exact hs_eq _ _ _ | refine hs_ne (by omega) ?_ | assumption)) rfl ?_
                              refine k_icmp_gt (tgt := 143) C dX8_load_102 (by decide) ⟨by omega, by omega⟩ ⟨by omega, by omega⟩ (fun c102 => ?_) (fun c102 => ?_)
                              · try (exfalso; omega)
                                all_goals (
                                  refine k_aload_n C dX8_load_143 rfl ?_
                                  refine k_get C (k := 0) inX8 (ci := 8) rfl (by decide) fl_X8_7 dX8_load_144 (by repeat (first | exact hs_eq _ _ _ | refine hs_ne (by omega) ?_ | assumption)) rfl ?_
                                  refine k_bipush C dX8_load_147 (by decide +kernel) ?_
                                  refine k_iaload C dX8_load_149 (by repeat (first | exact hs_eq _ _ _ | refine hs_ne (by omega) ?_ | assumption)) (by omega) (by omega) (by omega) ?_
                                  refine k_iret C hr dX8_load_150 ?_
                                  first
                                    | (have hkk2 : ((pS htx hro nn).1 + 1).toNat = kk := by omega
                                       rw [hkl]
                                       exact Or.inl ⟨⟨hpf, by omega, by omega⟩, by omega, congrArg (fun qq => some (aI qq)) (by omega), by rw [hkk2]; exact hMk, hFk⟩)
                                    | exact Or.inr (Or.inl ⟨fun hpw => by obtain ⟨x1, x2, x3⟩ := hpw; first | omega | (rw [hkl] at x2 x3; omega) | exact hno (by omega) (x1 nn (by omega)), rfl, ⟨_, _, _, ⟨(by repeat (first | exact hs_eq _ _ _ | refine hs_ne (by omega) ?_ | assumption)), (by repeat (first | exact hs_eq _ _ _ | refine hs_ne (by omega) ?_ | assumption)), (by repeat (first | exact hs_eq _ _ _ | refine hs_ne (by omega) ?_ | assumption)), (by repeat (first | exact hs_eq _ _ _ | refine hs_ne (by omega) ?_ | assumption)), (by repeat (first | exact hs_eq _ _ _ | refine hs_ne (by omega) ?_ | assumption)), (by repeat (first | exact hs_eq _ _ _ | refine hs_ne (by omega) ?_ | assumption))⟩⟩, Fr.tr hFa (fun aaa haa => by repeat (first | rfl | refine hs_ne (by omega) ?_))⟩)
                                    | exact Or.inr (Or.inr ⟨⟨hkl ▸ hpf, by rw [hkl]; omega, by rw [hkl]; omega⟩, by rw [hkl]; omega, rfl, ⟨_, _, _, ⟨(by repeat (first | exact hs_eq _ _ _ | refine hs_ne (by omega) ?_ | assumption)), (by repeat (first | exact hs_eq _ _ _ | refine hs_ne (by omega) ?_ | assumption)), (by repeat (first | exact hs_eq _ _ _ | refine hs_ne (by omega) ?_ | assumption)), (by repeat (first | exact hs_eq _ _ _ | refine hs_ne (by omega) ?_ | assumption)), (by repeat (first | exact hs_eq _ _ _ | refine hs_ne (by omega) ?_ | assumption)), (by repeat (first | exact hs_eq _ _ _ | refine hs_ne (by omega) ?_ | assumption))⟩⟩, Fr.tr hFa (fun aaa haa => by repeat (first | rfl | refine hs_ne (by omega) ?_))⟩))
                              · try (exfalso; omega)
                                all_goals (
                                  refine k_aload_n C dX8_load_105 rfl ?_
                                  refine k_aload_n C dX8_load_106 rfl ?_
                                  refine k_get C (k := 7) inX8 (ci := 8) rfl (by decide) fl_X8_22 dX8_load_107 (by repeat (first | exact hs_eq _ _ _ | refine hs_ne (by omega) ?_ | assumption)) rfl ?_
                                  refine k_iconst C dX8_load_110 ?_
                                  refine k_iload_n C dX8_load_111 rfl ?_
                                  refine k_imul C dX8_load_112 ?_
                                  refine k_iaload C dX8_load_113 (by repeat (first | exact hs_eq _ _ _ | refine hs_ne (by omega) ?_ | assumption)) (by omega) (by omega) (by omega) ?_
                                  refine k_aload_n C dX8_load_114 rfl ?_
                                  refine k_get C (k := 7) inX8 (ci := 8) rfl (by decide) fl_X8_22 dX8_load_115 (by repeat (first | exact hs_eq _ _ _ | refine hs_ne (by omega) ?_ | assumption)) rfl ?_
                                  refine k_iconst C dX8_load_118 ?_
                                  refine k_iload_n C dX8_load_119 rfl ?_
                                  refine k_imul C dX8_load_120 ?_
                                  refine k_iconst C dX8_load_121 ?_
                                  refine k_iadd C dX8_load_122 ?_
                                  refine k_iaload C dX8_load_123 (by repeat (first | exact hs_eq _ _ _ | refine hs_ne (by omega) ?_ | assumption)) (by omega) (by omega) (by omega) ?_
                                  refine k_aload_n C dX8_load_124 rfl ?_
                                  refine k_get C (k := 7) inX8 (ci := 8) rfl (by decide) fl_X8_22 dX8_load_125 (by repeat (first | exact hs_eq _ _ _ | refine hs_ne (by omega) ?_ | assumption)) rfl ?_
                                  refine k_iconst C dX8_load_128 ?_
                                  refine k_iload_n C dX8_load_129 rfl ?_
                                  refine k_imul C dX8_load_130 ?_
                                  refine k_iconst C dX8_load_131 ?_
                                  refine k_iadd C dX8_load_132 ?_
                                  refine k_iaload C dX8_load_133 (by repeat (first | exact hs_eq _ _ _ | refine hs_ne (by omega) ?_ | assumption)) (by omega) (by omega) (by omega) ?_
                                  refine k_callV C (n := 3) (as := [_, _, _]) (ct_X8_comes l D tc base oo (zLd zrr (pS htx hro nn).2.2 kk) _ _ _ _ _ _ _ _ _ _ _ hMk _ _ _ ⟨by omega, by omega⟩) ml_X8_115 im_X8_comes se_X8_comes ini_X8 co_X8_comes ⟨rfl, by decide, by decide, by decide +kernel⟩ rfl (ci := 8) rfl (by repeat (first | exact hs_eq _ _ _ | refine hs_ne (by omega) ?_ | assumption)) ⟨by decide, by decide⟩ rfl (Nat.le_of_ble_eq_true rfl) ⟨Nat.zero_le _, Nat.zero_le _⟩ dX8_load_134 ?_
                                  rintro _ hcc ⟨rfl, hM2, hF2⟩
                                  refine k_iinc C dX8_load_137 rfl (by decide) rfl ?_
                                  refine k_goto (tgt := 97) C dX8_load_140 (by decide) ?_
                                  have e2 : ((kk + 1 : Nat) : Int) = (kk : Int) + 1 := by omega
                                  have q1 := ih (kk + 1) _ (by omega) hM2 (hFk.tr hF2) (by omega)
                                  rw [e2] at q1
                                  exact q1)
                          exact loop97 ((pS htx hro nn).1 + 2).toNat 0 _ (by omega) ⟨(by repeat (first | exact hs_eq _ _ _ | refine hs_ne (by omega) ?_ | assumption)), (by repeat (first | exact hs_eq _ _ _ | refine hs_ne (by omega) ?_ | assumption)), (by repeat (first | exact hs_eq _ _ _ | refine hs_ne (by omega) ?_ | assumption)), (by repeat (first | exact hs_eq _ _ _ | refine hs_ne (by omega) ?_ | assumption)), (by repeat (first | exact hs_eq _ _ _ | refine hs_ne (by omega) ?_ | assumption)), (by repeat (first | exact hs_eq _ _ _ | refine hs_ne (by omega) ?_ | assumption))⟩ (Fr.tr (Fr.tr (Fr.tr hFa (fun aaa haa => by repeat (first | rfl | refine hs_ne (by omega) ?_))) hF1) (fun aaa haa => by repeat (first | rfl | refine hs_ne (by omega) ?_))) (by omega))
                      · try (exfalso; omega)
                        all_goals (
                          refine k_iconst C dX8_load_76 ?_
                          refine k_iret C hr dX8_load_77 ?_
                          first
                            | (have hkk2 : ((pS htx hro nn).1 + 1).toNat = kk := by omega
                               rw [hkl]
                               exact Or.inl ⟨⟨hpf, by omega, by omega⟩, by omega, congrArg (fun qq => some (aI qq)) (by omega), by rw [hkk2]; exact hMk, hFk⟩)
                            | exact Or.inr (Or.inl ⟨fun hpw => by obtain ⟨x1, x2, x3⟩ := hpw; first | omega | (rw [hkl] at x2 x3; omega) | exact hno (by omega) (x1 nn (by omega)), rfl, ⟨_, _, _, ⟨(by repeat (first | exact hs_eq _ _ _ | refine hs_ne (by omega) ?_ | assumption)), (by repeat (first | exact hs_eq _ _ _ | refine hs_ne (by omega) ?_ | assumption)), (by repeat (first | exact hs_eq _ _ _ | refine hs_ne (by omega) ?_ | assumption)), (by repeat (first | exact hs_eq _ _ _ | refine hs_ne (by omega) ?_ | assumption)), (by repeat (first | exact hs_eq _ _ _ | refine hs_ne (by omega) ?_ | assumption)), (by repeat (first | exact hs_eq _ _ _ | refine hs_ne (by omega) ?_ | assumption))⟩⟩, Fr.tr hFa (fun aaa haa => by repeat (first | rfl | refine hs_ne (by omega) ?_))⟩)
                            | exact Or.inr (Or.inr ⟨⟨hkl ▸ hpf, by rw [hkl]; omega, by rw [hkl]; omega⟩, by rw [hkl]; omega, rfl, ⟨_, _, _, ⟨(by repeat (first | exact hs_eq _ _ _ | refine hs_ne (by omega) ?_ | assumption)), (by repeat (first | exact hs_eq _ _ _ | refine hs_ne (by omega) ?_ | assumption)), (by repeat (first | exact hs_eq _ _ _ | refine hs_ne (by omega) ?_ | assumption)), (by repeat (first | exact hs_eq _ _ _ | refine hs_ne (by omega) ?_ | assumption)), (by repeat (first | exact hs_eq _ _ _ | refine hs_ne (by omega) ?_ | assumption)), (by repeat (first | exact hs_eq _ _ _ | refine hs_ne (by omega) ?_ | assumption))⟩⟩, Fr.tr hFa (fun aaa haa => by repeat (first | rfl | refine hs_ne (by omega) ?_))⟩))))
              · try (exfalso; omega)
                all_goals (
                  refine k_iconst C dX8_load_46 ?_
                  refine k_goto (tgt := 66) C dX8_load_47 (by decide) ?_
                  refine k_put C (k := 5) inX8 tyX8_ok nmX8 (ci := 8) rfl (by decide) fl_X8_25 rfl (Nat.le_of_ble_eq_true rfl) dX8_load_66 (by repeat (first | exact hs_eq _ _ _ | refine hs_ne (by omega) ?_ | assumption)) ?_
                  refine k_aload_n C dX8_load_69 rfl ?_
                  refine k_get C (k := 5) inX8 (ci := 8) rfl (by decide) fl_X8_25 dX8_load_70 (by repeat (first | exact hs_eq _ _ _ | refine hs_ne (by omega) ?_ | assumption)) rfl ?_
                  refine k_if_le (tgt := 78) C dX8_load_73 (by decide) ⟨by omega, by omega⟩ (fun c73 => ?_) (fun c73 => ?_)
                  · try (exfalso; omega)
                    all_goals (
                      refine k_aload_n C dX8_load_78 rfl ?_
                      refine k_callV C (n := 0) (as := []) (ct_X8_save l D tc base oo zrr hhi htx has (pS htx hro nn).2.2 st ln 0 (pS htx hro nn).1 (pS htx hro nn).2.1 hsh _ ⟨(by repeat (first | exact hs_eq _ _ _ | refine hs_ne (by omega) ?_ | assumption)), (by repeat (first | exact hs_eq _ _ _ | refine hs_ne (by omega) ?_ | assumption)), (by repeat (first | exact hs_eq _ _ _ | refine hs_ne (by omega) ?_ | assumption)), (by repeat (first | exact hs_eq _ _ _ | refine hs_ne (by omega) ?_ | assumption)), (by repeat (first | exact hs_eq _ _ _ | refine hs_ne (by omega) ?_ | assumption)), (by repeat (first | exact hs_eq _ _ _ | refine hs_ne (by omega) ?_ | assumption))⟩ hst) ml_X8_102 im_X8_save se_X8_save ini_X8 co_X8_save ⟨rfl, by decide, by decide, by decide +kernel⟩ rfl (ci := 8) rfl (by repeat (first | exact hs_eq _ _ _ | refine hs_ne (by omega) ?_ | assumption)) ⟨by decide, by decide⟩ rfl (Nat.le_of_ble_eq_true rfl) ⟨Nat.zero_le _, Nat.zero_le _⟩ dX8_load_79 ?_
                      rintro _ hsv ⟨rfl, hM1, hF1⟩
                      obtain ⟨k0, k1, k2, k3, k4, k5⟩ := id hM1
                      refine k_aload_n C dX8_load_82 rfl ?_
                      refine k_iconst C dX8_load_83 ?_
                      refine k_put C (k := 3) inX8 tyX8_ok nmX8 (ci := 8) rfl (by decide) fl_X8_126 rfl (Nat.le_of_ble_eq_true rfl) dX8_load_84 (by repeat (first | exact hs_eq _ _ _ | refine hs_ne (by omega) ?_ | assumption)) ?_
                      refine k_aload_n C dX8_load_87 rfl ?_
                      refine k_get C (k := 0) inX8 (ci := 8) rfl (by decide) fl_X8_7 dX8_load_88 (by repeat (first | exact hs_eq _ _ _ | refine hs_ne (by omega) ?_ | assumption)) rfl ?_
                      refine k_bipush C dX8_load_91 (by decide +kernel) ?_
                      refine k_iconst C dX8_load_93 ?_
                      refine k_iastore C dX8_load_94 (by repeat (first | exact hs_eq _ _ _ | refine hs_ne (by omega) ?_ | assumption)) (by omega) (by omega) (by omega) ?_
                      refine k_iconst C dX8_load_95 ?_
                      refine k_istore_n C dX8_load_96 (by decide) rfl ?_
                      have loop97 : ∀ (n : Nat) (kk : Nat) (hkk : AH), (kk : Int) ≤ (pS htx hro nn).1 + 1 → MA hkk oo (zLd zrr (pS htx hro nn).2.2 kk) (sHi zrr hhi st) htx has (pS htx hro nn).2.2 (sSt st) 0 0 (pS htx hro nn).1 (pS htx hro nn).2.1 hsh → Fr hpp hkk oo 6 → (pS htx hro nn).1 + 1 - kk < (n : Int) → Wk D tc base 3 p l e (lvR 6) s m args below meth c 0 0 (MQ below (Qx D tc base (fun r h' => (pWhole htx hro ln.toNat ∧ (pS htx hro ln.toNat).1 + 1 ≤ 6 ∧ r = some (aI ((pS htx hro ln.toNat).1 + 1)) ∧ MA h' oo (zLd zrr (pS htx hro ln.toNat).2.2 ((pS htx hro ln.toNat).1 + 1).toNat) (sHi zrr hhi st) htx has (pS htx hro ln.toNat).2.2 (sSt st) 0 0 (pS htx hro ln.toNat).1 (pS htx hro ln.toNat).2.1 hsh ∧ Fr hpp h' oo 6) ∨ (¬ pWhole htx hro ln.toNat ∧ r = some (aI 0) ∧ (∃ (rex dux : Int) (hrx : Int → Int), MA h' oo zrr hhi htx has hrx st ln 1 rex dux hsh) ∧ Fr hpp h' oo 6) ∨ (pWhole htx hro ln.toNat ∧ ¬ (pS htx hro ln.toNat).1 + 1 ≤ 6 ∧ r = some (aI 0) ∧ (∃ (rex dux : Int) (hrx : Int → Int), MA h' oo zrr hhi htx has hrx st ln 2 rex dux hsh) ∧ Fr hpp h' oo 6))) args s 0 0 (fun q => base ≤ q)) 97 [some (aR oo), some (aI 1), some (aI kk)] [] hkk := by
                        intro n
                        induction n with
                        | zero =>
                          intro kk hkk hk hMk hFk hmu
                          exfalso
                          omega
                        | succ n ih =>
                          intro kk hkk hk hMk hFk hmu
                          have hz21 := zLd_21 (z := zrr) (ro := (pS htx hro nn).2.2) (k := kk)
                          obtain ⟨y0, y1, y2, y3, y4, y5⟩ := id hMk
                          refine k_iload_n C dX8_load_97 rfl ?_
                          refine k_aload_n C dX8_load_98 rfl ?_
                          refine k_get C (k := 8) inX8 (ci := 8) rfl (by decide) fl_X8_129 dX8_load_99 (by repeat (first | exact hs_eq _ _ _ | refine hs_ne (by omega) ?_ | assumption)) rfl ?_
                          refine k_icmp_gt (tgt := 143) C dX8_load_102 (by decide) ⟨by omega, by omega⟩ ⟨by omega, by omega⟩ (fun c102 => ?_) (fun c102 => ?_)
                          · try (exfalso; omega)
                            all_goals (
                              refine k_aload_n C dX8_load_143 rfl ?_
                              refine k_get C (k := 0) inX8 (ci := 8) rfl (by decide) fl_X8_7 dX8_load_144 (by repeat (first | exact hs_eq _ _ _ | refine hs_ne (by omega) ?_ | assumption)) rfl ?_
                              refine k_bipush C dX8_load_147 (by decide +kernel) ?_
                              refine k_iaload C dX8_load_149 (by repeat (first | exact hs_eq _ _ _ | refine hs_ne (by omega) ?_ | assumption)) (by omega) (by omega) (by omega) ?_
                              refine k_iret C hr dX8_load_150 ?_
                              first
                                | (have hkk2 : ((pS htx hro nn).1 + 1).toNat = kk := by omega
                                   rw [hkl]
                                   exact Or.inl ⟨⟨hpf, by omega, by omega⟩, by omega, congrArg (fun qq => some (aI qq)) (by omega), by rw [hkk2]; exact hMk, hFk⟩)
                                | exact Or.inr (Or.inl ⟨fun hpw => by obtain ⟨x1, x2, x3⟩ := hpw; first | omega | (rw [hkl] at x2 x3; omega) | exact hno (by omega) (x1 nn (by omega)), rfl, ⟨_, _, _, ⟨(by repeat (first | exact hs_eq _ _ _ | refine hs_ne (by omega) ?_ | assumption)), (by repeat (first | exact hs_eq _ _ _ | refine hs_ne (by omega) ?_ | assumption)), (by repeat (first | exact hs_eq _ _ _ | refine hs_ne (by omega) ?_ | assumption)), (by repeat (first | exact hs_eq _ _ _ | refine hs_ne (by omega) ?_ | assumption)), (by repeat (first | exact hs_eq _ _ _ | refine hs_ne (by omega) ?_ | assumption)), (by repeat (first | exact hs_eq _ _ _ | refine hs_ne (by omega) ?_ | assumption))⟩⟩, Fr.tr hFa (fun aaa haa => by repeat (first | rfl | refine hs_ne (by omega) ?_))⟩)
                                | exact Or.inr (Or.inr ⟨⟨hkl ▸ hpf, by rw [hkl]; omega, by rw [hkl]; omega⟩, by rw [hkl]; omega, rfl, ⟨_, _, _, ⟨(by repeat (first | exact hs_eq _ _ _ | refine hs_ne (by omega) ?_ | assumption)), (by repeat (first | exact hs_eq _ _ _ | refine hs_ne (by omega) ?_ | assumption)), (by repeat (first | exact hs_eq _ _ _ | refine hs_ne (by omega) ?_ | assumption)), (by repeat (first | exact hs_eq _ _ _ | refine hs_ne (by omega) ?_ | assumption)), (by repeat (first | exact hs_eq _ _ _ | refine hs_ne (by omega) ?_ | assumption)), (by repeat (first | exact hs_eq _ _ _ | refine hs_ne (by omega) ?_ | assumption))⟩⟩, Fr.tr hFa (fun aaa haa => by repeat (first | rfl | refine hs_ne (by omega) ?_))⟩))
                          · try (exfalso; omega)
                            all_goals (
                              refine k_aload_n C dX8_load_105 rfl ?_
                              refine k_aload_n C dX8_load_106 rfl ?_
                              refine k_get C (k := 7) inX8 (ci := 8) rfl (by decide) fl_X8_22 dX8_load_107 (by repeat (first | exact hs_eq _ _ _ | refine hs_ne (by omega) ?_ | assumption)) rfl ?_
                              refine k_iconst C dX8_load_110 ?_
                              refine k_iload_n C dX8_load_111 rfl ?_
                              refine k_imul C dX8_load_112 ?_
                              refine k_iaload C dX8_load_113 (by repeat (first | exact hs_eq _ _ _ | refine hs_ne (by omega) ?_ | assumption)) (by omega) (by omega) (by omega) ?_
                              refine k_aload_n C dX8_load_114 rfl ?_
                              refine k_get C (k := 7) inX8 (ci := 8) rfl (by decide) fl_X8_22 dX8_load_115 (by repeat (first | exact hs_eq _ _ _ | refine hs_ne (by omega) ?_ | assumption)) rfl ?_
                              refine k_iconst C dX8_load_118 ?_
                              refine k_iload_n C dX8_load_119 rfl ?_
                              refine k_imul C dX8_load_120 ?_
                              refine k_iconst C dX8_load_121 ?_
                              refine k_iadd C dX8_load_122 ?_
                              refine k_iaload C dX8_load_123 (by repeat (first | exact hs_eq _ _ _ | refine hs_ne (by omega) ?_ | assumption)) (by omega) (by omega) (by omega) ?_
                              refine k_aload_n C dX8_load_124 rfl ?_
                              refine k_get C (k := 7) inX8 (ci := 8) rfl (by decide) fl_X8_22 dX8_load_125 (by repeat (first | exact hs_eq _ _ _ | refine hs_ne (by omega) ?_ | assumption)) rfl ?_
                              refine k_iconst C dX8_load_128 ?_
                              refine k_iload_n C dX8_load_129 rfl ?_
                              refine k_imul C dX8_load_130 ?_
                              refine k_iconst C dX8_load_131 ?_
                              refine k_iadd C dX8_load_132 ?_
                              refine k_iaload C dX8_load_133 (by repeat (first | exact hs_eq _ _ _ | refine hs_ne (by omega) ?_ | assumption)) (by omega) (by omega) (by omega) ?_
                              refine k_callV C (n := 3) (as := [_, _, _]) (ct_X8_comes l D tc base oo (zLd zrr (pS htx hro nn).2.2 kk) _ _ _ _ _ _ _ _ _ _ _ hMk _ _ _ ⟨by omega, by omega⟩) ml_X8_115 im_X8_comes se_X8_comes ini_X8 co_X8_comes ⟨rfl, by decide, by decide, by decide +kernel⟩ rfl (ci := 8) rfl (by repeat (first | exact hs_eq _ _ _ | refine hs_ne (by omega) ?_ | assumption)) ⟨by decide, by decide⟩ rfl (Nat.le_of_ble_eq_true rfl) ⟨Nat.zero_le _, Nat.zero_le _⟩ dX8_load_134 ?_
                              rintro _ hcc ⟨rfl, hM2, hF2⟩
                              refine k_iinc C dX8_load_137 rfl (by decide) rfl ?_
                              refine k_goto (tgt := 97) C dX8_load_140 (by decide) ?_
                              have e2 : ((kk + 1 : Nat) : Int) = (kk : Int) + 1 := by omega
                              have q1 := ih (kk + 1) _ (by omega) hM2 (hFk.tr hF2) (by omega)
                              rw [e2] at q1
                              exact q1)
                      exact loop97 ((pS htx hro nn).1 + 2).toNat 0 _ (by omega) ⟨(by repeat (first | exact hs_eq _ _ _ | refine hs_ne (by omega) ?_ | assumption)), (by repeat (first | exact hs_eq _ _ _ | refine hs_ne (by omega) ?_ | assumption)), (by repeat (first | exact hs_eq _ _ _ | refine hs_ne (by omega) ?_ | assumption)), (by repeat (first | exact hs_eq _ _ _ | refine hs_ne (by omega) ?_ | assumption)), (by repeat (first | exact hs_eq _ _ _ | refine hs_ne (by omega) ?_ | assumption)), (by repeat (first | exact hs_eq _ _ _ | refine hs_ne (by omega) ?_ | assumption))⟩ (Fr.tr (Fr.tr (Fr.tr hFa (fun aaa haa => by repeat (first | rfl | refine hs_ne (by omega) ?_))) hF1) (fun aaa haa => by repeat (first | rfl | refine hs_ne (by omega) ?_))) (by omega))
                  · try (exfalso; omega)
                    all_goals (
                      refine k_iconst C dX8_load_76 ?_
                      refine k_iret C hr dX8_load_77 ?_
                      first
                        | (have hkk2 : ((pS htx hro nn).1 + 1).toNat = kk := by omega
                           rw [hkl]
                           exact Or.inl ⟨⟨hpf, by omega, by omega⟩, by omega, congrArg (fun qq => some (aI qq)) (by omega), by rw [hkk2]; exact hMk, hFk⟩)
                        | exact Or.inr (Or.inl ⟨fun hpw => by obtain ⟨x1, x2, x3⟩ := hpw; first | omega | (rw [hkl] at x2 x3; omega) | exact hno (by omega) (x1 nn (by omega)), rfl, ⟨_, _, _, ⟨(by repeat (first | exact hs_eq _ _ _ | refine hs_ne (by omega) ?_ | assumption)), (by repeat (first | exact hs_eq _ _ _ | refine hs_ne (by omega) ?_ | assumption)), (by repeat (first | exact hs_eq _ _ _ | refine hs_ne (by omega) ?_ | assumption)), (by repeat (first | exact hs_eq _ _ _ | refine hs_ne (by omega) ?_ | assumption)), (by repeat (first | exact hs_eq _ _ _ | refine hs_ne (by omega) ?_ | assumption)), (by repeat (first | exact hs_eq _ _ _ | refine hs_ne (by omega) ?_ | assumption))⟩⟩, Fr.tr hFa (fun aaa haa => by repeat (first | rfl | refine hs_ne (by omega) ?_))⟩)
                        | exact Or.inr (Or.inr ⟨⟨hkl ▸ hpf, by rw [hkl]; omega, by rw [hkl]; omega⟩, by rw [hkl]; omega, rfl, ⟨_, _, _, ⟨(by repeat (first | exact hs_eq _ _ _ | refine hs_ne (by omega) ?_ | assumption)), (by repeat (first | exact hs_eq _ _ _ | refine hs_ne (by omega) ?_ | assumption)), (by repeat (first | exact hs_eq _ _ _ | refine hs_ne (by omega) ?_ | assumption)), (by repeat (first | exact hs_eq _ _ _ | refine hs_ne (by omega) ?_ | assumption)), (by repeat (first | exact hs_eq _ _ _ | refine hs_ne (by omega) ?_ | assumption)), (by repeat (first | exact hs_eq _ _ _ | refine hs_ne (by omega) ?_ | assumption))⟩⟩, Fr.tr hFa (fun aaa haa => by repeat (first | rfl | refine hs_ne (by omega) ?_))⟩))))
          · try (exfalso; omega)
            all_goals (
              refine k_iconst C dX8_load_35 ?_
              refine k_goto (tgt := 40) C dX8_load_36 (by decide) ?_
              refine k_istore_n C dX8_load_40 (by decide) rfl ?_
              refine k_aload_n C dX8_load_41 rfl ?_
              refine k_iload_n C dX8_load_42 rfl ?_
              refine k_if_ne (tgt := 50) C dX8_load_43 (by decide) ⟨by omega, by omega⟩ (fun c43 => ?_) (fun c43 => ?_)
              · try (exfalso; omega)
                all_goals (
                  refine k_aload_n C dX8_load_50 rfl ?_
                  refine k_get C (k := 8) inX8 (ci := 8) rfl (by decide) fl_X8_129 dX8_load_51 (by repeat (first | exact hs_eq _ _ _ | refine hs_ne (by omega) ?_ | assumption)) rfl ?_
                  refine k_iconst C dX8_load_54 ?_
                  refine k_iadd C dX8_load_55 ?_
                  refine k_bipush C dX8_load_56 (by decide +kernel) ?_
                  refine k_icmp_le (tgt := 65) C dX8_load_58 (by decide) ⟨by omega, by omega⟩ ⟨by omega, by omega⟩ (fun c58 => ?_) (fun c58 => ?_)
                  · try (exfalso; omega)
                    all_goals (
                      refine k_iconst C dX8_load_65 ?_
                      refine k_put C (k := 5) inX8 tyX8_ok nmX8 (ci := 8) rfl (by decide) fl_X8_25 rfl (Nat.le_of_ble_eq_true rfl) dX8_load_66 (by repeat (first | exact hs_eq _ _ _ | refine hs_ne (by omega) ?_ | assumption)) ?_
                      refine k_aload_n C dX8_load_69 rfl ?_
                      refine k_get C (k := 5) inX8 (ci := 8) rfl (by decide) fl_X8_25 dX8_load_70 (by repeat (first | exact hs_eq _ _ _ | refine hs_ne (by omega) ?_ | assumption)) rfl ?_
                      refine k_if_le (tgt := 78) C dX8_load_73 (by decide) ⟨by omega, by omega⟩ (fun c73 => ?_) (fun c73 => ?_)
                      · try (exfalso; omega)
                        all_goals (
                          refine k_aload_n C dX8_load_78 rfl ?_
                          refine k_callV C (n := 0) (as := []) (ct_X8_save l D tc base oo zrr hhi htx has (pS htx hro nn).2.2 st ln 0 (pS htx hro nn).1 (pS htx hro nn).2.1 hsh _ ⟨(by repeat (first | exact hs_eq _ _ _ | refine hs_ne (by omega) ?_ | assumption)), (by repeat (first | exact hs_eq _ _ _ | refine hs_ne (by omega) ?_ | assumption)), (by repeat (first | exact hs_eq _ _ _ | refine hs_ne (by omega) ?_ | assumption)), (by repeat (first | exact hs_eq _ _ _ | refine hs_ne (by omega) ?_ | assumption)), (by repeat (first | exact hs_eq _ _ _ | refine hs_ne (by omega) ?_ | assumption)), (by repeat (first | exact hs_eq _ _ _ | refine hs_ne (by omega) ?_ | assumption))⟩ hst) ml_X8_102 im_X8_save se_X8_save ini_X8 co_X8_save ⟨rfl, by decide, by decide, by decide +kernel⟩ rfl (ci := 8) rfl (by repeat (first | exact hs_eq _ _ _ | refine hs_ne (by omega) ?_ | assumption)) ⟨by decide, by decide⟩ rfl (Nat.le_of_ble_eq_true rfl) ⟨Nat.zero_le _, Nat.zero_le _⟩ dX8_load_79 ?_
                          rintro _ hsv ⟨rfl, hM1, hF1⟩
                          obtain ⟨k0, k1, k2, k3, k4, k5⟩ := id hM1
                          refine k_aload_n C dX8_load_82 rfl ?_
                          refine k_iconst C dX8_load_83 ?_
                          refine k_put C (k := 3) inX8 tyX8_ok nmX8 (ci := 8) rfl (by decide) fl_X8_126 rfl (Nat.le_of_ble_eq_true rfl) dX8_load_84 (by repeat (first | exact hs_eq _ _ _ | refine hs_ne (by omega) ?_ | assumption)) ?_
                          refine k_aload_n C dX8_load_87 rfl ?_
                          refine k_get C (k := 0) inX8 (ci := 8) rfl (by decide) fl_X8_7 dX8_load_88 (by repeat (first | exact hs_eq _ _ _ | refine hs_ne (by omega) ?_ | assumption)) rfl ?_
                          refine k_bipush C dX8_load_91 (by decide +kernel) ?_
                          refine k_iconst C dX8_load_93 ?_
                          refine k_iastore C dX8_load_94 (by repeat (first | exact hs_eq _ _ _ | refine hs_ne (by omega) ?_ | assumption)) (by omega) (by omega) (by omega) ?_
                          refine k_iconst C dX8_load_95 ?_
                          refine k_istore_n C dX8_load_96 (by decide) rfl ?_
                          have loop97 : ∀ (n : Nat) (kk : Nat) (hkk : AH), (kk : Int) ≤ (pS htx hro nn).1 + 1 → MA hkk oo (zLd zrr (pS htx hro nn).2.2 kk) (sHi zrr hhi st) htx has (pS htx hro nn).2.2 (sSt st) 0 0 (pS htx hro nn).1 (pS htx hro nn).2.1 hsh → Fr hpp hkk oo 6 → (pS htx hro nn).1 + 1 - kk < (n : Int) → Wk D tc base 3 p l e (lvR 6) s m args below meth c 0 0 (MQ below (Qx D tc base (fun r h' => (pWhole htx hro ln.toNat ∧ (pS htx hro ln.toNat).1 + 1 ≤ 6 ∧ r = some (aI ((pS htx hro ln.toNat).1 + 1)) ∧ MA h' oo (zLd zrr (pS htx hro ln.toNat).2.2 ((pS htx hro ln.toNat).1 + 1).toNat) (sHi zrr hhi st) htx has (pS htx hro ln.toNat).2.2 (sSt st) 0 0 (pS htx hro ln.toNat).1 (pS htx hro ln.toNat).2.1 hsh ∧ Fr hpp h' oo 6) ∨ (¬ pWhole htx hro ln.toNat ∧ r = some (aI 0) ∧ (∃ (rex dux : Int) (hrx : Int → Int), MA h' oo zrr hhi htx has hrx st ln 1 rex dux hsh) ∧ Fr hpp h' oo 6) ∨ (pWhole htx hro ln.toNat ∧ ¬ (pS htx hro ln.toNat).1 + 1 ≤ 6 ∧ r = some (aI 0) ∧ (∃ (rex dux : Int) (hrx : Int → Int), MA h' oo zrr hhi htx has hrx st ln 2 rex dux hsh) ∧ Fr hpp h' oo 6))) args s 0 0 (fun q => base ≤ q)) 97 [some (aR oo), some (aI 1), some (aI kk)] [] hkk := by
                            intro n
                            induction n with
                            | zero =>
                              intro kk hkk hk hMk hFk hmu
                              exfalso
                              omega
                            | succ n ih =>
                              intro kk hkk hk hMk hFk hmu
                              have hz21 := zLd_21 (z := zrr) (ro := (pS htx hro nn).2.2) (k := kk)
                              obtain ⟨y0, y1, y2, y3, y4, y5⟩ := id hMk
                              refine k_iload_n C dX8_load_97 rfl ?_
                              refine k_aload_n C dX8_load_98 rfl ?_
                              refine k_get C (k := 8) inX8 (ci := 8) rfl (by decide) fl_X8_129 dX8_load_99 (by repeat (first | exact hs_eq _ _ _ | refine hs_ne (by omega) ?_ | assumption)) rfl ?_
                              refine k_icmp_gt (tgt := 143) C dX8_load_102 (by decide) ⟨by omega, by omega⟩ ⟨by omega, by omega⟩ (fun c102 => ?_) (fun c102 => ?_)
                              · try (exfalso; omega)
                                all_goals (
                                  refine k_aload_n C dX8_load_143 rfl ?_
                                  refine k_get C (k := 0) inX8 (ci := 8) rfl (by decide) fl_X8_7 dX8_load_144 (by repeat (first | exact hs_eq _ _ _ | refine hs_ne (by omega) ?_ | assumption)) rfl ?_
                                  refine k_bipush C dX8_load_147 (by decide +kernel) ?_
                                  refine k_iaload C dX8_load_149 (by repeat (first | exact hs_eq _ _ _ | refine hs_ne (by omega) ?_ | assumption)) (by omega) (by omega) (by omega) ?_
                                  refine k_iret C hr dX8_load_150 ?_
                                  first
                                    | (have hkk2 : ((pS htx hro nn).1 + 1).toNat = kk := by omega
                                       rw [hkl]
                                       exact Or.inl ⟨⟨hpf, by omega, by omega⟩, by omega, congrArg (fun qq => some (aI qq)) (by omega), by rw [hkk2]; exact hMk, hFk⟩)
                                    | exact Or.inr (Or.inl ⟨fun hpw => by obtain ⟨x1, x2, x3⟩ := hpw; first | omega | (rw [hkl] at x2 x3; omega) | exact hno (by omega) (x1 nn (by omega)), rfl, ⟨_, _, _, ⟨(by repeat (first | exact hs_eq _ _ _ | refine hs_ne (by omega) ?_ | assumption)), (by repeat (first | exact hs_eq _ _ _ | refine hs_ne (by omega) ?_ | assumption)), (by repeat (first | exact hs_eq _ _ _ | refine hs_ne (by omega) ?_ | assumption)), (by repeat (first | exact hs_eq _ _ _ | refine hs_ne (by omega) ?_ | assumption)), (by repeat (first | exact hs_eq _ _ _ | refine hs_ne (by omega) ?_ | assumption)), (by repeat (first | exact hs_eq _ _ _ | refine hs_ne (by omega) ?_ | assumption))⟩⟩, Fr.tr hFa (fun aaa haa => by repeat (first | rfl | refine hs_ne (by omega) ?_))⟩)
                                    | exact Or.inr (Or.inr ⟨⟨hkl ▸ hpf, by rw [hkl]; omega, by rw [hkl]; omega⟩, by rw [hkl]; omega, rfl, ⟨_, _, _, ⟨(by repeat (first | exact hs_eq _ _ _ | refine hs_ne (by omega) ?_ | assumption)), (by repeat (first | exact hs_eq _ _ _ | refine hs_ne (by omega) ?_ | assumption)), (by repeat (first | exact hs_eq _ _ _ | refine hs_ne (by omega) ?_ | assumption)), (by repeat (first | exact hs_eq _ _ _ | refine hs_ne (by omega) ?_ | assumption)), (by repeat (first | exact hs_eq _ _ _ | refine hs_ne (by omega) ?_ | assumption)), (by repeat (first | exact hs_eq _ _ _ | refine hs_ne (by omega) ?_ | assumption))⟩⟩, Fr.tr hFa (fun aaa haa => by repeat (first | rfl | refine hs_ne (by omega) ?_))⟩))
                              · try (exfalso; omega)
                                all_goals (
                                  refine k_aload_n C dX8_load_105 rfl ?_
                                  refine k_aload_n C dX8_load_106 rfl ?_
                                  refine k_get C (k := 7) inX8 (ci := 8) rfl (by decide) fl_X8_22 dX8_load_107 (by repeat (first | exact hs_eq _ _ _ | refine hs_ne (by omega) ?_ | assumption)) rfl ?_
                                  refine k_iconst C dX8_load_110 ?_
                                  refine k_iload_n C dX8_load_111 rfl ?_
                                  refine k_imul C dX8_load_112 ?_
                                  refine k_iaload C dX8_load_113 (by repeat (first | exact hs_eq _ _ _ | refine hs_ne (by omega) ?_ | assumption)) (by omega) (by omega) (by omega) ?_
                                  refine k_aload_n C dX8_load_114 rfl ?_
                                  refine k_get C (k := 7) inX8 (ci := 8) rfl (by decide) fl_X8_22 dX8_load_115 (by repeat (first | exact hs_eq _ _ _ | refine hs_ne (by omega) ?_ | assumption)) rfl ?_
                                  refine k_iconst C dX8_load_118 ?_
                                  refine k_iload_n C dX8_load_119 rfl ?_
                                  refine k_imul C dX8_load_120 ?_
                                  refine k_iconst C dX8_load_121 ?_
                                  refine k_iadd C dX8_load_122 ?_
                                  refine k_iaload C dX8_load_123 (by repeat (first | exact hs_eq _ _ _ | refine hs_ne (by omega) ?_ | assumption)) (by omega) (by omega) (by omega) ?_
                                  refine k_aload_n C dX8_load_124 rfl ?_
                                  refine k_get C (k := 7) inX8 (ci := 8) rfl (by decide) fl_X8_22 dX8_load_125 (by repeat (first | exact hs_eq _ _ _ | refine hs_ne (by omega) ?_ | assumption)) rfl ?_
                                  refine k_iconst C dX8_load_128 ?_
                                  refine k_iload_n C dX8_load_129 rfl ?_
                                  refine k_imul C dX8_load_130 ?_
                                  refine k_iconst C dX8_load_131 ?_
                                  refine k_iadd C dX8_load_132 ?_
                                  refine k_iaload C dX8_load_133 (by repeat (first | exact hs_eq _ _ _ | refine hs_ne (by omega) ?_ | assumption)) (by omega) (by omega) (by omega) ?_
                                  refine k_callV C (n := 3) (as := [_, _, _]) (ct_X8_comes l D tc base oo (zLd zrr (pS htx hro nn).2.2 kk) _ _ _ _ _ _ _ _ _ _ _ hMk _ _ _ ⟨by omega, by omega⟩) ml_X8_115 im_X8_comes se_X8_comes ini_X8 co_X8_comes ⟨rfl, by decide, by decide, by decide +kernel⟩ rfl (ci := 8) rfl (by repeat (first | exact hs_eq _ _ _ | refine hs_ne (by omega) ?_ | assumption)) ⟨by decide, by decide⟩ rfl (Nat.le_of_ble_eq_true rfl) ⟨Nat.zero_le _, Nat.zero_le _⟩ dX8_load_134 ?_
                                  rintro _ hcc ⟨rfl, hM2, hF2⟩
                                  refine k_iinc C dX8_load_137 rfl (by decide) rfl ?_
                                  refine k_goto (tgt := 97) C dX8_load_140 (by decide) ?_
                                  have e2 : ((kk + 1 : Nat) : Int) = (kk : Int) + 1 := by omega
                                  have q1 := ih (kk + 1) _ (by omega) hM2 (hFk.tr hF2) (by omega)
                                  rw [e2] at q1
                                  exact q1)
                          exact loop97 ((pS htx hro nn).1 + 2).toNat 0 _ (by omega) ⟨(by repeat (first | exact hs_eq _ _ _ | refine hs_ne (by omega) ?_ | assumption)), (by repeat (first | exact hs_eq _ _ _ | refine hs_ne (by omega) ?_ | assumption)), (by repeat (first | exact hs_eq _ _ _ | refine hs_ne (by omega) ?_ | assumption)), (by repeat (first | exact hs_eq _ _ _ | refine hs_ne (by omega) ?_ | assumption)), (by repeat (first | exact hs_eq _ _ _ | refine hs_ne (by omega) ?_ | assumption)), (by repeat (first | exact hs_eq _ _ _ | refine hs_ne (by omega) ?_ | assumption))⟩ (Fr.tr (Fr.tr (Fr.tr hFa (fun aaa haa => by repeat (first | rfl | refine hs_ne (by omega) ?_))) hF1) (fun aaa haa => by repeat (first | rfl | refine hs_ne (by omega) ?_))) (by omega))
                      · try (exfalso; omega)
                        all_goals (
                          refine k_iconst C dX8_load_76 ?_
                          refine k_iret C hr dX8_load_77 ?_
                          first
                            | (have hkk2 : ((pS htx hro nn).1 + 1).toNat = kk := by omega
                               rw [hkl]
                               exact Or.inl ⟨⟨hpf, by omega, by omega⟩, by omega, congrArg (fun qq => some (aI qq)) (by omega), by rw [hkk2]; exact hMk, hFk⟩)
                            | exact Or.inr (Or.inl ⟨fun hpw => by obtain ⟨x1, x2, x3⟩ := hpw; first | omega | (rw [hkl] at x2 x3; omega) | exact hno (by omega) (x1 nn (by omega)), rfl, ⟨_, _, _, ⟨(by repeat (first | exact hs_eq _ _ _ | refine hs_ne (by omega) ?_ | assumption)), (by repeat (first | exact hs_eq _ _ _ | refine hs_ne (by omega) ?_ | assumption)), (by repeat (first | exact hs_eq _ _ _ | refine hs_ne (by omega) ?_ | assumption)), (by repeat (first | exact hs_eq _ _ _ | refine hs_ne (by omega) ?_ | assumption)), (by repeat (first | exact hs_eq _ _ _ | refine hs_ne (by omega) ?_ | assumption)), (by repeat (first | exact hs_eq _ _ _ | refine hs_ne (by omega) ?_ | assumption))⟩⟩, Fr.tr hFa (fun aaa haa => by repeat (first | rfl | refine hs_ne (by omega) ?_))⟩)
                            | exact Or.inr (Or.inr ⟨⟨hkl ▸ hpf, by rw [hkl]; omega, by rw [hkl]; omega⟩, by rw [hkl]; omega, rfl, ⟨_, _, _, ⟨(by repeat (first | exact hs_eq _ _ _ | refine hs_ne (by omega) ?_ | assumption)), (by repeat (first | exact hs_eq _ _ _ | refine hs_ne (by omega) ?_ | assumption)), (by repeat (first | exact hs_eq _ _ _ | refine hs_ne (by omega) ?_ | assumption)), (by repeat (first | exact hs_eq _ _ _ | refine hs_ne (by omega) ?_ | assumption)), (by repeat (first | exact hs_eq _ _ _ | refine hs_ne (by omega) ?_ | assumption)), (by repeat (first | exact hs_eq _ _ _ | refine hs_ne (by omega) ?_ | assumption))⟩⟩, Fr.tr hFa (fun aaa haa => by repeat (first | rfl | refine hs_ne (by omega) ?_))⟩)))
                  · try (exfalso; omega)
                    all_goals (
                      refine k_iconst C dX8_load_61 ?_
                      refine k_goto (tgt := 66) C dX8_load_62 (by decide) ?_
                      refine k_put C (k := 5) inX8 tyX8_ok nmX8 (ci := 8) rfl (by decide) fl_X8_25 rfl (Nat.le_of_ble_eq_true rfl) dX8_load_66 (by repeat (first | exact hs_eq _ _ _ | refine hs_ne (by omega) ?_ | assumption)) ?_
                      refine k_aload_n C dX8_load_69 rfl ?_
                      refine k_get C (k := 5) inX8 (ci := 8) rfl (by decide) fl_X8_25 dX8_load_70 (by repeat (first | exact hs_eq _ _ _ | refine hs_ne (by omega) ?_ | assumption)) rfl ?_
                      refine k_if_le (tgt := 78) C dX8_load_73 (by decide) ⟨by omega, by omega⟩ (fun c73 => ?_) (fun c73 => ?_)
                      · try (exfalso; omega)
                        all_goals (
                          refine k_aload_n C dX8_load_78 rfl ?_
                          refine k_callV C (n := 0) (as := []) (ct_X8_save l D tc base oo zrr hhi htx has (pS htx hro nn).2.2 st ln 0 (pS htx hro nn).1 (pS htx hro nn).2.1 hsh _ ⟨(by repeat (first | exact hs_eq _ _ _ | refine hs_ne (by omega) ?_ | assumption)), (by repeat (first | exact hs_eq _ _ _ | refine hs_ne (by omega) ?_ | assumption)), (by repeat (first | exact hs_eq _ _ _ | refine hs_ne (by omega) ?_ | assumption)), (by repeat (first | exact hs_eq _ _ _ | refine hs_ne (by omega) ?_ | assumption)), (by repeat (first | exact hs_eq _ _ _ | refine hs_ne (by omega) ?_ | assumption)), (by repeat (first | exact hs_eq _ _ _ | refine hs_ne (by omega) ?_ | assumption))⟩ hst) ml_X8_102 im_X8_save se_X8_save ini_X8 co_X8_save ⟨rfl, by decide, by decide, by decide +kernel⟩ rfl (ci := 8) rfl (by repeat (first | exact hs_eq _ _ _ | refine hs_ne (by omega) ?_ | assumption)) ⟨by decide, by decide⟩ rfl (Nat.le_of_ble_eq_true rfl) ⟨Nat.zero_le _, Nat.zero_le _⟩ dX8_load_79 ?_
                          rintro _ hsv ⟨rfl, hM1, hF1⟩
                          obtain ⟨k0, k1, k2, k3, k4, k5⟩ := id hM1
                          refine k_aload_n C dX8_load_82 rfl ?_
                          refine k_iconst C dX8_load_83 ?_
                          refine k_put C (k := 3) inX8 tyX8_ok nmX8 (ci := 8) rfl (by decide) fl_X8_126 rfl (Nat.le_of_ble_eq_true rfl) dX8_load_84 (by repeat (first | exact hs_eq _ _ _ | refine hs_ne (by omega) ?_ | assumption)) ?_
                          refine k_aload_n C dX8_load_87 rfl ?_
                          refine k_get C (k := 0) inX8 (ci := 8) rfl (by decide) fl_X8_7 dX8_load_88 (by repeat (first | exact hs_eq _ _ _ | refine hs_ne (by omega) ?_ | assumption)) rfl ?_
                          refine k_bipush C dX8_load_91 (by decide +kernel) ?_
                          refine k_iconst C dX8_load_93 ?_
                          refine k_iastore C dX8_load_94 (by repeat (first | exact hs_eq _ _ _ | refine hs_ne (by omega) ?_ | assumption)) (by omega) (by omega) (by omega) ?_
                          refine k_iconst C dX8_load_95 ?_
                          refine k_istore_n C dX8_load_96 (by decide) rfl ?_
                          have loop97 : ∀ (n : Nat) (kk : Nat) (hkk : AH), (kk : Int) ≤ (pS htx hro nn).1 + 1 → MA hkk oo (zLd zrr (pS htx hro nn).2.2 kk) (sHi zrr hhi st) htx has (pS htx hro nn).2.2 (sSt st) 0 0 (pS htx hro nn).1 (pS htx hro nn).2.1 hsh → Fr hpp hkk oo 6 → (pS htx hro nn).1 + 1 - kk < (n : Int) → Wk D tc base 3 p l e (lvR 6) s m args below meth c 0 0 (MQ below (Qx D tc base (fun r h' => (pWhole htx hro ln.toNat ∧ (pS htx hro ln.toNat).1 + 1 ≤ 6 ∧ r = some (aI ((pS htx hro ln.toNat).1 + 1)) ∧ MA h' oo (zLd zrr (pS htx hro ln.toNat).2.2 ((pS htx hro ln.toNat).1 + 1).toNat) (sHi zrr hhi st) htx has (pS htx hro ln.toNat).2.2 (sSt st) 0 0 (pS htx hro ln.toNat).1 (pS htx hro ln.toNat).2.1 hsh ∧ Fr hpp h' oo 6) ∨ (¬ pWhole htx hro ln.toNat ∧ r = some (aI 0) ∧ (∃ (rex dux : Int) (hrx : Int → Int), MA h' oo zrr hhi htx has hrx st ln 1 rex dux hsh) ∧ Fr hpp h' oo 6) ∨ (pWhole htx hro ln.toNat ∧ ¬ (pS htx hro ln.toNat).1 + 1 ≤ 6 ∧ r = some (aI 0) ∧ (∃ (rex dux : Int) (hrx : Int → Int), MA h' oo zrr hhi htx has hrx st ln 2 rex dux hsh) ∧ Fr hpp h' oo 6))) args s 0 0 (fun q => base ≤ q)) 97 [some (aR oo), some (aI 1), some (aI kk)] [] hkk := by
                            intro n
                            induction n with
                            | zero =>
                              intro kk hkk hk hMk hFk hmu
                              exfalso
                              omega
                            | succ n ih =>
                              intro kk hkk hk hMk hFk hmu
                              have hz21 := zLd_21 (z := zrr) (ro := (pS htx hro nn).2.2) (k := kk)
                              obtain ⟨y0, y1, y2, y3, y4, y5⟩ := id hMk
                              refine k_iload_n C dX8_load_97 rfl ?_
                              refine k_aload_n C dX8_load_98 rfl ?_
                              refine k_get C (k := 8) inX8 (ci := 8) rfl (by decide) fl_X8_129 dX8_load_99 (by repeat (first | exact hs_eq _ _ _ | refine hs_ne (by omega) ?_ | assumption)) rfl ?_
                              refine k_icmp_gt (tgt := 143) C dX8_load_102 (by decide) ⟨by omega, by omega⟩ ⟨by omega, by omega⟩ (fun c102 => ?_) (fun c102 => ?_)
                              · try (exfalso; omega)
                                all_goals (
                                  refine k_aload_n C dX8_load_143 rfl ?_
                                  refine k_get C (k := 0) inX8 (ci := 8) rfl (by decide) fl_X8_7 dX8_load_144 (by repeat (first | exact hs_eq _ _ _ | refine hs_ne (by omega) ?_ | assumption)) rfl ?_
                                  refine k_bipush C dX8_load_147 (by decide +kernel) ?_
                                  refine k_iaload C dX8_load_149 (by repeat (first | exact hs_eq _ _ _ | refine hs_ne (by omega) ?_ | assumption)) (by omega) (by omega) (by omega) ?_
                                  refine k_iret C hr dX8_load_150 ?_
                                  first
                                    | (have hkk2 : ((pS htx hro nn).1 + 1).toNat = kk := by omega
                                       rw [hkl]
                                       exact Or.inl ⟨⟨hpf, by omega, by omega⟩, by omega, congrArg (fun qq => some (aI qq)) (by omega), by rw [hkk2]; exact hMk, hFk⟩)
                                    | exact Or.inr (Or.inl ⟨fun hpw => by obtain ⟨x1, x2, x3⟩ := hpw; first | omega | (rw [hkl] at x2 x3; omega) | exact hno (by omega) (x1 nn (by omega)), rfl, ⟨_, _, _, ⟨(by repeat (first | exact hs_eq _ _ _ | refine hs_ne (by omega) ?_ | assumption)), (by repeat (first | exact hs_eq _ _ _ | refine hs_ne (by omega) ?_ | assumption)), (by repeat (first | exact hs_eq _ _ _ | refine hs_ne (by omega) ?_ | assumption)), (by repeat (first | exact hs_eq _ _ _ | refine hs_ne (by omega) ?_ | assumption)), (by repeat (first | exact hs_eq _ _ _ | refine hs_ne (by omega) ?_ | assumption)), (by repeat (first | exact hs_eq _ _ _ | refine hs_ne (by omega) ?_ | assumption))⟩⟩, Fr.tr hFa (fun aaa haa => by repeat (first | rfl | refine hs_ne (by omega) ?_))⟩)
                                    | exact Or.inr (Or.inr ⟨⟨hkl ▸ hpf, by rw [hkl]; omega, by rw [hkl]; omega⟩, by rw [hkl]; omega, rfl, ⟨_, _, _, ⟨(by repeat (first | exact hs_eq _ _ _ | refine hs_ne (by omega) ?_ | assumption)), (by repeat (first | exact hs_eq _ _ _ | refine hs_ne (by omega) ?_ | assumption)), (by repeat (first | exact hs_eq _ _ _ | refine hs_ne (by omega) ?_ | assumption)), (by repeat (first | exact hs_eq _ _ _ | refine hs_ne (by omega) ?_ | assumption)), (by repeat (first | exact hs_eq _ _ _ | refine hs_ne (by omega) ?_ | assumption)), (by repeat (first | exact hs_eq _ _ _ | refine hs_ne (by omega) ?_ | assumption))⟩⟩, Fr.tr hFa (fun aaa haa => by repeat (first | rfl | refine hs_ne (by omega) ?_))⟩))
                              · try (exfalso; omega)
                                all_goals (
                                  refine k_aload_n C dX8_load_105 rfl ?_
                                  refine k_aload_n C dX8_load_106 rfl ?_
                                  refine k_get C (k := 7) inX8 (ci := 8) rfl (by decide) fl_X8_22 dX8_load_107 (by repeat (first | exact hs_eq _ _ _ | refine hs_ne (by omega) ?_ | assumption)) rfl ?_
                                  refine k_iconst C dX8_load_110 ?_
                                  refine k_iload_n C dX8_load_111 rfl ?_
                                  refine k_imul C dX8_load_112 ?_
                                  refine k_iaload C dX8_load_113 (by repeat (first | exact hs_eq _ _ _ | refine hs_ne (by omega) ?_ | assumption)) (by omega) (by omega) (by omega) ?_
                                  refine k_aload_n C dX8_load_114 rfl ?_
                                  refine k_get C (k := 7) inX8 (ci := 8) rfl (by decide) fl_X8_22 dX8_load_115 (by repeat (first | exact hs_eq _ _ _ | refine hs_ne (by omega) ?_ | assumption)) rfl ?_
                                  refine k_iconst C dX8_load_118 ?_
                                  refine k_iload_n C dX8_load_119 rfl ?_
                                  refine k_imul C dX8_load_120 ?_
                                  refine k_iconst C dX8_load_121 ?_
                                  refine k_iadd C dX8_load_122 ?_
                                  refine k_iaload C dX8_load_123 (by repeat (first | exact hs_eq _ _ _ | refine hs_ne (by omega) ?_ | assumption)) (by omega) (by omega) (by omega) ?_
                                  refine k_aload_n C dX8_load_124 rfl ?_
                                  refine k_get C (k := 7) inX8 (ci := 8) rfl (by decide) fl_X8_22 dX8_load_125 (by repeat (first | exact hs_eq _ _ _ | refine hs_ne (by omega) ?_ | assumption)) rfl ?_
                                  refine k_iconst C dX8_load_128 ?_
                                  refine k_iload_n C dX8_load_129 rfl ?_
                                  refine k_imul C dX8_load_130 ?_
                                  refine k_iconst C dX8_load_131 ?_
                                  refine k_iadd C dX8_load_132 ?_
                                  refine k_iaload C dX8_load_133 (by repeat (first | exact hs_eq _ _ _ | refine hs_ne (by omega) ?_ | assumption)) (by omega) (by omega) (by omega) ?_
                                  refine k_callV C (n := 3) (as := [_, _, _]) (ct_X8_comes l D tc base oo (zLd zrr (pS htx hro nn).2.2 kk) _ _ _ _ _ _ _ _ _ _ _ hMk _ _ _ ⟨by omega, by omega⟩) ml_X8_115 im_X8_comes se_X8_comes ini_X8 co_X8_comes ⟨rfl, by decide, by decide, by decide +kernel⟩ rfl (ci := 8) rfl (by repeat (first | exact hs_eq _ _ _ | refine hs_ne (by omega) ?_ | assumption)) ⟨by decide, by decide⟩ rfl (Nat.le_of_ble_eq_true rfl) ⟨Nat.zero_le _, Nat.zero_le _⟩ dX8_load_134 ?_
                                  rintro _ hcc ⟨rfl, hM2, hF2⟩
                                  refine k_iinc C dX8_load_137 rfl (by decide) rfl ?_
                                  refine k_goto (tgt := 97) C dX8_load_140 (by decide) ?_
                                  have e2 : ((kk + 1 : Nat) : Int) = (kk : Int) + 1 := by omega
                                  have q1 := ih (kk + 1) _ (by omega) hM2 (hFk.tr hF2) (by omega)
                                  rw [e2] at q1
                                  exact q1)
                          exact loop97 ((pS htx hro nn).1 + 2).toNat 0 _ (by omega) ⟨(by repeat (first | exact hs_eq _ _ _ | refine hs_ne (by omega) ?_ | assumption)), (by repeat (first | exact hs_eq _ _ _ | refine hs_ne (by omega) ?_ | assumption)), (by repeat (first | exact hs_eq _ _ _ | refine hs_ne (by omega) ?_ | assumption)), (by repeat (first | exact hs_eq _ _ _ | refine hs_ne (by omega) ?_ | assumption)), (by repeat (first | exact hs_eq _ _ _ | refine hs_ne (by omega) ?_ | assumption)), (by repeat (first | exact hs_eq _ _ _ | refine hs_ne (by omega) ?_ | assumption))⟩ (Fr.tr (Fr.tr (Fr.tr hFa (fun aaa haa => by repeat (first | rfl | refine hs_ne (by omega) ?_))) hF1) (fun aaa haa => by repeat (first | rfl | refine hs_ne (by omega) ?_))) (by omega))
                      · try (exfalso; omega)
                        all_goals (
                          refine k_iconst C dX8_load_76 ?_
                          refine k_iret C hr dX8_load_77 ?_
                          first
                            | (have hkk2 : ((pS htx hro nn).1 + 1).toNat = kk := by omega
                               rw [hkl]
                               exact Or.inl ⟨⟨hpf, by omega, by omega⟩, by omega, congrArg (fun qq => some (aI qq)) (by omega), by rw [hkk2]; exact hMk, hFk⟩)
                            | exact Or.inr (Or.inl ⟨fun hpw => by obtain ⟨x1, x2, x3⟩ := hpw; first | omega | (rw [hkl] at x2 x3; omega) | exact hno (by omega) (x1 nn (by omega)), rfl, ⟨_, _, _, ⟨(by repeat (first | exact hs_eq _ _ _ | refine hs_ne (by omega) ?_ | assumption)), (by repeat (first | exact hs_eq _ _ _ | refine hs_ne (by omega) ?_ | assumption)), (by repeat (first | exact hs_eq _ _ _ | refine hs_ne (by omega) ?_ | assumption)), (by repeat (first | exact hs_eq _ _ _ | refine hs_ne (by omega) ?_ | assumption)), (by repeat (first | exact hs_eq _ _ _ | refine hs_ne (by omega) ?_ | assumption)), (by repeat (first | exact hs_eq _ _ _ | refine hs_ne (by omega) ?_ | assumption))⟩⟩, Fr.tr hFa (fun aaa haa => by repeat (first | rfl | refine hs_ne (by omega) ?_))⟩)
                            | exact Or.inr (Or.inr ⟨⟨hkl ▸ hpf, by rw [hkl]; omega, by rw [hkl]; omega⟩, by rw [hkl]; omega, rfl, ⟨_, _, _, ⟨(by repeat (first | exact hs_eq _ _ _ | refine hs_ne (by omega) ?_ | assumption)), (by repeat (first | exact hs_eq _ _ _ | refine hs_ne (by omega) ?_ | assumption)), (by repeat (first | exact hs_eq _ _ _ | refine hs_ne (by omega) ?_ | assumption)), (by repeat (first | exact hs_eq _ _ _ | refine hs_ne (by omega) ?_ | assumption)), (by repeat (first | exact hs_eq _ _ _ | refine hs_ne (by omega) ?_ | assumption)), (by repeat (first | exact hs_eq _ _ _ | refine hs_ne (by omega) ?_ | assumption))⟩⟩, Fr.tr hFa (fun aaa haa => by repeat (first | rfl | refine hs_ne (by omega) ?_))⟩))))
              · try (exfalso; omega)
                all_goals (
                  refine k_iconst C dX8_load_46 ?_
                  refine k_goto (tgt := 66) C dX8_load_47 (by decide) ?_
                  refine k_put C (k := 5) inX8 tyX8_ok nmX8 (ci := 8) rfl (by decide) fl_X8_25 rfl (Nat.le_of_ble_eq_true rfl) dX8_load_66 (by repeat (first | exact hs_eq _ _ _ | refine hs_ne (by omega) ?_ | assumption)) ?_
                  refine k_aload_n C dX8_load_69 rfl ?_
                  refine k_get C (k := 5) inX8 (ci := 8) rfl (by decide) fl_X8_25 dX8_load_70 (by repeat (first | exact hs_eq _ _ _ | refine hs_ne (by omega) ?_ | assumption)) rfl ?_
                  refine k_if_le (tgt := 78) C dX8_load_73 (by decide) ⟨by omega, by omega⟩ (fun c73 => ?_) (fun c73 => ?_)
                  · try (exfalso; omega)
                    all_goals (
                      refine k_aload_n C dX8_load_78 rfl ?_
                      refine k_callV C (n := 0) (as := []) (ct_X8_save l D tc base oo zrr hhi htx has (pS htx hro nn).2.2 st ln 0 (pS htx hro nn).1 (pS htx hro nn).2.1 hsh _ ⟨(by repeat (first | exact hs_eq _ _ _ | refine hs_ne (by omega) ?_ | assumption)), (by repeat (first | exact hs_eq _ _ _ | refine hs_ne (by omega) ?_ | assumption)), (by repeat (first | exact hs_eq _ _ _ | refine hs_ne (by omega) ?_ | assumption)), (by repeat (first | exact hs_eq _ _ _ | refine hs_ne (by omega) ?_ | assumption)), (by repeat (first | exact hs_eq _ _ _ | refine hs_ne (by omega) ?_ | assumption)), (by repeat (first | exact hs_eq _ _ _ | refine hs_ne (by omega) ?_ | assumption))⟩ hst) ml_X8_102 im_X8_save se_X8_save ini_X8 co_X8_save ⟨rfl, by decide, by decide, by decide +kernel⟩ rfl (ci := 8) rfl (by repeat (first | exact hs_eq _ _ _ | refine hs_ne (by omega) ?_ | assumption)) ⟨by decide, by decide⟩ rfl (Nat.le_of_ble_eq_true rfl) ⟨Nat.zero_le _, Nat.zero_le _⟩ dX8_load_79 ?_
                      rintro _ hsv ⟨rfl, hM1, hF1⟩
                      obtain ⟨k0, k1, k2, k3, k4, k5⟩ := id hM1
                      refine k_aload_n C dX8_load_82 rfl ?_
                      refine k_iconst C dX8_load_83 ?_
                      refine k_put C (k := 3) inX8 tyX8_ok nmX8 (ci := 8) rfl (by decide) fl_X8_126 rfl (Nat.le_of_ble_eq_true rfl) dX8_load_84 (by repeat (first | exact hs_eq _ _ _ | refine hs_ne (by omega) ?_ | assumption)) ?_
                      refine k_aload_n C dX8_load_87 rfl ?_
                      refine k_get C (k := 0) inX8 (ci := 8) rfl (by decide) fl_X8_7 dX8_load_88 (by repeat (first | exact hs_eq _ _ _ | refine hs_ne (by omega) ?_ | assumption)) rfl ?_
                      refine k_bipush C dX8_load_91 (by decide +kernel) ?_
                      refine k_iconst C dX8_load_93 ?_
                      refine k_iastore C dX8_load_94 (by repeat (first | exact hs_eq _ _ _ | refine hs_ne (by omega) ?_ | assumption)) (by omega) (by omega) (by omega) ?_
                      refine k_iconst C dX8_load_95 ?_
                      refine k_istore_n C dX8_load_96 (by decide) rfl ?_
                      have loop97 : ∀ (n : Nat) (kk : Nat) (hkk : AH), (kk : Int) ≤ (pS htx hro nn).1 + 1 → MA hkk oo (zLd zrr (pS htx hro nn).2.2 kk) (sHi zrr hhi st) htx has (pS htx hro nn).2.2 (sSt st) 0 0 (pS htx hro nn).1 (pS htx hro nn).2.1 hsh → Fr hpp hkk oo 6 → (pS htx hro nn).1 + 1 - kk < (n : Int) → Wk D tc base 3 p l e (lvR 6) s m args below meth c 0 0 (MQ below (Qx D tc base (fun r h' => (pWhole htx hro ln.toNat ∧ (pS htx hro ln.toNat).1 + 1 ≤ 6 ∧ r = some (aI ((pS htx hro ln.toNat).1 + 1)) ∧ MA h' oo (zLd zrr (pS htx hro ln.toNat).2.2 ((pS htx hro ln.toNat).1 + 1).toNat) (sHi zrr hhi st) htx has (pS htx hro ln.toNat).2.2 (sSt st) 0 0 (pS htx hro ln.toNat).1 (pS htx hro ln.toNat).2.1 hsh ∧ Fr hpp h' oo 6) ∨ (¬ pWhole htx hro ln.toNat ∧ r = some (aI 0) ∧ (∃ (rex dux : Int) (hrx : Int → Int), MA h' oo zrr hhi htx has hrx st ln 1 rex dux hsh) ∧ Fr hpp h' oo 6) ∨ (pWhole htx hro ln.toNat ∧ ¬ (pS htx hro ln.toNat).1 + 1 ≤ 6 ∧ r = some (aI 0) ∧ (∃ (rex dux : Int) (hrx : Int → Int), MA h' oo zrr hhi htx has hrx st ln 2 rex dux hsh) ∧ Fr hpp h' oo 6))) args s 0 0 (fun q => base ≤ q)) 97 [some (aR oo), some (aI 1), some (aI kk)] [] hkk := by
                        intro n
                        induction n with
                        | zero =>
                          intro kk hkk hk hMk hFk hmu
                          exfalso
                          omega
                        | succ n ih =>
                          intro kk hkk hk hMk hFk hmu
                          have hz21 := zLd_21 (z := zrr) (ro := (pS htx hro nn).2.2) (k := kk)
                          obtain ⟨y0, y1, y2, y3, y4, y5⟩ := id hMk
                          refine k_iload_n C dX8_load_97 rfl ?_
                          refine k_aload_n C dX8_load_98 rfl ?_
                          refine k_get C (k := 8) inX8 (ci := 8) rfl (by decide) fl_X8_129 dX8_load_99 (by repeat (first | exact hs_eq _ _ _ | refine hs_ne (by omega) ?_ | assumption)) rfl ?_
                          refine k_icmp_gt (tgt := 143) C dX8_load_102 (by decide) ⟨by omega, by omega⟩ ⟨by omega, by omega⟩ (fun c102 => ?_) (fun c102 => ?_)
                          · try (exfalso; omega)
                            all_goals (
                              refine k_aload_n C dX8_load_143 rfl ?_
                              refine k_get C (k := 0) inX8 (ci := 8) rfl (by decide) fl_X8_7 dX8_load_144 (by repeat (first | exact hs_eq _ _ _ | refine hs_ne (by omega) ?_ | assumption)) rfl ?_
                              refine k_bipush C dX8_load_147 (by decide +kernel) ?_
                              refine k_iaload C dX8_load_149 (by repeat (first | exact hs_eq _ _ _ | refine hs_ne (by omega) ?_ | assumption)) (by omega) (by omega) (by omega) ?_
                              refine k_iret C hr dX8_load_150 ?_
                              first
                                | (have hkk2 : ((pS htx hro nn).1 + 1).toNat = kk := by omega
                                   rw [hkl]
                                   exact Or.inl ⟨⟨hpf, by omega, by omega⟩, by omega, congrArg (fun qq => some (aI qq)) (by omega), by rw [hkk2]; exact hMk, hFk⟩)
                                | exact Or.inr (Or.inl ⟨fun hpw => by obtain ⟨x1, x2, x3⟩ := hpw; first | omega | (rw [hkl] at x2 x3; omega) | exact hno (by omega) (x1 nn (by omega)), rfl, ⟨_, _, _, ⟨(by repeat (first | exact hs_eq _ _ _ | refine hs_ne (by omega) ?_ | assumption)), (by repeat (first | exact hs_eq _ _ _ | refine hs_ne (by omega) ?_ | assumption)), (by repeat (first | exact hs_eq _ _ _ | refine hs_ne (by omega) ?_ | assumption)), (by repeat (first | exact hs_eq _ _ _ | refine hs_ne (by omega) ?_ | assumption)), (by repeat (first | exact hs_eq _ _ _ | refine hs_ne (by omega) ?_ | assumption)), (by repeat (first | exact hs_eq _ _ _ | refine hs_ne (by omega) ?_ | assumption))⟩⟩, Fr.tr hFa (fun aaa haa => by repeat (first | rfl | refine hs_ne (by omega) ?_))⟩)
                                | exact Or.inr (Or.inr ⟨⟨hkl ▸ hpf, by rw [hkl]; omega, by rw [hkl]; omega⟩, by rw [hkl]; omega, rfl, ⟨_, _, _, ⟨(by repeat (first | exact hs_eq _ _ _ | refine hs_ne (by omega) ?_ | assumption)), (by repeat (first | exact hs_eq _ _ _ | refine hs_ne (by omega) ?_ | assumption)), (by repeat (first | exact hs_eq _ _ _ | refine hs_ne (by omega) ?_ | assumption)), (by repeat (first | exact hs_eq _ _ _ | refine hs_ne (by omega) ?_ | assumption)), (by repeat (first | exact hs_eq _ _ _ | refine hs_ne (by omega) ?_ | assumption)), (by repeat (first | exact hs_eq _ _ _ | refine hs_ne (by omega) ?_ | assumption))⟩⟩, Fr.tr hFa (fun aaa haa => by repeat (first | rfl | refine hs_ne (by omega) ?_))⟩))
                          · try (exfalso; omega)
                            all_goals (
                              refine k_aload_n C dX8_load_105 rfl ?_
                              refine k_aload_n C dX8_load_106 rfl ?_
                              refine k_get C (k := 7) inX8 (ci := 8) rfl (by decide) fl_X8_22 dX8_load_107 (by repeat (first | exact hs_eq _ _ _ | refine hs_ne (by omega) ?_ | assumption)) rfl ?_
                              refine k_iconst C dX8_load_110 ?_
                              refine k_iload_n C dX8_load_111 rfl ?_
                              refine k_imul C dX8_load_112 ?_
                              refine k_iaload C dX8_load_113 (by repeat (first | exact hs_eq _ _ _ | refine hs_ne (by omega) ?_ | assumption)) (by omega) (by omega) (by omega) ?_
                              refine k_aload_n C dX8_load_114 rfl ?_
                              refine k_get C (k := 7) inX8 (ci := 8) rfl (by decide) fl_X8_22 dX8_load_115 (by repeat (first | exact hs_eq _ _ _ | refine hs_ne (by omega) ?_ | assumption)) rfl ?_
                              refine k_iconst C dX8_load_118 ?_
                              refine k_iload_n C dX8_load_119 rfl ?_
                              refine k_imul C dX8_load_120 ?_
                              refine k_iconst C dX8_load_121 ?_
                              refine k_iadd C dX8_load_122 ?_
                              refine k_iaload C dX8_load_123 (by repeat (first | exact hs_eq _ _ _ | refine hs_ne (by omega) ?_ | assumption)) (by omega) (by omega) (by omega) ?_
                              refine k_aload_n C dX8_load_124 rfl ?_
                              refine k_get C (k := 7) inX8 (ci := 8) rfl (by decide) fl_X8_22 dX8_load_125 (by repeat (first | exact hs_eq _ _ _ | refine hs_ne (by omega) ?_ | assumption)) rfl ?_
                              refine k_iconst C dX8_load_128 ?_
                              refine k_iload_n C dX8_load_129 rfl ?_
                              refine k_imul C dX8_load_130 ?_
                              refine k_iconst C dX8_load_131 ?_
                              refine k_iadd C dX8_load_132 ?_
                              refine k_iaload C dX8_load_133 (by repeat (first | exact hs_eq _ _ _ | refine hs_ne (by omega) ?_ | assumption)) (by omega) (by omega) (by omega) ?_
                              refine k_callV C (n := 3) (as := [_, _, _]) (ct_X8_comes l D tc base oo (zLd zrr (pS htx hro nn).2.2 kk) _ _ _ _ _ _ _ _ _ _ _ hMk _ _ _ ⟨by omega, by omega⟩) ml_X8_115 im_X8_comes se_X8_comes ini_X8 co_X8_comes ⟨rfl, by decide, by decide, by decide +kernel⟩ rfl (ci := 8) rfl (by repeat (first | exact hs_eq _ _ _ | refine hs_ne (by omega) ?_ | assumption)) ⟨by decide, by decide⟩ rfl (Nat.le_of_ble_eq_true rfl) ⟨Nat.zero_le _, Nat.zero_le _⟩ dX8_load_134 ?_
                              rintro _ hcc ⟨rfl, hM2, hF2⟩
                              refine k_iinc C dX8_load_137 rfl (by decide) rfl ?_
                              refine k_goto (tgt := 97) C dX8_load_140 (by decide) ?_
                              have e2 : ((kk + 1 : Nat) : Int) = (kk : Int) + 1 := by omega
                              have q1 := ih (kk + 1) _ (by omega) hM2 (hFk.tr hF2) (by omega)
                              rw [e2] at q1
                              exact q1)
                      exact loop97 ((pS htx hro nn).1 + 2).toNat 0 _ (by omega) ⟨(by repeat (first | exact hs_eq _ _ _ | refine hs_ne (by omega) ?_ | assumption)), (by repeat (first | exact hs_eq _ _ _ | refine hs_ne (by omega) ?_ | assumption)), (by repeat (first | exact hs_eq _ _ _ | refine hs_ne (by omega) ?_ | assumption)), (by repeat (first | exact hs_eq _ _ _ | refine hs_ne (by omega) ?_ | assumption)), (by repeat (first | exact hs_eq _ _ _ | refine hs_ne (by omega) ?_ | assumption)), (by repeat (first | exact hs_eq _ _ _ | refine hs_ne (by omega) ?_ | assumption))⟩ (Fr.tr (Fr.tr (Fr.tr hFa (fun aaa haa => by repeat (first | rfl | refine hs_ne (by omega) ?_))) hF1) (fun aaa haa => by repeat (first | rfl | refine hs_ne (by omega) ?_))) (by omega))
                  · try (exfalso; omega)
                    all_goals (
                      refine k_iconst C dX8_load_76 ?_
                      refine k_iret C hr dX8_load_77 ?_
                      first
                        | (have hkk2 : ((pS htx hro nn).1 + 1).toNat = kk := by omega
                           rw [hkl]
                           exact Or.inl ⟨⟨hpf, by omega, by omega⟩, by omega, congrArg (fun qq => some (aI qq)) (by omega), by rw [hkk2]; exact hMk, hFk⟩)
                        | exact Or.inr (Or.inl ⟨fun hpw => by obtain ⟨x1, x2, x3⟩ := hpw; first | omega | (rw [hkl] at x2 x3; omega) | exact hno (by omega) (x1 nn (by omega)), rfl, ⟨_, _, _, ⟨(by repeat (first | exact hs_eq _ _ _ | refine hs_ne (by omega) ?_ | assumption)), (by repeat (first | exact hs_eq _ _ _ | refine hs_ne (by omega) ?_ | assumption)), (by repeat (first | exact hs_eq _ _ _ | refine hs_ne (by omega) ?_ | assumption)), (by repeat (first | exact hs_eq _ _ _ | refine hs_ne (by omega) ?_ | assumption)), (by repeat (first | exact hs_eq _ _ _ | refine hs_ne (by omega) ?_ | assumption)), (by repeat (first | exact hs_eq _ _ _ | refine hs_ne (by omega) ?_ | assumption))⟩⟩, Fr.tr hFa (fun aaa haa => by repeat (first | rfl | refine hs_ne (by omega) ?_))⟩)
                        | exact Or.inr (Or.inr ⟨⟨hkl ▸ hpf, by rw [hkl]; omega, by rw [hkl]; omega⟩, by rw [hkl]; omega, rfl, ⟨_, _, _, ⟨(by repeat (first | exact hs_eq _ _ _ | refine hs_ne (by omega) ?_ | assumption)), (by repeat (first | exact hs_eq _ _ _ | refine hs_ne (by omega) ?_ | assumption)), (by repeat (first | exact hs_eq _ _ _ | refine hs_ne (by omega) ?_ | assumption)), (by repeat (first | exact hs_eq _ _ _ | refine hs_ne (by omega) ?_ | assumption)), (by repeat (first | exact hs_eq _ _ _ | refine hs_ne (by omega) ?_ | assumption)), (by repeat (first | exact hs_eq _ _ _ | refine hs_ne (by omega) ?_ | assumption))⟩⟩, Fr.tr hFa (fun aaa haa => by repeat (first | rfl | refine hs_ne (by omega) ?_))⟩))))))
