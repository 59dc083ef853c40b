set_option maxRecDepth 20000 in
set_option maxHeartbeats 1000000 in
theorem ct_X8_standing (l : Launch) (D : va_G) (tc : Nat → ClassId) (base : Nat) (oo : Nat) (zrr hhi htx has hro : Int → Int) (st ln th re du hsh : Int) (hpp : AH) (hM : MA hpp oo zrr hhi htx has hro st ln th re du hsh) (hi : zInv zrr) (ha : zrr 18 + zrr 19 ≤ zrr 13) (h13 : zrr 13 ≤ 20000) : CT l D tc base yX8_standing cX8_standing 3 (some .int) 6 [aR oo] hpp (fun r h' => r = some (aI (zStN zrr 1501)) ∧ (∃ hax : Int → Int, MA h' oo zrr hhi htx hax hro st ln th re du hsh) ∧ Fr hpp h' oo 6) := by
  refine CT.of [some (aR oo), none, none] (by decide +kernel) rfl (Nat.le_of_ble_eq_true rfl) ?_
  intro p e s m args below meth c C hr hnm
  obtain ⟨g0, g1, g2, g3, g4, g5⟩ := id hM
  refine k_aload_n C dX8_standing_0 rfl ?_
  refine k_callV C (n := 0) (as := []) (ct_X8_layAside l D tc base oo zrr hhi htx has hro st ln th re du hsh _ hM) ml_X8_158 im_X8_layAside se_X8_layAside ini_X8 co_X8_layAside ⟨rfl, by decide, by decide, by decide +kernel⟩ rfl (ci := 8) rfl (by repeat (first | exact hs_eq _ _ _ | refine hs_ne (by omega) ?_ | assumption)) ⟨by decide, by decide⟩ rfl (Nat.le_of_ble_eq_true rfl) ⟨Nat.zero_le _, Nat.zero_le _⟩ dX8_standing_1 ?_
  rintro _ hla ⟨rfl, hM1, hF1⟩
  obtain ⟨k0, k1, k2, k3, k4, k5⟩ := id hM1
  have hla0 : hs hla (oo + 1) (eA 0 67 zrr) = hla := hs_same k1
  refine k_iconst C dX8_standing_4 ?_
  refine k_istore_n C dX8_standing_5 (by decide) rfl ?_
  refine k_iconst C dX8_standing_6 ?_
  refine k_istore_n C dX8_standing_7 (by decide) rfl ?_
  have loop8 : ∀ (n : Nat) (kk : Nat) (fnd : Int) (zzz : RZ), kk ≤ 1501 → fnd = zStN zrr kk → (fnd = -1 → zzz = zGo zrr kk) → (1501 : Int) - kk < (n : Int) → Wk D tc base 3 p l e (lvR 6) s m args below meth c 0 0 (MQ below (Qx D tc base (fun r h' => r = some (aI (zStN zrr 1501)) ∧ (∃ hax : Int → Int, MA h' oo zrr hhi htx hax hro st ln th re du hsh) ∧ Fr hpp h' oo 6)) args s 0 0 (fun q => base ≤ q)) 8 [some (aR oo), some (aI fnd), some (aI kk)] [] (hs hla (oo + 1) (eA 0 67 (zzz))) := by
    intro n
    induction n with
    | zero =>
      intro kk fnd zzz hk hfd hzz hmu
      exfalso
      omega
    | succ n ih =>
      intro kk fnd zzz hk hfd hzz hmu
      have hok := zOk_go ⟨hi, ha⟩ kk
      have hsr := zStN_rng zrr kk
      refine k_iload_n C dX8_standing_8 rfl ?_
      refine k_sipush C dX8_standing_9 (by decide +kernel) ?_
      refine k_icmp_gt (tgt := 39) C dX8_standing_12 (by decide) ⟨by omega, by omega⟩ ⟨by omega, by omega⟩ (fun c12 => ?_) (fun c12 => ?_)
      · try (exfalso; omega)
        all_goals (
          refine k_aload_n C dX8_standing_39 rfl ?_
          refine k_callV C (n := 0) (as := []) (ct_X8_layBackE l D tc base oo (zzz) hhi htx (hCp has zrr 67) hro st ln th re du hsh _ ⟨(by repeat (first | exact hs_eq _ _ _ | refine hs_ne (by omega) ?_ | assumption)), (by repeat (first | exact hs_eq _ _ _ | refine hs_ne (by omega) ?_ | assumption)), (by repeat (first | exact hs_eq _ _ _ | refine hs_ne (by omega) ?_ | assumption)), (by repeat (first | exact hs_eq _ _ _ | refine hs_ne (by omega) ?_ | assumption)), (by repeat (first | exact hs_eq _ _ _ | refine hs_ne (by omega) ?_ | assumption)), (by repeat (first | exact hs_eq _ _ _ | refine hs_ne (by omega) ?_ | assumption))⟩ zrr (fun jj h0 h1 => hCp_in h0 h1)) ml_X8_164 im_X8_layBack se_X8_layBack ini_X8 co_X8_layBack ⟨rfl, by decide, by decide, by decide +kernel⟩ rfl (ci := 8) rfl (by repeat (first | exact hs_eq _ _ _ | refine hs_ne (by omega) ?_ | assumption)) ⟨by decide, by decide⟩ rfl (Nat.le_of_ble_eq_true rfl) ⟨Nat.zero_le _, Nat.zero_le _⟩ dX8_standing_40 ?_
          rintro _ _ ⟨rfl, hM3, hF3⟩
          refine k_iload_n C dX8_standing_43 rfl ?_
          refine k_iret C hr dX8_standing_44 ?_
          refine ⟨?_, ⟨_, hM3⟩, Fr.tr (Fr.tr hF1 (fun aaa haa => by repeat (first | rfl | refine hs_ne (by omega) ?_))) hF3⟩
          refine congrArg (fun qq => some (aI qq)) ?_
          rcases Classical.em (zStN zrr kk = -1) with hc | hc
          · have e6 : kk = 1501 := by omega
            rw [hfd, e6]
          · rw [hfd, zStN_stay zrr hk hc])
      · try (exfalso; omega)
        all_goals (
          refine k_iload_n C dX8_standing_15 rfl ?_
          refine k_iconst C dX8_standing_16 ?_
          refine k_icmp_ne (tgt := 39) C dX8_standing_17 (by decide) ⟨by omega, by omega⟩ ⟨by omega, by omega⟩ (fun c17 => ?_) (fun c17 => ?_)
          · try (exfalso; omega)
            all_goals (
              refine k_aload_n C dX8_standing_39 rfl ?_
              refine k_callV C (n := 0) (as := []) (ct_X8_layBackE l D tc base oo (zzz) hhi htx (hCp has zrr 67) hro st ln th re du hsh _ ⟨(by repeat (first | exact hs_eq _ _ _ | refine hs_ne (by omega) ?_ | assumption)), (by repeat (first | exact hs_eq _ _ _ | refine hs_ne (by omega) ?_ | assumption)), (by repeat (first | exact hs_eq _ _ _ | refine hs_ne (by omega) ?_ | assumption)), (by repeat (first | exact hs_eq _ _ _ | refine hs_ne (by omega) ?_ | assumption)), (by repeat (first | exact hs_eq _ _ _ | refine hs_ne (by omega) ?_ | assumption)), (by repeat (first | exact hs_eq _ _ _ | refine hs_ne (by omega) ?_ | assumption))⟩ zrr (fun jj h0 h1 => hCp_in h0 h1)) ml_X8_164 im_X8_layBack se_X8_layBack ini_X8 co_X8_layBack ⟨rfl, by decide, by decide, by decide +kernel⟩ rfl (ci := 8) rfl (by repeat (first | exact hs_eq _ _ _ | refine hs_ne (by omega) ?_ | assumption)) ⟨by decide, by decide⟩ rfl (Nat.le_of_ble_eq_true rfl) ⟨Nat.zero_le _, Nat.zero_le _⟩ dX8_standing_40 ?_
              rintro _ _ ⟨rfl, hM3, hF3⟩
              refine k_iload_n C dX8_standing_43 rfl ?_
              refine k_iret C hr dX8_standing_44 ?_
              refine ⟨?_, ⟨_, hM3⟩, Fr.tr (Fr.tr hF1 (fun aaa haa => by repeat (first | rfl | refine hs_ne (by omega) ?_))) hF3⟩
              refine congrArg (fun qq => some (aI qq)) ?_
              rcases Classical.em (zStN zrr kk = -1) with hc | hc
              · have e6 : kk = 1501 := by omega
                rw [hfd, e6]
              · rw [hfd, zStN_stay zrr hk hc])
          · try (exfalso; omega)
            all_goals (
              have hz3 := hzz (by omega)
              subst hz3
              refine k_aload_n C dX8_standing_20 rfl ?_
              refine k_callV C (n := 0) (as := []) (ct_X8_minute l D tc base oo (oo + 1) _ _ _ (by repeat (first | exact hs_eq _ _ _ | refine hs_ne (by omega) ?_ | assumption)) (by repeat (first | exact hs_eq _ _ _ | refine hs_ne (by omega) ?_ | assumption)) (by omega) hok.1.1 hok.1.2 (by omega)) ml_X8_89 im_X8_minute se_X8_minute ini_X8 co_X8_minute ⟨rfl, by decide, by decide, by decide +kernel⟩ rfl (ci := 8) rfl (by repeat (first | exact hs_eq _ _ _ | refine hs_ne (by omega) ?_ | assumption)) ⟨by decide, by decide⟩ rfl (Nat.le_of_ble_eq_true rfl) ⟨Nat.zero_le _, Nat.zero_le _⟩ dX8_standing_21 ?_
              rintro _ _ (⟨rfl, rfl, hmi⟩ | ⟨rfl, rfl, hmi⟩)
              · skip
                simp only [hs_hs]
                refine k_if_eq (tgt := 31) C dX8_standing_24 (by decide) ⟨by omega, by omega⟩ (fun c24 => ?_) (fun c24 => ?_)
                · try (exfalso; omega)
                  all_goals (
                    refine k_iconst C dX8_standing_31 ?_
                    refine k_istore_n C dX8_standing_32 (by decide) rfl ?_
                    refine k_iinc C dX8_standing_33 rfl (by decide) rfl ?_
                    refine k_goto (tgt := 8) C dX8_standing_36 (by decide) ?_
                    have e2 : ((kk + 1 : Nat) : Int) = (kk : Int) + 1 := by omega
                    have hf1 : zStN zrr kk = -1 := by omega
                    first
                      | (have e1 : zStN zrr (kk + 1) = (kk : Int) := by
                           show (if zStN zrr kk = -1 then (if zStops zrr kk then (kk : Int) else -1) else zStN zrr kk) = _
                           rw [if_pos hf1, if_pos hmi]
                         have q1 := ih (kk + 1) (kk : Int) (zMin (zGo zrr kk)) (by omega) e1.symm (fun _ => rfl) (by omega)
                         rw [e2] at q1
                         exact q1)
                      | (have e1 : zStN zrr (kk + 1) = -1 := by
                           show (if zStN zrr kk = -1 then (if zStops zrr kk then (kk : Int) else -1) else zStN zrr kk) = _
                           rw [if_pos hf1, if_neg hmi]
                         have q1 := ih (kk + 1) (-1) (zMin (zGo zrr kk)) (by omega) e1.symm (fun _ => rfl) (by omega)
                         rw [e2] at q1
                         exact q1))
                · try (exfalso; omega)
                  all_goals (
                    refine k_iload_n C dX8_standing_27 rfl ?_
                    refine k_goto (tgt := 32) C dX8_standing_28 (by decide) ?_
                    refine k_istore_n C dX8_standing_32 (by decide) rfl ?_
                    refine k_iinc C dX8_standing_33 rfl (by decide) rfl ?_
                    refine k_goto (tgt := 8) C dX8_standing_36 (by decide) ?_
                    have e2 : ((kk + 1 : Nat) : Int) = (kk : Int) + 1 := by omega
                    have hf1 : zStN zrr kk = -1 := by omega
                    first
                      | (have e1 : zStN zrr (kk + 1) = (kk : Int) := by
                           show (if zStN zrr kk = -1 then (if zStops zrr kk then (kk : Int) else -1) else zStN zrr kk) = _
                           rw [if_pos hf1, if_pos hmi]
                         have q1 := ih (kk + 1) (kk : Int) (zMin (zGo zrr kk)) (by omega) e1.symm (fun _ => rfl) (by omega)
                         rw [e2] at q1
                         exact q1)
                      | (have e1 : zStN zrr (kk + 1) = -1 := by
                           show (if zStN zrr kk = -1 then (if zStops zrr kk then (kk : Int) else -1) else zStN zrr kk) = _
                           rw [if_pos hf1, if_neg hmi]
                         have q1 := ih (kk + 1) (-1) (zMin (zGo zrr kk)) (by omega) e1.symm (fun _ => rfl) (by omega)
                         rw [e2] at q1
                         exact q1))
              · skip
                simp only [hs_hs]
                refine k_if_eq (tgt := 31) C dX8_standing_24 (by decide) ⟨by omega, by omega⟩ (fun c24 => ?_) (fun c24 => ?_)
                · try (exfalso; omega)
                  all_goals (
                    refine k_iconst C dX8_standing_31 ?_
                    refine k_istore_n C dX8_standing_32 (by decide) rfl ?_
                    refine k_iinc C dX8_standing_33 rfl (by decide) rfl ?_
                    refine k_goto (tgt := 8) C dX8_standing_36 (by decide) ?_
                    have e2 : ((kk + 1 : Nat) : Int) = (kk : Int) + 1 := by omega
                    have hf1 : zStN zrr kk = -1 := by omega
                    first
                      | (have e1 : zStN zrr (kk + 1) = (kk : Int) := by
                           show (if zStN zrr kk = -1 then (if zStops zrr kk then (kk : Int) else -1) else zStN zrr kk) = _
                           rw [if_pos hf1, if_pos hmi]
                         have q1 := ih (kk + 1) (kk : Int) (zMin (zGo zrr kk)) (by omega) e1.symm (fun _ => rfl) (by omega)
                         rw [e2] at q1
                         exact q1)
                      | (have e1 : zStN zrr (kk + 1) = -1 := by
                           show (if zStN zrr kk = -1 then (if zStops zrr kk then (kk : Int) else -1) else zStN zrr kk) = _
                           rw [if_pos hf1, if_neg hmi]
                         have q1 := ih (kk + 1) (-1) (zMin (zGo zrr kk)) (by omega) e1.symm (fun _ => rfl) (by omega)
                         rw [e2] at q1
                         exact q1))
                · try (exfalso; omega)
                  all_goals (
                    refine k_iload_n C dX8_standing_27 rfl ?_
                    refine k_goto (tgt := 32) C dX8_standing_28 (by decide) ?_
                    refine k_istore_n C dX8_standing_32 (by decide) rfl ?_
                    refine k_iinc C dX8_standing_33 rfl (by decide) rfl ?_
                    refine k_goto (tgt := 8) C dX8_standing_36 (by decide) ?_
                    have e2 : ((kk + 1 : Nat) : Int) = (kk : Int) + 1 := by omega
                    have hf1 : zStN zrr kk = -1 := by omega
                    first
                      | (have e1 : zStN zrr (kk + 1) = (kk : Int) := by
                           show (if zStN zrr kk = -1 then (if zStops zrr kk then (kk : Int) else -1) else zStN zrr kk) = _
                           rw [if_pos hf1, if_pos hmi]
                         have q1 := ih (kk + 1) (kk : Int) (zMin (zGo zrr kk)) (by omega) e1.symm (fun _ => rfl) (by omega)
                         rw [e2] at q1
                         exact q1)
                      | (have e1 : zStN zrr (kk + 1) = -1 := by
                           show (if zStN zrr kk = -1 then (if zStops zrr kk then (kk : Int) else -1) else zStN zrr kk) = _
                           rw [if_pos hf1, if_neg hmi]
                         have q1 := ih (kk + 1) (-1) (zMin (zGo zrr kk)) (by omega) e1.symm (fun _ => rfl) (by omega)
                         rw [e2] at q1
                         exact q1))))
  have q1 := loop8 1502 0 (-1) zrr (by omega) rfl (fun _ => rfl) (by omega)
  rw [hla0] at q1
  exact q1

set_option maxRecDepth 20000 in
set_option maxHeartbeats 1000000 in
theorem ct_X8_standsIn (l : Launch) (D : va_G) (tc : Nat → ClassId) (base : Nat) (oo : Nat) (zrr hhi htx has hro : Int → Int) (st ln th re du hsh : Int) (hpp : AH) (hM : MA hpp oo zrr hhi htx has hro st ln th re du hsh) (hi : zInv zrr) (ha : zrr 18 + zrr 19 ≤ zrr 13) (h13 : zrr 13 ≤ 20000) : CT l D tc base yX8_standsIn cX8_standsIn 1 (some .int) 7 [aR oo] hpp (fun r h' => (True ∧ r = some (aI (zStN zrr 1501)) ∧ (∃ hax : Int → Int, MA h' oo (zrr) (hhi) (htx) (hax) (hro) (st) (ln) (0) (re) (du) (hsh)) ∧ Fr hpp h' oo 6)) := by
  refine CT.of [some (aR oo)] (by decide +kernel) rfl (Nat.le_of_ble_eq_true rfl) ?_
  intro p e s m args below meth c C hr hnm
  obtain ⟨g0, g1, g2, g3, g4, g5⟩ := id hM
  refine k_aload_n C dX8_standsIn_0 rfl ?_
  refine k_iconst C dX8_standsIn_1 ?_
  refine k_put C (k := 5) inX8 tyX8_ok nmX8 (ci := 8) rfl (by decide) fl_X8_25 rfl (Nat.le_of_ble_eq_true rfl) dX8_standsIn_2 (by repeat (first | exact hs_eq _ _ _ | refine hs_ne (by omega) ?_ | assumption)) ?_
  refine k_aload_n C dX8_standsIn_5 rfl ?_
  refine k_callV C (n := 0) (as := []) (ct_X8_standing l D tc base oo zrr hhi htx has hro st ln _ re du hsh _ ⟨(by repeat (first | exact hs_eq _ _ _ | refine hs_ne (by omega) ?_ | assumption)), (by repeat (first | exact hs_eq _ _ _ | refine hs_ne (by omega) ?_ | assumption)), (by repeat (first | exact hs_eq _ _ _ | refine hs_ne (by omega) ?_ | assumption)), (by repeat (first | exact hs_eq _ _ _ | refine hs_ne (by omega) ?_ | assumption)), (by repeat (first | exact hs_eq _ _ _ | refine hs_ne (by omega) ?_ | assumption)), (by repeat (first | exact hs_eq _ _ _ | refine hs_ne (by omega) ?_ | assumption))⟩ hi ha h13) ml_X8_176 im_X8_standing se_X8_standing ini_X8 co_X8_standing ⟨rfl, by decide, by decide, by decide +kernel⟩ rfl (ci := 8) rfl (by repeat (first | exact hs_eq _ _ _ | refine hs_ne (by omega) ?_ | assumption)) ⟨by decide, by decide⟩ rfl (Nat.le_of_ble_eq_true rfl) ⟨Nat.zero_le _, Nat.zero_le _⟩ dX8_standsIn_6 ?_
  rintro _ _ ⟨rfl, hx3, hF3⟩
  refine k_iret C hr dX8_standsIn_9 ?_
  exact ⟨trivial, rfl, hx3, Fr.tr (fun aaa haa => by repeat (first | rfl | refine hs_ne (by omega) ?_)) hF3⟩

set_option maxRecDepth 20000 in
set_option maxHeartbeats 1000000 in
theorem ct_X8_paid (l : Launch) (D : va_G) (tc : Nat → ClassId) (base : Nat) (oo : Nat) (zrr hhi htx has hro : Int → Int) (st ln th re du hsh : Int) (hpp : AH) (hM : MA hpp oo zrr hhi htx has hro st ln th re du hsh) (hi : zInv zrr) (ha : zrr 18 + zrr 19 ≤ zrr 13) (h13 : zrr 13 ≤ 20000) : CT l D tc base yX8_paid cX8_paid 3 (some .int) 6 [aR oo] hpp (fun r h' => r = some (aI (zPaN zrr 721)) ∧ (∃ hax : Int → Int, MA h' oo zrr hhi htx hax hro st ln th re du hsh) ∧ Fr hpp h' oo 6) := by
  refine CT.of [some (aR oo), none, none] (by decide +kernel) rfl (Nat.le_of_ble_eq_true rfl) ?_
  intro p e s m args below meth c C hr hnm
  obtain ⟨g0, g1, g2, g3, g4, g5⟩ := id hM
  refine k_aload_n C dX8_paid_0 rfl ?_
  refine k_callV C (n := 0) (as := []) (ct_X8_layAside l D tc base oo zrr hhi htx has hro st ln th re du hsh _ hM) ml_X8_158 im_X8_layAside se_X8_layAside ini_X8 co_X8_layAside ⟨rfl, by decide, by decide, by decide +kernel⟩ rfl (ci := 8) rfl (by repeat (first | exact hs_eq _ _ _ | refine hs_ne (by omega) ?_ | assumption)) ⟨by decide, by decide⟩ rfl (Nat.le_of_ble_eq_true rfl) ⟨Nat.zero_le _, Nat.zero_le _⟩ dX8_paid_1 ?_
  rintro _ hla ⟨rfl, hM1, hF1⟩
  obtain ⟨k0, k1, k2, k3, k4, k5⟩ := id hM1
  have hla0 : hs hla (oo + 1) (eA 0 67 zrr) = hla := hs_same k1
  refine k_iconst C dX8_paid_4 ?_
  refine k_istore_n C dX8_paid_5 (by decide) rfl ?_
  have loop6 : ∀ (n : Nat) (kk : Nat), kk ≤ 720 → zPaN zrr kk = -1 → (721 : Int) - kk < (n : Int) → Wk D tc base 3 p l e (lvR 6) s m args below meth c 0 0 (MQ below (Qx D tc base (fun r h' => r = some (aI (zPaN zrr 721)) ∧ (∃ hax : Int → Int, MA h' oo zrr hhi htx hax hro st ln th re du hsh) ∧ Fr hpp h' oo 6)) args s 0 0 (fun q => base ≤ q)) 6 [some (aR oo), some (aI kk), none] [] (hs hla (oo + 1) (eA 0 67 (zGo zrr kk))) := by
    intro n
    induction n with
    | zero =>
      intro kk hk hfd hmu
      exfalso
      omega
    | succ n ih =>
      intro kk hk hfd hmu
      have hok := zOk_go ⟨hi, ha⟩ kk
      have h52 := hok.1.1.1.2.2.2.2.2.2.2.2.2.1
      refine k_iload_n C dX8_paid_6 rfl ?_
      refine k_sipush C dX8_paid_7 (by decide +kernel) ?_
      refine k_icmp_ge (tgt := 34) C dX8_paid_10 (by decide) ⟨by omega, by omega⟩ ⟨by omega, by omega⟩ (fun c10 => ?_) (fun c10 => ?_)
      · try (exfalso; omega)
        all_goals (
          refine k_aload_n C dX8_paid_34 rfl ?_
          refine k_get C (k := 0) inX8 (ci := 8) rfl (by decide) fl_X8_7 dX8_paid_35 (by repeat (first | exact hs_eq _ _ _ | refine hs_ne (by omega) ?_ | assumption)) rfl ?_
          refine k_bipush C dX8_paid_38 (by decide +kernel) ?_
          refine k_iaload C dX8_paid_40 (by repeat (first | exact hs_eq _ _ _ | refine hs_ne (by omega) ?_ | assumption)) (by omega) (by omega) (by omega) ?_
          refine k_if_ne (tgt := 48) C dX8_paid_41 (by decide) ⟨by omega, by omega⟩ (fun c41 => ?_) (fun c41 => ?_)
          · try (exfalso; omega)
            all_goals (
              refine k_iconst C dX8_paid_48 ?_
              refine k_istore_n C dX8_paid_49 (by decide) rfl ?_
              refine k_aload_n C dX8_paid_50 rfl ?_
              refine k_callV C (n := 0) (as := []) (ct_X8_layBackE l D tc base oo (zGo zrr kk) hhi htx (hCp has zrr 67) hro st ln th re du hsh _ ⟨(by repeat (first | exact hs_eq _ _ _ | refine hs_ne (by omega) ?_ | assumption)), (by repeat (first | exact hs_eq _ _ _ | refine hs_ne (by omega) ?_ | assumption)), (by repeat (first | exact hs_eq _ _ _ | refine hs_ne (by omega) ?_ | assumption)), (by repeat (first | exact hs_eq _ _ _ | refine hs_ne (by omega) ?_ | assumption)), (by repeat (first | exact hs_eq _ _ _ | refine hs_ne (by omega) ?_ | assumption)), (by repeat (first | exact hs_eq _ _ _ | refine hs_ne (by omega) ?_ | assumption))⟩ zrr (fun jj h0 h1 => hCp_in h0 h1)) ml_X8_164 im_X8_layBack se_X8_layBack ini_X8 co_X8_layBack ⟨rfl, by decide, by decide, by decide +kernel⟩ rfl (ci := 8) rfl (by repeat (first | exact hs_eq _ _ _ | refine hs_ne (by omega) ?_ | assumption)) ⟨by decide, by decide⟩ rfl (Nat.le_of_ble_eq_true rfl) ⟨Nat.zero_le _, Nat.zero_le _⟩ dX8_paid_51 ?_
              rintro _ _ ⟨rfl, hM3, hF3⟩
              refine k_iload_n C dX8_paid_54 rfl ?_
              refine k_iret C hr dX8_paid_55 ?_
              refine ⟨?_, ⟨_, hM3⟩, Fr.tr (Fr.tr hF1 (fun aaa haa => by repeat (first | rfl | refine hs_ne (by omega) ?_))) hF3⟩
              refine congrArg (fun qq => some (aI qq)) ?_
              have e1 : zPaN zrr (kk + 1) = if zGo zrr kk 52 = 0 then (kk : Int) else -1 := if_pos hfd
              first
                | (rw [if_pos (by omega)] at e1
                   rw [zPaN_stay zrr (show kk + 1 ≤ 721 by omega) (by omega), e1])
                | (rw [if_neg (by omega)] at e1
                   have e6 : kk = 720 := by omega
                   subst e6
                   exact e1.symm))
          · try (exfalso; omega)
            all_goals (
              refine k_iload_n C dX8_paid_44 rfl ?_
              refine k_goto (tgt := 49) C dX8_paid_45 (by decide) ?_
              refine k_istore_n C dX8_paid_49 (by decide) rfl ?_
              refine k_aload_n C dX8_paid_50 rfl ?_
              refine k_callV C (n := 0) (as := []) (ct_X8_layBackE l D tc base oo (zGo zrr kk) hhi htx (hCp has zrr 67) hro st ln th re du hsh _ ⟨(by repeat (first | exact hs_eq _ _ _ | refine hs_ne (by omega) ?_ | assumption)), (by repeat (first | exact hs_eq _ _ _ | refine hs_ne (by omega) ?_ | assumption)), (by repeat (first | exact hs_eq _ _ _ | refine hs_ne (by omega) ?_ | assumption)), (by repeat (first | exact hs_eq _ _ _ | refine hs_ne (by omega) ?_ | assumption)), (by repeat (first | exact hs_eq _ _ _ | refine hs_ne (by omega) ?_ | assumption)), (by repeat (first | exact hs_eq _ _ _ | refine hs_ne (by omega) ?_ | assumption))⟩ zrr (fun jj h0 h1 => hCp_in h0 h1)) ml_X8_164 im_X8_layBack se_X8_layBack ini_X8 co_X8_layBack ⟨rfl, by decide, by decide, by decide +kernel⟩ rfl (ci := 8) rfl (by repeat (first | exact hs_eq _ _ _ | refine hs_ne (by omega) ?_ | assumption)) ⟨by decide, by decide⟩ rfl (Nat.le_of_ble_eq_true rfl) ⟨Nat.zero_le _, Nat.zero_le _⟩ dX8_paid_51 ?_
              rintro _ _ ⟨rfl, hM3, hF3⟩
              refine k_iload_n C dX8_paid_54 rfl ?_
              refine k_iret C hr dX8_paid_55 ?_
              refine ⟨?_, ⟨_, hM3⟩, Fr.tr (Fr.tr hF1 (fun aaa haa => by repeat (first | rfl | refine hs_ne (by omega) ?_))) hF3⟩
              refine congrArg (fun qq => some (aI qq)) ?_
              have e1 : zPaN zrr (kk + 1) = if zGo zrr kk 52 = 0 then (kk : Int) else -1 := if_pos hfd
              first
                | (rw [if_pos (by omega)] at e1
                   rw [zPaN_stay zrr (show kk + 1 ≤ 721 by omega) (by omega), e1])
                | (rw [if_neg (by omega)] at e1
                   have e6 : kk = 720 := by omega
                   subst e6
                   exact e1.symm)))
      · try (exfalso; omega)
        all_goals (
          refine k_aload_n C dX8_paid_13 rfl ?_
          refine k_get C (k := 0) inX8 (ci := 8) rfl (by decide) fl_X8_7 dX8_paid_14 (by repeat (first | exact hs_eq _ _ _ | refine hs_ne (by omega) ?_ | assumption)) rfl ?_
          refine k_bipush C dX8_paid_17 (by decide +kernel) ?_
          refine k_iaload C dX8_paid_19 (by repeat (first | exact hs_eq _ _ _ | refine hs_ne (by omega) ?_ | assumption)) (by omega) (by omega) (by omega) ?_
          refine k_if_le (tgt := 34) C dX8_paid_20 (by decide) ⟨by omega, by omega⟩ (fun c20 => ?_) (fun c20 => ?_)
          · try (exfalso; omega)
            all_goals (
              refine k_aload_n C dX8_paid_34 rfl ?_
              refine k_get C (k := 0) inX8 (ci := 8) rfl (by decide) fl_X8_7 dX8_paid_35 (by repeat (first | exact hs_eq _ _ _ | refine hs_ne (by omega) ?_ | assumption)) rfl ?_
              refine k_bipush C dX8_paid_38 (by decide +kernel) ?_
              refine k_iaload C dX8_paid_40 (by repeat (first | exact hs_eq _ _ _ | refine hs_ne (by omega) ?_ | assumption)) (by omega) (by omega) (by omega) ?_
              refine k_if_ne (tgt := 48) C dX8_paid_41 (by decide) ⟨by omega, by omega⟩ (fun c41 => ?_) (fun c41 => ?_)
              · try (exfalso; omega)
                all_goals (
                  refine k_iconst C dX8_paid_48 ?_
                  refine k_istore_n C dX8_paid_49 (by decide) rfl ?_
                  refine k_aload_n C dX8_paid_50 rfl ?_
                  refine k_callV C (n := 0) (as := []) (ct_X8_layBackE l D tc base oo (zGo zrr kk) hhi htx (hCp has zrr 67) hro st ln th re du hsh _ ⟨(by repeat (first | exact hs_eq _ _ _ | refine hs_ne (by omega) ?_ | assumption)), (by repeat (first | exact hs_eq _ _ _ | refine hs_ne (by omega) ?_ | assumption)), (by repeat (first | exact hs_eq _ _ _ | refine hs_ne (by omega) ?_ | assumption)), (by repeat (first | exact hs_eq _ _ _ | refine hs_ne (by omega) ?_ | assumption)), (by repeat (first | exact hs_eq _ _ _ | refine hs_ne (by omega) ?_ | assumption)), (by repeat (first | exact hs_eq _ _ _ | refine hs_ne (by omega) ?_ | assumption))⟩ zrr (fun jj h0 h1 => hCp_in h0 h1)) ml_X8_164 im_X8_layBack se_X8_layBack ini_X8 co_X8_layBack ⟨rfl, by decide, by decide, by decide +kernel⟩ rfl (ci := 8) rfl (by repeat (first | exact hs_eq _ _ _ | refine hs_ne (by omega) ?_ | assumption)) ⟨by decide, by decide⟩ rfl (Nat.le_of_ble_eq_true rfl) ⟨Nat.zero_le _, Nat.zero_le _⟩ dX8_paid_51 ?_
                  rintro _ _ ⟨rfl, hM3, hF3⟩
                  refine k_iload_n C dX8_paid_54 rfl ?_
                  refine k_iret C hr dX8_paid_55 ?_
                  refine ⟨?_, ⟨_, hM3⟩, Fr.tr (Fr.tr hF1 (fun aaa haa => by repeat (first | rfl | refine hs_ne (by omega) ?_))) hF3⟩
                  refine congrArg (fun qq => some (aI qq)) ?_
                  have e1 : zPaN zrr (kk + 1) = if zGo zrr kk 52 = 0 then (kk : Int) else -1 := if_pos hfd
                  first
                    | (rw [if_pos (by omega)] at e1
                       rw [zPaN_stay zrr (show kk + 1 ≤ 721 by omega) (by omega), e1])
                    | (rw [if_neg (by omega)] at e1
                       have e6 : kk = 720 := by omega
                       subst e6
                       exact e1.symm))
              · try (exfalso; omega)
                all_goals (
                  refine k_iload_n C dX8_paid_44 rfl ?_
                  refine k_goto (tgt := 49) C dX8_paid_45 (by decide) ?_
                  refine k_istore_n C dX8_paid_49 (by decide) rfl ?_
                  refine k_aload_n C dX8_paid_50 rfl ?_
                  refine k_callV C (n := 0) (as := []) (ct_X8_layBackE l D tc base oo (zGo zrr kk) hhi htx (hCp has zrr 67) hro st ln th re du hsh _ ⟨(by repeat (first | exact hs_eq _ _ _ | refine hs_ne (by omega) ?_ | assumption)), (by repeat (first | exact hs_eq _ _ _ | refine hs_ne (by omega) ?_ | assumption)), (by repeat (first | exact hs_eq _ _ _ | refine hs_ne (by omega) ?_ | assumption)), (by repeat (first | exact hs_eq _ _ _ | refine hs_ne (by omega) ?_ | assumption)), (by repeat (first | exact hs_eq _ _ _ | refine hs_ne (by omega) ?_ | assumption)), (by repeat (first | exact hs_eq _ _ _ | refine hs_ne (by omega) ?_ | assumption))⟩ zrr (fun jj h0 h1 => hCp_in h0 h1)) ml_X8_164 im_X8_layBack se_X8_layBack ini_X8 co_X8_layBack ⟨rfl, by decide, by decide, by decide +kernel⟩ rfl (ci := 8) rfl (by repeat (first | exact hs_eq _ _ _ | refine hs_ne (by omega) ?_ | assumption)) ⟨by decide, by decide⟩ rfl (Nat.le_of_ble_eq_true rfl) ⟨Nat.zero_le _, Nat.zero_le _⟩ dX8_paid_51 ?_
                  rintro _ _ ⟨rfl, hM3, hF3⟩
                  refine k_iload_n C dX8_paid_54 rfl ?_
                  refine k_iret C hr dX8_paid_55 ?_
                  refine ⟨?_, ⟨_, hM3⟩, Fr.tr (Fr.tr hF1 (fun aaa haa => by repeat (first | rfl | refine hs_ne (by omega) ?_))) hF3⟩
                  refine congrArg (fun qq => some (aI qq)) ?_
                  have e1 : zPaN zrr (kk + 1) = if zGo zrr kk 52 = 0 then (kk : Int) else -1 := if_pos hfd
                  first
                    | (rw [if_pos (by omega)] at e1
                       rw [zPaN_stay zrr (show kk + 1 ≤ 721 by omega) (by omega), e1])
                    | (rw [if_neg (by omega)] at e1
                       have e6 : kk = 720 := by omega
                       subst e6
                       exact e1.symm)))
          · try (exfalso; omega)
            all_goals (
              refine k_aload_n C dX8_paid_23 rfl ?_
              refine k_callV C (n := 0) (as := []) (ct_X8_minute l D tc base oo (oo + 1) _ _ _ (by repeat (first | exact hs_eq _ _ _ | refine hs_ne (by omega) ?_ | assumption)) (by repeat (first | exact hs_eq _ _ _ | refine hs_ne (by omega) ?_ | assumption)) (by omega) hok.1.1 hok.1.2 (by omega)) ml_X8_89 im_X8_minute se_X8_minute ini_X8 co_X8_minute ⟨rfl, by decide, by decide, by decide +kernel⟩ rfl (ci := 8) rfl (by repeat (first | exact hs_eq _ _ _ | refine hs_ne (by omega) ?_ | assumption)) ⟨by decide, by decide⟩ rfl (Nat.le_of_ble_eq_true rfl) ⟨Nat.zero_le _, Nat.zero_le _⟩ dX8_paid_24 ?_
              rintro _ _ (⟨rfl, rfl, hmi⟩ | ⟨rfl, rfl, hmi⟩)
              · skip
                simp only [hs_hs]
                refine k_istore_n C dX8_paid_27 (by decide) rfl ?_
                refine k_iinc C dX8_paid_28 rfl (by decide) rfl ?_
                refine k_goto (tgt := 6) C dX8_paid_31 (by decide) ?_
                have e2 : ((kk + 1 : Nat) : Int) = (kk : Int) + 1 := by omega
                have q1 := ih (kk + 1) (by omega) (by show (if zPaN zrr kk = -1 then (if zGo zrr kk 52 = 0 then (kk : Int) else -1) else zPaN zrr kk) = _; rw [if_pos hfd, if_neg (by omega)]) (by omega)
                rw [e2] at q1
                exact k_sub q1 (And.intro rfl (And.intro rfl trivial))
              · skip
                simp only [hs_hs]
                refine k_istore_n C dX8_paid_27 (by decide) rfl ?_
                refine k_iinc C dX8_paid_28 rfl (by decide) rfl ?_
                refine k_goto (tgt := 6) C dX8_paid_31 (by decide) ?_
                have e2 : ((kk + 1 : Nat) : Int) = (kk : Int) + 1 := by omega
                have q1 := ih (kk + 1) (by omega) (by show (if zPaN zrr kk = -1 then (if zGo zrr kk 52 = 0 then (kk : Int) else -1) else zPaN zrr kk) = _; rw [if_pos hfd, if_neg (by omega)]) (by omega)
                rw [e2] at q1
                exact k_sub q1 (And.intro rfl (And.intro rfl trivial))))
  have q1 := loop6 722 0 (by omega) rfl (by omega)
  have e0 : hs hla (oo + 1) (eA 0 67 (zGo zrr 0)) = hla := hla0
  rw [e0] at q1
  exact k_sub q1 (And.intro rfl (And.intro rfl trivial))

set_option maxRecDepth 20000 in
set_option maxHeartbeats 1000000 in
theorem ct_X8_paidIn (l : Launch) (D : va_G) (tc : Nat → ClassId) (base : Nat) (oo : Nat) (zrr hhi htx has hro : Int → Int) (st ln th re du hsh : Int) (hpp : AH) (hM : MA hpp oo zrr hhi htx has hro st ln th re du hsh) (hi : zInv zrr) (ha : zrr 18 + zrr 19 ≤ zrr 13) (h13 : zrr 13 ≤ 20000) : CT l D tc base yX8_paidIn cX8_paidIn 1 (some .int) 7 [aR oo] hpp (fun r h' => (True ∧ r = some (aI (zPaN zrr 721)) ∧ (∃ hax : Int → Int, MA h' oo (zrr) (hhi) (htx) (hax) (hro) (st) (ln) (0) (re) (du) (hsh)) ∧ Fr hpp h' oo 6)) := by
  refine CT.of [some (aR oo)] (by decide +kernel) rfl (Nat.le_of_ble_eq_true rfl) ?_
  intro p e s m args below meth c C hr hnm
  obtain ⟨g0, g1, g2, g3, g4, g5⟩ := id hM
  refine k_aload_n C dX8_paidIn_0 rfl ?_
  refine k_iconst C dX8_paidIn_1 ?_
  refine k_put C (k := 5) inX8 tyX8_ok nmX8 (ci := 8) rfl (by decide) fl_X8_25 rfl (Nat.le_of_ble_eq_true rfl) dX8_paidIn_2 (by repeat (first | exact hs_eq _ _ _ | refine hs_ne (by omega) ?_ | assumption)) ?_
  refine k_aload_n C dX8_paidIn_5 rfl ?_
  refine k_callV C (n := 0) (as := []) (ct_X8_paid l D tc base oo zrr hhi htx has hro st ln _ re du hsh _ ⟨(by repeat (first | exact hs_eq _ _ _ | refine hs_ne (by omega) ?_ | assumption)), (by repeat (first | exact hs_eq _ _ _ | refine hs_ne (by omega) ?_ | assumption)), (by repeat (first | exact hs_eq _ _ _ | refine hs_ne (by omega) ?_ | assumption)), (by repeat (first | exact hs_eq _ _ _ | refine hs_ne (by omega) ?_ | assumption)), (by repeat (first | exact hs_eq _ _ _ | refine hs_ne (by omega) ?_ | assumption)), (by repeat (first | exact hs_eq _ _ _ | refine hs_ne (by omega) ?_ | assumption))⟩ hi ha h13) ml_X8_179 im_X8_paid se_X8_paid ini_X8 co_X8_paid ⟨rfl, by decide, by decide, by decide +kernel⟩ rfl (ci := 8) rfl (by repeat (first | exact hs_eq _ _ _ | refine hs_ne (by omega) ?_ | assumption)) ⟨by decide, by decide⟩ rfl (Nat.le_of_ble_eq_true rfl) ⟨Nat.zero_le _, Nat.zero_le _⟩ dX8_paidIn_6 ?_
  rintro _ _ ⟨rfl, hx3, hF3⟩
  refine k_iret C hr dX8_paidIn_9 ?_
  exact ⟨trivial, rfl, hx3, Fr.tr (fun aaa haa => by repeat (first | rfl | refine hs_ne (by omega) ?_)) hF3⟩

set_option maxRecDepth 20000 in
set_option maxHeartbeats 1000000 in
theorem ct_X8_goesOn (l : Launch) (D : va_G) (tc : Nat → ClassId) (base : Nat) (oo : Nat) (zrr hhi htx has hro : Int → Int) (st ln th re du hsh : Int) (hpp : AH) (hM : MA hpp oo zrr hhi htx has hro st ln th re du hsh) (tt : Int) (nn : Nat) (hi : zInv zrr) (ha : zrr 18 + zrr 19 ≤ zrr 13) (h13 : zrr 13 ≤ 20000) (ht : 0 ≤ tt ∧ tt ≤ 200 - zrr 0) (hn : nn ≤ 720) : CT l D tc base yX8_goesOn cX8_goesOn 5 (some .boolean) 6 [aR oo, aI tt, aI nn] hpp (fun r h' => (r = some (aI 1) ∧ (∃ hax : Int → Int, MA h' oo zrr hhi htx hax hro st ln th re du hsh) ∧ Fr hpp h' oo 6 ∧ zGoes zrr tt nn) ∨ (r = some (aI 0) ∧ (∃ hax : Int → Int, MA h' oo zrr hhi htx hax hro st ln th re du hsh) ∧ Fr hpp h' oo 6 ∧ ¬ zGoes zrr tt nn)) := by
  refine CT.of [some (aR oo), some (aI tt), some (aI nn), none, none] (by decide +kernel) rfl (Nat.le_of_ble_eq_true rfl) ?_
  intro p e s m args below meth c C hr hnm
  obtain ⟨g0, g1, g2, g3, g4, g5⟩ := id hM
  have v0 := hi.1.1
  have hi9 : zInv (iu zrr 0 (zrr 0 + tt)) := zInv_h hi (by omega) (by omega) (by omega)
  have ha9 : (iu zrr 0 (zrr 0 + tt)) 18 + (iu zrr 0 (zrr 0 + tt)) 19 ≤ (iu zrr 0 (zrr 0 + tt)) 13 := by simp (disch := omega) only [iu_ne]; exact ha
  have h139 : (iu zrr 0 (zrr 0 + tt)) 13 = zrr 13 := iu_ne (by omega)
  refine k_aload_n C dX8_goesOn_0 rfl ?_
  refine k_callV C (n := 0) (as := []) (ct_X8_layAside l D tc base oo zrr hhi htx has hro st ln th re du hsh _ hM) ml_X8_158 im_X8_layAside se_X8_layAside ini_X8 co_X8_layAside ⟨rfl, by decide, by decide, by decide +kernel⟩ rfl (ci := 8) rfl (by repeat (first | exact hs_eq _ _ _ | refine hs_ne (by omega) ?_ | assumption)) ⟨by decide, by decide⟩ rfl (Nat.le_of_ble_eq_true rfl) ⟨Nat.zero_le _, Nat.zero_le _⟩ dX8_goesOn_1 ?_
  rintro _ hla ⟨rfl, hM1, hF1⟩
  obtain ⟨k0, k1, k2, k3, k4, k5⟩ := id hM1
  have hla0 : hs hla (oo + 1) (eA 0 67 zrr) = hla := hs_same k1
  refine k_aload_n C dX8_goesOn_4 rfl ?_
  refine k_get C (k := 0) inX8 (ci := 8) rfl (by decide) fl_X8_7 dX8_goesOn_5 (by repeat (first | exact hs_eq _ _ _ | refine hs_ne (by omega) ?_ | assumption)) rfl ?_
  refine k_iconst C dX8_goesOn_8 ?_
  refine k_dup2 C dX8_goesOn_9 rfl rfl ?_
  refine k_iaload C dX8_goesOn_10 (by repeat (first | exact hs_eq _ _ _ | refine hs_ne (by omega) ?_ | assumption)) (by omega) (by omega) (by omega) ?_
  refine k_iload_n C dX8_goesOn_11 rfl ?_
  refine k_iadd C dX8_goesOn_12 ?_
  refine k_iastore C dX8_goesOn_13 (by repeat (first | exact hs_eq _ _ _ | refine hs_ne (by omega) ?_ | assumption)) (by omega) (by omega) (by omega) ?_
  refine k_iconst C dX8_goesOn_14 ?_
  refine k_istore_n C dX8_goesOn_15 (by decide) rfl ?_
  refine k_iconst C dX8_goesOn_16 ?_
  refine k_istore C dX8_goesOn_17 (by decide) rfl ?_
  have loop19 : ∀ (n : Nat) (kk : Nat) (sd : Int) (zzz : RZ), kk ≤ nn → ((sd = 0 ∧ (∀ jj : Nat, jj < kk → ¬ zStops (iu zrr 0 (zrr 0 + tt)) jj) ∧ zzz = zGo (iu zrr 0 (zrr 0 + tt)) kk) ∨ (sd = 1 ∧ ¬ zGoes zrr tt nn)) → (nn : Int) - kk < (n : Int) → Wk D tc base 5 p l e (lvR 6) s m args below meth c 0 0 (MQ below (Qx D tc base (fun r h' => (r = some (aI 1) ∧ (∃ hax : Int → Int, MA h' oo zrr hhi htx hax hro st ln th re du hsh) ∧ Fr hpp h' oo 6 ∧ zGoes zrr tt nn) ∨ (r = some (aI 0) ∧ (∃ hax : Int → Int, MA h' oo zrr hhi htx hax hro st ln th re du hsh) ∧ Fr hpp h' oo 6 ∧ ¬ zGoes zrr tt nn))) args s 0 0 (fun q => base ≤ q)) 19 [some (aR oo), some (aI tt), some (aI nn), some (aI sd), some (aI kk)] [] (hs hla (oo + 1) (eA 0 67 (zzz))) := by
    intro n
    induction n with
    | zero =>
      intro kk sd zzz hk hsd hmu
      exfalso
      omega
    | succ n ih =>
      intro kk sd zzz hk hsd hmu
      have hok := zOk_go ⟨hi9, ha9⟩ kk
      have hsb : sd = 0 ∨ sd = 1 := hsd.elim (fun q => Or.inl q.1) (fun q => Or.inr q.1)
      refine k_iload C dX8_goesOn_19 rfl ?_
      refine k_iload_n C dX8_goesOn_21 rfl ?_
      refine k_icmp_ge (tgt := 40) C dX8_goesOn_22 (by decide) ⟨by omega, by omega⟩ ⟨by omega, by omega⟩ (fun c22 => ?_) (fun c22 => ?_)
      · try (exfalso; omega)
        all_goals (
          refine k_aload_n C dX8_goesOn_40 rfl ?_
          refine k_callV C (n := 0) (as := []) (ct_X8_layBackE l D tc base oo (zzz) hhi htx (hCp has zrr 67) hro st ln th re du hsh _ ⟨(by repeat (first | exact hs_eq _ _ _ | refine hs_ne (by omega) ?_ | assumption)), (by repeat (first | exact hs_eq _ _ _ | refine hs_ne (by omega) ?_ | assumption)), (by repeat (first | exact hs_eq _ _ _ | refine hs_ne (by omega) ?_ | assumption)), (by repeat (first | exact hs_eq _ _ _ | refine hs_ne (by omega) ?_ | assumption)), (by repeat (first | exact hs_eq _ _ _ | refine hs_ne (by omega) ?_ | assumption)), (by repeat (first | exact hs_eq _ _ _ | refine hs_ne (by omega) ?_ | assumption))⟩ zrr (fun jj h0 h1 => hCp_in h0 h1)) ml_X8_164 im_X8_layBack se_X8_layBack ini_X8 co_X8_layBack ⟨rfl, by decide, by decide, by decide +kernel⟩ rfl (ci := 8) rfl (by repeat (first | exact hs_eq _ _ _ | refine hs_ne (by omega) ?_ | assumption)) ⟨by decide, by decide⟩ rfl (Nat.le_of_ble_eq_true rfl) ⟨Nat.zero_le _, Nat.zero_le _⟩ dX8_goesOn_41 ?_
          rintro _ _ ⟨rfl, hM3, hF3⟩
          refine k_iload_n C dX8_goesOn_44 rfl ?_
          refine k_if_ne (tgt := 52) C dX8_goesOn_45 (by decide) ⟨by omega, by omega⟩ (fun c45 => ?_) (fun c45 => ?_)
          · try (exfalso; omega)
            all_goals (
              refine k_iconst C dX8_goesOn_52 ?_
              refine k_zret C hr dX8_goesOn_53 (by omega) ?_
              first
                | (have hsd0 := hsd.resolve_right (fun q => by omega)
                   refine Or.inl ⟨rfl, ⟨_, hM3⟩, Fr.tr (Fr.tr hF1 (fun aaa haa => by repeat (first | rfl | refine hs_ne (by omega) ?_))) hF3, fun jj hj => hsd0.2.1 jj (by omega)⟩)
                | (have hsd0 := hsd.resolve_left (fun q => by omega)
                   refine Or.inr ⟨rfl, ⟨_, hM3⟩, Fr.tr (Fr.tr hF1 (fun aaa haa => by repeat (first | rfl | refine hs_ne (by omega) ?_))) hF3, hsd0.2⟩))
          · try (exfalso; omega)
            all_goals (
              refine k_iconst C dX8_goesOn_48 ?_
              refine k_goto (tgt := 53) C dX8_goesOn_49 (by decide) ?_
              refine k_zret C hr dX8_goesOn_53 (by omega) ?_
              first
                | (have hsd0 := hsd.resolve_right (fun q => by omega)
                   refine Or.inl ⟨rfl, ⟨_, hM3⟩, Fr.tr (Fr.tr hF1 (fun aaa haa => by repeat (first | rfl | refine hs_ne (by omega) ?_))) hF3, fun jj hj => hsd0.2.1 jj (by omega)⟩)
                | (have hsd0 := hsd.resolve_left (fun q => by omega)
                   refine Or.inr ⟨rfl, ⟨_, hM3⟩, Fr.tr (Fr.tr hF1 (fun aaa haa => by repeat (first | rfl | refine hs_ne (by omega) ?_))) hF3, hsd0.2⟩)))
      · try (exfalso; omega)
        all_goals (
          refine k_iload_n C dX8_goesOn_25 rfl ?_
          refine k_if_ne (tgt := 40) C dX8_goesOn_26 (by decide) ⟨by omega, by omega⟩ (fun c26 => ?_) (fun c26 => ?_)
          · try (exfalso; omega)
            all_goals (
              refine k_aload_n C dX8_goesOn_40 rfl ?_
              refine k_callV C (n := 0) (as := []) (ct_X8_layBackE l D tc base oo (zzz) hhi htx (hCp has zrr 67) hro st ln th re du hsh _ ⟨(by repeat (first | exact hs_eq _ _ _ | refine hs_ne (by omega) ?_ | assumption)), (by repeat (first | exact hs_eq _ _ _ | refine hs_ne (by omega) ?_ | assumption)), (by repeat (first | exact hs_eq _ _ _ | refine hs_ne (by omega) ?_ | assumption)), (by repeat (first | exact hs_eq _ _ _ | refine hs_ne (by omega) ?_ | assumption)), (by repeat (first | exact hs_eq _ _ _ | refine hs_ne (by omega) ?_ | assumption)), (by repeat (first | exact hs_eq _ _ _ | refine hs_ne (by omega) ?_ | assumption))⟩ zrr (fun jj h0 h1 => hCp_in h0 h1)) ml_X8_164 im_X8_layBack se_X8_layBack ini_X8 co_X8_layBack ⟨rfl, by decide, by decide, by decide +kernel⟩ rfl (ci := 8) rfl (by repeat (first | exact hs_eq _ _ _ | refine hs_ne (by omega) ?_ | assumption)) ⟨by decide, by decide⟩ rfl (Nat.le_of_ble_eq_true rfl) ⟨Nat.zero_le _, Nat.zero_le _⟩ dX8_goesOn_41 ?_
              rintro _ _ ⟨rfl, hM3, hF3⟩
              refine k_iload_n C dX8_goesOn_44 rfl ?_
              refine k_if_ne (tgt := 52) C dX8_goesOn_45 (by decide) ⟨by omega, by omega⟩ (fun c45 => ?_) (fun c45 => ?_)
              · try (exfalso; omega)
                all_goals (
                  refine k_iconst C dX8_goesOn_52 ?_
                  refine k_zret C hr dX8_goesOn_53 (by omega) ?_
                  first
                    | (have hsd0 := hsd.resolve_right (fun q => by omega)
                       refine Or.inl ⟨rfl, ⟨_, hM3⟩, Fr.tr (Fr.tr hF1 (fun aaa haa => by repeat (first | rfl | refine hs_ne (by omega) ?_))) hF3, fun jj hj => hsd0.2.1 jj (by omega)⟩)
                    | (have hsd0 := hsd.resolve_left (fun q => by omega)
                       refine Or.inr ⟨rfl, ⟨_, hM3⟩, Fr.tr (Fr.tr hF1 (fun aaa haa => by repeat (first | rfl | refine hs_ne (by omega) ?_))) hF3, hsd0.2⟩))
              · try (exfalso; omega)
                all_goals (
                  refine k_iconst C dX8_goesOn_48 ?_
                  refine k_goto (tgt := 53) C dX8_goesOn_49 (by decide) ?_
                  refine k_zret C hr dX8_goesOn_53 (by omega) ?_
                  first
                    | (have hsd0 := hsd.resolve_right (fun q => by omega)
                       refine Or.inl ⟨rfl, ⟨_, hM3⟩, Fr.tr (Fr.tr hF1 (fun aaa haa => by repeat (first | rfl | refine hs_ne (by omega) ?_))) hF3, fun jj hj => hsd0.2.1 jj (by omega)⟩)
                    | (have hsd0 := hsd.resolve_left (fun q => by omega)
                       refine Or.inr ⟨rfl, ⟨_, hM3⟩, Fr.tr (Fr.tr hF1 (fun aaa haa => by repeat (first | rfl | refine hs_ne (by omega) ?_))) hF3, hsd0.2⟩)))
          · try (exfalso; omega)
            all_goals (
              have hsd0 := hsd.resolve_right (fun q => by omega)
              obtain hz3 := hsd0.2.2
              subst hz3
              refine k_aload_n C dX8_goesOn_29 rfl ?_
              refine k_callV C (n := 0) (as := []) (ct_X8_minute l D tc base oo (oo + 1) _ _ _ (by repeat (first | exact hs_eq _ _ _ | refine hs_ne (by omega) ?_ | assumption)) (by repeat (first | exact hs_eq _ _ _ | refine hs_ne (by omega) ?_ | assumption)) (by omega) hok.1.1 hok.1.2 (by omega)) ml_X8_89 im_X8_minute se_X8_minute ini_X8 co_X8_minute ⟨rfl, by decide, by decide, by decide +kernel⟩ rfl (ci := 8) rfl (by repeat (first | exact hs_eq _ _ _ | refine hs_ne (by omega) ?_ | assumption)) ⟨by decide, by decide⟩ rfl (Nat.le_of_ble_eq_true rfl) ⟨Nat.zero_le _, Nat.zero_le _⟩ dX8_goesOn_30 ?_
              rintro _ _ (⟨rfl, rfl, hmi⟩ | ⟨rfl, rfl, hmi⟩)
              · skip
                simp only [hs_hs]
                refine k_istore_n C dX8_goesOn_33 (by decide) rfl ?_
                refine k_iinc C dX8_goesOn_34 rfl (by decide) rfl ?_
                refine k_goto (tgt := 19) C dX8_goesOn_37 (by decide) ?_
                have e2 : ((kk + 1 : Nat) : Int) = (kk : Int) + 1 := by omega
                first
                  | (have q1 := ih (kk + 1) 1 (zMin (zGo (iu zrr 0 (zrr 0 + tt)) kk)) (by omega) (Or.inr ⟨rfl, fun hg => hg kk (by omega) hmi⟩) (by omega)
                     rw [e2] at q1
                     exact q1)
                  | (have q1 := ih (kk + 1) 0 (zMin (zGo (iu zrr 0 (zrr 0 + tt)) kk)) (by omega) (Or.inl ⟨rfl, fun jj hj => (by
                       by_cases hjk : jj = kk
                       · subst hjk
                         exact hmi
                       · exact hsd0.2.1 jj (by omega)), rfl⟩) (by omega)
                     rw [e2] at q1
                     exact q1)
              · skip
                simp only [hs_hs]
                refine k_istore_n C dX8_goesOn_33 (by decide) rfl ?_
                refine k_iinc C dX8_goesOn_34 rfl (by decide) rfl ?_
                refine k_goto (tgt := 19) C dX8_goesOn_37 (by decide) ?_
                have e2 : ((kk + 1 : Nat) : Int) = (kk : Int) + 1 := by omega
                first
                  | (have q1 := ih (kk + 1) 1 (zMin (zGo (iu zrr 0 (zrr 0 + tt)) kk)) (by omega) (Or.inr ⟨rfl, fun hg => hg kk (by omega) hmi⟩) (by omega)
                     rw [e2] at q1
                     exact q1)
                  | (have q1 := ih (kk + 1) 0 (zMin (zGo (iu zrr 0 (zrr 0 + tt)) kk)) (by omega) (Or.inl ⟨rfl, fun jj hj => (by
                       by_cases hjk : jj = kk
                       · subst hjk
                         exact hmi
                       · exact hsd0.2.1 jj (by omega)), rfl⟩) (by omega)
                     rw [e2] at q1
                     exact q1)))
  have q1 := loop19 (nn + 1) 0 0 (iu zrr 0 (zrr 0 + tt)) (by omega) (Or.inl ⟨rfl, fun jj hj => by omega, rfl⟩) (by omega)
  exact q1

set_option maxRecDepth 20000 in
set_option maxHeartbeats 1000000 in
theorem ct_X8_least (l : Launch) (D : va_G) (tc : Nat → ClassId) (base : Nat) (oo : Nat) (zrr hhi htx has hro : Int → Int) (st ln th re du hsh : Int) (hpp : AH) (hM : MA hpp oo zrr hhi htx has hro st ln th re du hsh) (nn : Nat) (hi : zInv zrr) (ha : zrr 18 + zrr 19 ≤ zrr 13) (h13 : zrr 13 ≤ 20000) (hn : nn ≤ 720) : CT l D tc base yX8_least cX8_least 3 (some .int) 7 [aR oo, aI nn] hpp (fun r h' => ∃ rr : Int, r = some (aI rr) ∧ (∃ hax : Int → Int, MA h' oo zrr hhi htx hax hro st ln th re du hsh) ∧ Fr hpp h' oo 6 ∧ zLeast zrr nn rr) := by
  refine CT.of [some (aR oo), some (aI nn), none] (by decide +kernel) rfl (Nat.le_of_ble_eq_true rfl) ?_
  intro p e s m args below meth c C hr hnm
  have v0 := hi.1.1
  refine k_iconst C dX8_least_0 ?_
  refine k_istore_n C dX8_least_1 (by decide) rfl ?_
  have loop2 : ∀ (n : Nat) (kk : Int) (hkk : AH) (hax : Int → Int), 0 ≤ kk → kk ≤ 201 - zrr 0 → (∀ tt : Int, 0 ≤ tt → tt < kk → ¬ zGoes zrr tt nn) → MA hkk oo zrr hhi htx hax hro st ln th re du hsh → Fr hpp hkk oo 6 → (201 : Int) - kk < (n : Int) → Wk D tc base 3 p l e (lvR 7) s m args below meth c 0 0 (MQ below (Qx D tc base (fun r h' => ∃ rr : Int, r = some (aI rr) ∧ (∃ hax : Int → Int, MA h' oo zrr hhi htx hax hro st ln th re du hsh) ∧ Fr hpp h' oo 6 ∧ zLeast zrr nn rr)) args s 0 0 (fun q => base ≤ q)) 2 [some (aR oo), some (aI nn), some (aI kk)] [] hkk := by
    intro n
    induction n with
    | zero =>
      intro kk hkk hax hk0 hk1 hk2 hMk hFk hmu
      exfalso
      omega
    | succ n ih =>
      intro kk hkk hax hk0 hk1 hk2 hMk hFk hmu
      obtain ⟨k0, k1, k2, k3, k4, k5⟩ := id hMk
      refine k_iload_n C dX8_least_2 rfl ?_
      refine k_sipush C dX8_least_3 (by decide +kernel) ?_
      refine k_aload_n C dX8_least_6 rfl ?_
      refine k_get C (k := 0) inX8 (ci := 8) rfl (by decide) fl_X8_7 dX8_least_7 (by repeat (first | exact hs_eq _ _ _ | refine hs_ne (by omega) ?_ | assumption)) rfl ?_
      refine k_iconst C dX8_least_10 ?_
      refine k_iaload C dX8_least_11 (by repeat (first | exact hs_eq _ _ _ | refine hs_ne (by omega) ?_ | assumption)) (by omega) (by omega) (by omega) ?_
      refine k_isub C dX8_least_12 ?_
      refine k_icmp_gt (tgt := 33) C dX8_least_13 (by decide) ⟨by omega, by omega⟩ ⟨by omega, by omega⟩ (fun c13 => ?_) (fun c13 => ?_)
      · try (exfalso; omega)
        all_goals (
          refine k_iconst C dX8_least_33 ?_
          refine k_iret C hr dX8_least_34 ?_
          first
            | exact ⟨kk, rfl, ⟨hay, hM2⟩, hFk.tr hF2, Or.inl ⟨by omega, by omega, hg, hk2⟩⟩
            | exact ⟨-1, rfl, ⟨hax, hMk⟩, hFk, Or.inr ⟨rfl, fun tt h0 h1 => hk2 tt h0 (by omega)⟩⟩)
      · try (exfalso; omega)
        all_goals (
          refine k_aload_n C dX8_least_16 rfl ?_
          refine k_iload_n C dX8_least_17 rfl ?_
          refine k_iload_n C dX8_least_18 rfl ?_
          refine k_callV C (n := 2) (as := [_, _]) (ct_X8_goesOn l D tc base oo zrr hhi htx hax hro st ln th re du hsh _ hMk _ _ hi ha h13 (by omega) hn) ml_X8_182 im_X8_goesOn se_X8_goesOn ini_X8 co_X8_goesOn ⟨rfl, by decide, by decide, by decide +kernel⟩ rfl (ci := 8) rfl (by repeat (first | exact hs_eq _ _ _ | refine hs_ne (by omega) ?_ | assumption)) ⟨by decide, by decide⟩ rfl (Nat.le_of_ble_eq_true rfl) ⟨Nat.zero_le _, Nat.zero_le _⟩ dX8_least_19 ?_
          rintro _ _ (⟨rfl, ⟨hay, hM2⟩, hF2, hg⟩ | ⟨rfl, ⟨hay, hM2⟩, hF2, hg⟩)
          · skip
            refine k_if_eq (tgt := 27) C dX8_least_22 (by decide) ⟨by omega, by omega⟩ (fun c22 => ?_) (fun c22 => ?_)
            · try (exfalso; omega)
              all_goals (
                refine k_iinc C dX8_least_27 rfl (by decide) rfl ?_
                refine k_goto (tgt := 2) C dX8_least_30 (by decide) ?_
                exact ih (kk + 1) _ hay (by omega) (by omega) (fun tt h0 h1 => by
                  by_cases htk : tt = kk
                  · subst htk
                    exact hg
                  · exact hk2 tt h0 (by omega)) hM2 (hFk.tr hF2) (by omega))
            · try (exfalso; omega)
              all_goals (
                refine k_iload_n C dX8_least_25 rfl ?_
                refine k_iret C hr dX8_least_26 ?_
                first
                  | exact ⟨kk, rfl, ⟨hay, hM2⟩, hFk.tr hF2, Or.inl ⟨by omega, by omega, hg, hk2⟩⟩
                  | exact ⟨-1, rfl, ⟨hax, hMk⟩, hFk, Or.inr ⟨rfl, fun tt h0 h1 => hk2 tt h0 (by omega)⟩⟩)
          · skip
            refine k_if_eq (tgt := 27) C dX8_least_22 (by decide) ⟨by omega, by omega⟩ (fun c22 => ?_) (fun c22 => ?_)
            · try (exfalso; omega)
              all_goals (
                refine k_iinc C dX8_least_27 rfl (by decide) rfl ?_
                refine k_goto (tgt := 2) C dX8_least_30 (by decide) ?_
                exact ih (kk + 1) _ hay (by omega) (by omega) (fun tt h0 h1 => by
                  by_cases htk : tt = kk
                  · subst htk
                    exact hg
                  · exact hk2 tt h0 (by omega)) hM2 (hFk.tr hF2) (by omega))
            · try (exfalso; omega)
              all_goals (
                refine k_iload_n C dX8_least_25 rfl ?_
                refine k_iret C hr dX8_least_26 ?_
                first
                  | exact ⟨kk, rfl, ⟨hay, hM2⟩, hFk.tr hF2, Or.inl ⟨by omega, by omega, hg, hk2⟩⟩
                  | exact ⟨-1, rfl, ⟨hax, hMk⟩, hFk, Or.inr ⟨rfl, fun tt h0 h1 => hk2 tt h0 (by omega)⟩⟩))
  exact loop2 202 0 hpp has (by omega) (by omega) (fun tt h0 h1 => by omega) hM (Fr.rf _ _ _) (by omega)

set_option maxRecDepth 20000 in
set_option maxHeartbeats 1000000 in
theorem ct_X8_leastTurns (l : Launch) (D : va_G) (tc : Nat → ClassId) (base : Nat) (oo : Nat) (zrr hhi htx has hro : Int → Int) (st ln th re du hsh : Int) (hpp : AH) (hM : MA hpp oo zrr hhi htx has hro st ln th re du hsh) (ww : Int) (hi : zInv zrr) (ha : zrr 18 + zrr 19 ≤ zrr 13) (h13 : zrr 13 ≤ 20000) (hw : r32 ww) : CT l D tc base yX8_leastTurns cX8_leastTurns 2 (some .int) 8 [aR oo, aI ww] hpp (fun r h' => ((1 ≤ ww ∧ ww ≤ 720) ∧ (∃ rr : Int, r = some (aI rr) ∧ zLeast zrr ww.toNat rr) ∧ (∃ hax : Int → Int, MA h' oo (zrr) (hhi) (htx) (hax) (hro) (st) (ln) (0) (re) (du) (hsh)) ∧ Fr hpp h' oo 6) ∨ (¬ (1 ≤ ww ∧ ww ≤ 720) ∧ r = some (aI (0)) ∧ (∃ hax : Int → Int, MA h' oo (zrr) (hhi) (htx) (hax) (hro) (st) (ln) (1) (re) (du) (hsh)) ∧ Fr hpp h' oo 6)) := by
  refine CT.of [some (aR oo), some (aI ww)] (by decide +kernel) rfl (Nat.le_of_ble_eq_true rfl) ?_
  intro p e s m args below meth c C hr hnm
  obtain ⟨g0, g1, g2, g3, g4, g5⟩ := id hM
  refine k_aload_n C dX8_leastTurns_0 rfl ?_
  refine k_iload_n C dX8_leastTurns_1 rfl ?_
  refine k_iconst C dX8_leastTurns_2 ?_
  refine k_sipush C dX8_leastTurns_3 (by decide +kernel) ?_
  refine k_callS C (n := 3) (as := [_, _, _]) (ct_X8_within l D tc base _ _ _ _ hw ⟨by omega, by omega⟩ ⟨by omega, by omega⟩) ml_X8_92 sm_X8_within ini_X8 co_X8_within ⟨by decide, by decide, by decide +kernel⟩ rfl ⟨by decide, by decide⟩ rfl (Nat.le_of_ble_eq_true rfl) ⟨Nat.zero_le _, Nat.zero_le _⟩ dX8_leastTurns_6 ?_
  rintro _ _ (⟨rfl, rfl, hq6⟩ | ⟨rfl, rfl, hq6⟩)
  · skip
    refine k_if_eq (tgt := 16) C dX8_leastTurns_9 (by decide) ⟨by omega, by omega⟩ (fun c9 => ?_) (fun c9 => ?_)
    · try (exfalso; omega)
      all_goals (
        refine k_iconst C dX8_leastTurns_16 ?_
        refine k_put C (k := 5) inX8 tyX8_ok nmX8 (ci := 8) rfl (by decide) fl_X8_25 rfl (Nat.le_of_ble_eq_true rfl) dX8_leastTurns_17 (by repeat (first | exact hs_eq _ _ _ | refine hs_ne (by omega) ?_ | assumption)) ?_
        refine k_aload_n C dX8_leastTurns_20 rfl ?_
        refine k_get C (k := 5) inX8 (ci := 8) rfl (by decide) fl_X8_25 dX8_leastTurns_21 (by repeat (first | exact hs_eq _ _ _ | refine hs_ne (by omega) ?_ | assumption)) rfl ?_
        refine k_if_le (tgt := 31) C dX8_leastTurns_24 (by decide) ⟨by omega, by omega⟩ (fun c24 => ?_) (fun c24 => ?_)
        · try (exfalso; omega)
          all_goals (
            refine k_aload_n C dX8_leastTurns_31 rfl ?_
            refine k_iload_n C dX8_leastTurns_32 rfl ?_
            have eww : ww = (ww.toNat : Int) := by omega
            rw [eww]
            refine k_callV C (n := 1) (as := [_]) (ct_X8_least l D tc base oo zrr hhi htx has hro st ln _ re du hsh _ ⟨(by repeat (first | exact hs_eq _ _ _ | refine hs_ne (by omega) ?_ | assumption)), (by repeat (first | exact hs_eq _ _ _ | refine hs_ne (by omega) ?_ | assumption)), (by repeat (first | exact hs_eq _ _ _ | refine hs_ne (by omega) ?_ | assumption)), (by repeat (first | exact hs_eq _ _ _ | refine hs_ne (by omega) ?_ | assumption)), (by repeat (first | exact hs_eq _ _ _ | refine hs_ne (by omega) ?_ | assumption)), (by repeat (first | exact hs_eq _ _ _ | refine hs_ne (by omega) ?_ | assumption))⟩ ww.toNat hi ha h13 (by omega)) ml_X8_185 im_X8_least se_X8_least ini_X8 co_X8_least ⟨rfl, by decide, by decide, by decide +kernel⟩ rfl (ci := 8) rfl (by repeat (first | exact hs_eq _ _ _ | refine hs_ne (by omega) ?_ | assumption)) ⟨by decide, by decide⟩ rfl (Nat.le_of_ble_eq_true rfl) ⟨Nat.zero_le _, Nat.zero_le _⟩ dX8_leastTurns_33 ?_
            rintro _ _ ⟨rr, rfl, hx3, hF3, hle⟩
            refine k_iret C hr dX8_leastTurns_36 ?_
            first
              | exact Or.inl ⟨by omega, ⟨rr, rfl, hle⟩, hx3, Fr.tr (fun aaa haa => by repeat (first | rfl | refine hs_ne (by omega) ?_)) hF3⟩
              | exact Or.inr ⟨by omega, rfl, ⟨has, ⟨(by repeat (first | exact hs_eq _ _ _ | refine hs_ne (by omega) ?_ | assumption)), (by repeat (first | exact hs_eq _ _ _ | refine hs_ne (by omega) ?_ | assumption)), (by repeat (first | exact hs_eq _ _ _ | refine hs_ne (by omega) ?_ | assumption)), (by repeat (first | exact hs_eq _ _ _ | refine hs_ne (by omega) ?_ | assumption)), (by repeat (first | exact hs_eq _ _ _ | refine hs_ne (by omega) ?_ | assumption)), (by repeat (first | exact hs_eq _ _ _ | refine hs_ne (by omega) ?_ | assumption))⟩⟩, fun aaa haa => by repeat (first | rfl | refine hs_ne (by omega) ?_)⟩)
        · try (exfalso; omega)
          all_goals (
            refine k_iconst C dX8_leastTurns_27 ?_
            refine k_goto (tgt := 36) C dX8_leastTurns_28 (by decide) ?_
            refine k_iret C hr dX8_leastTurns_36 ?_
            first
              | exact Or.inl ⟨by omega, ⟨rr, rfl, hle⟩, hx3, Fr.tr (fun aaa haa => by repeat (first | rfl | refine hs_ne (by omega) ?_)) hF3⟩
              | exact Or.inr ⟨by omega, rfl, ⟨has, ⟨(by repeat (first | exact hs_eq _ _ _ | refine hs_ne (by omega) ?_ | assumption)), (by repeat (first | exact hs_eq _ _ _ | refine hs_ne (by omega) ?_ | assumption)), (by repeat (first | exact hs_eq _ _ _ | refine hs_ne (by omega) ?_ | assumption)), (by repeat (first | exact hs_eq _ _ _ | refine hs_ne (by omega) ?_ | assumption)), (by repeat (first | exact hs_eq _ _ _ | refine hs_ne (by omega) ?_ | assumption)), (by repeat (first | exact hs_eq _ _ _ | refine hs_ne (by omega) ?_ | assumption))⟩⟩, fun aaa haa => by repeat (first | rfl | refine hs_ne (by omega) ?_)⟩))
    · try (exfalso; omega)
      all_goals (
        refine k_iconst C dX8_leastTurns_12 ?_
        refine k_goto (tgt := 17) C dX8_leastTurns_13 (by decide) ?_
        refine k_put C (k := 5) inX8 tyX8_ok nmX8 (ci := 8) rfl (by decide) fl_X8_25 rfl (Nat.le_of_ble_eq_true rfl) dX8_leastTurns_17 (by repeat (first | exact hs_eq _ _ _ | refine hs_ne (by omega) ?_ | assumption)) ?_
        refine k_aload_n C dX8_leastTurns_20 rfl ?_
        refine k_get C (k := 5) inX8 (ci := 8) rfl (by decide) fl_X8_25 dX8_leastTurns_21 (by repeat (first | exact hs_eq _ _ _ | refine hs_ne (by omega) ?_ | assumption)) rfl ?_
        refine k_if_le (tgt := 31) C dX8_leastTurns_24 (by decide) ⟨by omega, by omega⟩ (fun c24 => ?_) (fun c24 => ?_)
        · try (exfalso; omega)
          all_goals (
            refine k_aload_n C dX8_leastTurns_31 rfl ?_
            refine k_iload_n C dX8_leastTurns_32 rfl ?_
            have eww : ww = (ww.toNat : Int) := by omega
            rw [eww]
            refine k_callV C (n := 1) (as := [_]) (ct_X8_least l D tc base oo zrr hhi htx has hro st ln _ re du hsh _ ⟨(by repeat (first | exact hs_eq _ _ _ | refine hs_ne (by omega) ?_ | assumption)), (by repeat (first | exact hs_eq _ _ _ | refine hs_ne (by omega) ?_ | assumption)), (by repeat (first | exact hs_eq _ _ _ | refine hs_ne (by omega) ?_ | assumption)), (by repeat (first | exact hs_eq _ _ _ | refine hs_ne (by omega) ?_ | assumption)), (by repeat (first | exact hs_eq _ _ _ | refine hs_ne (by omega) ?_ | assumption)), (by repeat (first | exact hs_eq _ _ _ | refine hs_ne (by omega) ?_ | assumption))⟩ ww.toNat hi ha h13 (by omega)) ml_X8_185 im_X8_least se_X8_least ini_X8 co_X8_least ⟨rfl, by decide, by decide, by decide +kernel⟩ rfl (ci := 8) rfl (by repeat (first | exact hs_eq _ _ _ | refine hs_ne (by omega) ?_ | assumption)) ⟨by decide, by decide⟩ rfl (Nat.le_of_ble_eq_true rfl) ⟨Nat.zero_le _, Nat.zero_le _⟩ dX8_leastTurns_33 ?_
            rintro _ _ ⟨rr, rfl, hx3, hF3, hle⟩
            refine k_iret C hr dX8_leastTurns_36 ?_
            first
              | exact Or.inl ⟨by omega, ⟨rr, rfl, hle⟩, hx3, Fr.tr (fun aaa haa => by repeat (first | rfl | refine hs_ne (by omega) ?_)) hF3⟩
              | exact Or.inr ⟨by omega, rfl, ⟨has, ⟨(by repeat (first | exact hs_eq _ _ _ | refine hs_ne (by omega) ?_ | assumption)), (by repeat (first | exact hs_eq _ _ _ | refine hs_ne (by omega) ?_ | assumption)), (by repeat (first | exact hs_eq _ _ _ | refine hs_ne (by omega) ?_ | assumption)), (by repeat (first | exact hs_eq _ _ _ | refine hs_ne (by omega) ?_ | assumption)), (by repeat (first | exact hs_eq _ _ _ | refine hs_ne (by omega) ?_ | assumption)), (by repeat (first | exact hs_eq _ _ _ | refine hs_ne (by omega) ?_ | assumption))⟩⟩, fun aaa haa => by repeat (first | rfl | refine hs_ne (by omega) ?_)⟩)
        · try (exfalso; omega)
          all_goals (
            refine k_iconst C dX8_leastTurns_27 ?_
            refine k_goto (tgt := 36) C dX8_leastTurns_28 (by decide) ?_
            refine k_iret C hr dX8_leastTurns_36 ?_
            first
              | exact Or.inl ⟨by omega, ⟨rr, rfl, hle⟩, hx3, Fr.tr (fun aaa haa => by repeat (first | rfl | refine hs_ne (by omega) ?_)) hF3⟩
              | exact Or.inr ⟨by omega, rfl, ⟨has, ⟨(by repeat (first | exact hs_eq _ _ _ | refine hs_ne (by omega) ?_ | assumption)), (by repeat (first | exact hs_eq _ _ _ | refine hs_ne (by omega) ?_ | assumption)), (by repeat (first | exact hs_eq _ _ _ | refine hs_ne (by omega) ?_ | assumption)), (by repeat (first | exact hs_eq _ _ _ | refine hs_ne (by omega) ?_ | assumption)), (by repeat (first | exact hs_eq _ _ _ | refine hs_ne (by omega) ?_ | assumption)), (by repeat (first | exact hs_eq _ _ _ | refine hs_ne (by omega) ?_ | assumption))⟩⟩, fun aaa haa => by repeat (first | rfl | refine hs_ne (by omega) ?_)⟩))
  · skip
    refine k_if_eq (tgt := 16) C dX8_leastTurns_9 (by decide) ⟨by omega, by omega⟩ (fun c9 => ?_) (fun c9 => ?_)
    · try (exfalso; omega)
      all_goals (
        refine k_iconst C dX8_leastTurns_16 ?_
        refine k_put C (k := 5) inX8 tyX8_ok nmX8 (ci := 8) rfl (by decide) fl_X8_25 rfl (Nat.le_of_ble_eq_true rfl) dX8_leastTurns_17 (by repeat (first | exact hs_eq _ _ _ | refine hs_ne (by omega) ?_ | assumption)) ?_
        refine k_aload_n C dX8_leastTurns_20 rfl ?_
        refine k_get C (k := 5) inX8 (ci := 8) rfl (by decide) fl_X8_25 dX8_leastTurns_21 (by repeat (first | exact hs_eq _ _ _ | refine hs_ne (by omega) ?_ | assumption)) rfl ?_
        refine k_if_le (tgt := 31) C dX8_leastTurns_24 (by decide) ⟨by omega, by omega⟩ (fun c24 => ?_) (fun c24 => ?_)
        · try (exfalso; omega)
          all_goals (
            refine k_aload_n C dX8_leastTurns_31 rfl ?_
            refine k_iload_n C dX8_leastTurns_32 rfl ?_
            have eww : ww = (ww.toNat : Int) := by omega
            rw [eww]
            refine k_callV C (n := 1) (as := [_]) (ct_X8_least l D tc base oo zrr hhi htx has hro st ln _ re du hsh _ ⟨(by repeat (first | exact hs_eq _ _ _ | refine hs_ne (by omega) ?_ | assumption)), (by repeat (first | exact hs_eq _ _ _ | refine hs_ne (by omega) ?_ | assumption)), (by repeat (first | exact hs_eq _ _ _ | refine hs_ne (by omega) ?_ | assumption)), (by repeat (first | exact hs_eq _ _ _ | refine hs_ne (by omega) ?_ | assumption)), (by repeat (first | exact hs_eq _ _ _ | refine hs_ne (by omega) ?_ | assumption)), (by repeat (first | exact hs_eq _ _ _ | refine hs_ne (by omega) ?_ | assumption))⟩ ww.toNat hi ha h13 (by omega)) ml_X8_185 im_X8_least se_X8_least ini_X8 co_X8_least ⟨rfl, by decide, by decide, by decide +kernel⟩ rfl (ci := 8) rfl (by repeat (first | exact hs_eq _ _ _ | refine hs_ne (by omega) ?_ | assumption)) ⟨by decide, by decide⟩ rfl (Nat.le_of_ble_eq_true rfl) ⟨Nat.zero_le _, Nat.zero_le _⟩ dX8_leastTurns_33 ?_
            rintro _ _ ⟨rr, rfl, hx3, hF3, hle⟩
            refine k_iret C hr dX8_leastTurns_36 ?_
            first
              | exact Or.inl ⟨by omega, ⟨rr, rfl, hle⟩, hx3, Fr.tr (fun aaa haa => by repeat (first | rfl | refine hs_ne (by omega) ?_)) hF3⟩
              | exact Or.inr ⟨by omega, rfl, ⟨has, ⟨(by repeat (first | exact hs_eq _ _ _ | refine hs_ne (by omega) ?_ | assumption)), (by repeat (first | exact hs_eq _ _ _ | refine hs_ne (by omega) ?_ | assumption)), (by repeat (first | exact hs_eq _ _ _ | refine hs_ne (by omega) ?_ | assumption)), (by repeat (first | exact hs_eq _ _ _ | refine hs_ne (by omega) ?_ | assumption)), (by repeat (first | exact hs_eq _ _ _ | refine hs_ne (by omega) ?_ | assumption)), (by repeat (first | exact hs_eq _ _ _ | refine hs_ne (by omega) ?_ | assumption))⟩⟩, fun aaa haa => by repeat (first | rfl | refine hs_ne (by omega) ?_)⟩)
        · try (exfalso; omega)
          all_goals (
            refine k_iconst C dX8_leastTurns_27 ?_
            refine k_goto (tgt := 36) C dX8_leastTurns_28 (by decide) ?_
            refine k_iret C hr dX8_leastTurns_36 ?_
            first
              | exact Or.inl ⟨by omega, ⟨rr, rfl, hle⟩, hx3, Fr.tr (fun aaa haa => by repeat (first | rfl | refine hs_ne (by omega) ?_)) hF3⟩
              | exact Or.inr ⟨by omega, rfl, ⟨has, ⟨(by repeat (first | exact hs_eq _ _ _ | refine hs_ne (by omega) ?_ | assumption)), (by repeat (first | exact hs_eq _ _ _ | refine hs_ne (by omega) ?_ | assumption)), (by repeat (first | exact hs_eq _ _ _ | refine hs_ne (by omega) ?_ | assumption)), (by repeat (first | exact hs_eq _ _ _ | refine hs_ne (by omega) ?_ | assumption)), (by repeat (first | exact hs_eq _ _ _ | refine hs_ne (by omega) ?_ | assumption)), (by repeat (first | exact hs_eq _ _ _ | refine hs_ne (by omega) ?_ | assumption))⟩⟩, fun aaa haa => by repeat (first | rfl | refine hs_ne (by omega) ?_)⟩))
    · try (exfalso; omega)
      all_goals (
        refine k_iconst C dX8_leastTurns_12 ?_
        refine k_goto (tgt := 17) C dX8_leastTurns_13 (by decide) ?_
        refine k_put C (k := 5) inX8 tyX8_ok nmX8 (ci := 8) rfl (by decide) fl_X8_25 rfl (Nat.le_of_ble_eq_true rfl) dX8_leastTurns_17 (by repeat (first | exact hs_eq _ _ _ | refine hs_ne (by omega) ?_ | assumption)) ?_
        refine k_aload_n C dX8_leastTurns_20 rfl ?_
        refine k_get C (k := 5) inX8 (ci := 8) rfl (by decide) fl_X8_25 dX8_leastTurns_21 (by repeat (first | exact hs_eq _ _ _ | refine hs_ne (by omega) ?_ | assumption)) rfl ?_
        refine k_if_le (tgt := 31) C dX8_leastTurns_24 (by decide) ⟨by omega, by omega⟩ (fun c24 => ?_) (fun c24 => ?_)
        · try (exfalso; omega)
          all_goals (
            refine k_aload_n C dX8_leastTurns_31 rfl ?_
            refine k_iload_n C dX8_leastTurns_32 rfl ?_
            have eww : ww = (ww.toNat : Int) := by omega
            rw [eww]
            refine k_callV C (n := 1) (as := [_]) (ct_X8_least l D tc base oo zrr hhi htx has hro st ln _ re du hsh _ ⟨(by repeat (first | exact hs_eq _ _ _ | refine hs_ne (by omega) ?_ | assumption)), (by repeat (first | exact hs_eq _ _ _ | refine hs_ne (by omega) ?_ | assumption)), (by repeat (first | exact hs_eq _ _ _ | refine hs_ne (by omega) ?_ | assumption)), (by repeat (first | exact hs_eq _ _ _ | refine hs_ne (by omega) ?_ | assumption)), (by repeat (first | exact hs_eq _ _ _ | refine hs_ne (by omega) ?_ | assumption)), (by repeat (first | exact hs_eq _ _ _ | refine hs_ne (by omega) ?_ | assumption))⟩ ww.toNat hi ha h13 (by omega)) ml_X8_185 im_X8_least se_X8_least ini_X8 co_X8_least ⟨rfl, by decide, by decide, by decide +kernel⟩ rfl (ci := 8) rfl (by repeat (first | exact hs_eq _ _ _ | refine hs_ne (by omega) ?_ | assumption)) ⟨by decide, by decide⟩ rfl (Nat.le_of_ble_eq_true rfl) ⟨Nat.zero_le _, Nat.zero_le _⟩ dX8_leastTurns_33 ?_
            rintro _ _ ⟨rr, rfl, hx3, hF3, hle⟩
            refine k_iret C hr dX8_leastTurns_36 ?_
            first
              | exact Or.inl ⟨by omega, ⟨rr, rfl, hle⟩, hx3, Fr.tr (fun aaa haa => by repeat (first | rfl | refine hs_ne (by omega) ?_)) hF3⟩
              | exact Or.inr ⟨by omega, rfl, ⟨has, ⟨(by repeat (first | exact hs_eq _ _ _ | refine hs_ne (by omega) ?_ | assumption)), (by repeat (first | exact hs_eq _ _ _ | refine hs_ne (by omega) ?_ | assumption)), (by repeat (first | exact hs_eq _ _ _ | refine hs_ne (by omega) ?_ | assumption)), (by repeat (first | exact hs_eq _ _ _ | refine hs_ne (by omega) ?_ | assumption)), (by repeat (first | exact hs_eq _ _ _ | refine hs_ne (by omega) ?_ | assumption)), (by repeat (first | exact hs_eq _ _ _ | refine hs_ne (by omega) ?_ | assumption))⟩⟩, fun aaa haa => by repeat (first | rfl | refine hs_ne (by omega) ?_)⟩)
        · try (exfalso; omega)
          all_goals (
            refine k_iconst C dX8_leastTurns_27 ?_
            refine k_goto (tgt := 36) C dX8_leastTurns_28 (by decide) ?_
            refine k_iret C hr dX8_leastTurns_36 ?_
            first
              | exact Or.inl ⟨by omega, ⟨rr, rfl, hle⟩, hx3, Fr.tr (fun aaa haa => by repeat (first | rfl | refine hs_ne (by omega) ?_)) hF3⟩
              | exact Or.inr ⟨by omega, rfl, ⟨has, ⟨(by repeat (first | exact hs_eq _ _ _ | refine hs_ne (by omega) ?_ | assumption)), (by repeat (first | exact hs_eq _ _ _ | refine hs_ne (by omega) ?_ | assumption)), (by repeat (first | exact hs_eq _ _ _ | refine hs_ne (by omega) ?_ | assumption)), (by repeat (first | exact hs_eq _ _ _ | refine hs_ne (by omega) ?_ | assumption)), (by repeat (first | exact hs_eq _ _ _ | refine hs_ne (by omega) ?_ | assumption)), (by repeat (first | exact hs_eq _ _ _ | refine hs_ne (by omega) ?_ | assumption))⟩⟩, fun aaa haa => by repeat (first | rfl | refine hs_ne (by omega) ?_)⟩))

set_option maxRecDepth 20000 in
set_option maxHeartbeats 1000000 in
theorem ct_X8_downNow (l : Launch) (D : va_G) (tc : Nat → ClassId) (base : Nat) (oo : Nat) (zrr hhi htx has hro : Int → Int) (st ln th re du hsh : Int) (hpp : AH) (hM : MA hpp oo zrr hhi htx has hro st ln th re du hsh) (hi : zInv zrr) : CT l D tc base yX8_downNow cX8_downNow 1 (some .int) 0 [aR oo] hpp (fun r h' => r = some (aI (zDown zrr)) ∧ hpp = h') := by
  refine CT.of [some (aR oo)] (by decide +kernel) rfl (Nat.le_of_ble_eq_true rfl) ?_
  intro p e s m args below meth c C hr hnm
  obtain ⟨g0, g1, g2, g3, g4, g5⟩ := id hM
  obtain ⟨⟨v0, v1, v2, v9, v10, v11, v12, v13, v21, v52, v61, v62, v63, v64, v65, v66⟩, hwi, hde⟩ := id hi
  refine k_aload_n C dX8_downNow_0 rfl ?_
  refine k_get C (k := 0) inX8 (ci := 8) rfl (by decide) fl_X8_7 dX8_downNow_1 (by repeat (first | exact hs_eq _ _ _ | refine hs_ne (by omega) ?_ | assumption)) rfl ?_
  refine k_iconst C dX8_downNow_4 ?_
  refine k_iaload C dX8_downNow_5 (by repeat (first | exact hs_eq _ _ _ | refine hs_ne (by omega) ?_ | assumption)) (by omega) (by omega) (by omega) ?_
  refine k_if_ne (tgt := 13) C dX8_downNow_6 (by decide) ⟨by omega, by omega⟩ (fun c6 => ?_) (fun c6 => ?_)
  · try (exfalso; omega)
    all_goals (
      refine k_aload_n C dX8_downNow_13 rfl ?_
      refine k_get C (k := 0) inX8 (ci := 8) rfl (by decide) fl_X8_7 dX8_downNow_14 (by repeat (first | exact hs_eq _ _ _ | refine hs_ne (by omega) ?_ | assumption)) rfl ?_
      refine k_iconst C dX8_downNow_17 ?_
      refine k_iaload C dX8_downNow_18 (by repeat (first | exact hs_eq _ _ _ | refine hs_ne (by omega) ?_ | assumption)) (by omega) (by omega) (by omega) ?_
      refine k_if_ne (tgt := 26) C dX8_downNow_19 (by decide) ⟨by omega, by omega⟩ (fun c19 => ?_) (fun c19 => ?_)
      · try (exfalso; omega)
        all_goals (
          refine k_aload_n C dX8_downNow_26 rfl ?_
          refine k_get C (k := 0) inX8 (ci := 8) rfl (by decide) fl_X8_7 dX8_downNow_27 (by repeat (first | exact hs_eq _ _ _ | refine hs_ne (by omega) ?_ | assumption)) rfl ?_
          refine k_iconst C dX8_downNow_30 ?_
          refine k_iaload C dX8_downNow_31 (by repeat (first | exact hs_eq _ _ _ | refine hs_ne (by omega) ?_ | assumption)) (by omega) (by omega) (by omega) ?_
          refine k_if_ne (tgt := 39) C dX8_downNow_32 (by decide) ⟨by omega, by omega⟩ (fun c32 => ?_) (fun c32 => ?_)
          · try (exfalso; omega)
            all_goals (
              refine k_iconst C dX8_downNow_39 ?_
              refine k_iret C hr dX8_downNow_40 ?_
              refine ⟨?_, rfl⟩
              refine congrArg (fun qq => some (aI qq)) ?_
              unfold zDown
              first
                | rw [if_pos (by omega)]
                | rw [if_neg (by omega), if_pos (by omega)]
                | rw [if_neg (by omega), if_neg (by omega), if_pos (by omega)]
                | rw [if_neg (by omega), if_neg (by omega), if_neg (by omega)])
          · try (exfalso; omega)
            all_goals (
              refine k_iconst C dX8_downNow_35 ?_
              refine k_goto (tgt := 40) C dX8_downNow_36 (by decide) ?_
              refine k_iret C hr dX8_downNow_40 ?_
              refine ⟨?_, rfl⟩
              refine congrArg (fun qq => some (aI qq)) ?_
              unfold zDown
              first
                | rw [if_pos (by omega)]
                | rw [if_neg (by omega), if_pos (by omega)]
                | rw [if_neg (by omega), if_neg (by omega), if_pos (by omega)]
                | rw [if_neg (by omega), if_neg (by omega), if_neg (by omega)]))
      · try (exfalso; omega)
        all_goals (
          refine k_iconst C dX8_downNow_22 ?_
          refine k_goto (tgt := 40) C dX8_downNow_23 (by decide) ?_
          refine k_iret C hr dX8_downNow_40 ?_
          refine ⟨?_, rfl⟩
          refine congrArg (fun qq => some (aI qq)) ?_
          unfold zDown
          first
            | rw [if_pos (by omega)]
            | rw [if_neg (by omega), if_pos (by omega)]
            | rw [if_neg (by omega), if_neg (by omega), if_pos (by omega)]
            | rw [if_neg (by omega), if_neg (by omega), if_neg (by omega)]))
  · try (exfalso; omega)
    all_goals (
      refine k_iconst C dX8_downNow_9 ?_
      refine k_goto (tgt := 40) C dX8_downNow_10 (by decide) ?_
      refine k_iret C hr dX8_downNow_40 ?_
      refine ⟨?_, rfl⟩
      refine congrArg (fun qq => some (aI qq)) ?_
      unfold zDown
      first
        | rw [if_pos (by omega)]
        | rw [if_neg (by omega), if_pos (by omega)]
        | rw [if_neg (by omega), if_neg (by omega), if_pos (by omega)]
        | rw [if_neg (by omega), if_neg (by omega), if_neg (by omega)])

set_option maxRecDepth 20000 in
set_option maxHeartbeats 1000000 in
theorem ct_X8_firstDown (l : Launch) (D : va_G) (tc : Nat → ClassId) (base : Nat) (oo : Nat) (zrr hhi htx has hro : Int → Int) (st ln th re du hsh : Int) (hpp : AH) (hM : MA hpp oo zrr hhi htx has hro st ln th re du hsh) (hi : zInv zrr) (ha : zrr 18 + zrr 19 ≤ zrr 13) (h13 : zrr 13 ≤ 20000) : CT l D tc base yX8_firstDown cX8_firstDown 3 (some .int) 6 [aR oo] hpp (fun r h' => r = some (aI (zFd zrr)) ∧ (∃ hax : Int → Int, MA h' oo zrr hhi htx hax hro st ln th re du hsh) ∧ Fr hpp h' oo 6) := by
  refine CT.of [some (aR oo), none, none] (by decide +kernel) rfl (Nat.le_of_ble_eq_true rfl) ?_
  intro p e s m args below meth c C hr hnm
  obtain ⟨g0, g1, g2, g3, g4, g5⟩ := id hM
  refine k_aload_n C dX8_firstDown_0 rfl ?_
  refine k_callV C (n := 0) (as := []) (ct_X8_layAside l D tc base oo zrr hhi htx has hro st ln th re du hsh _ hM) ml_X8_158 im_X8_layAside se_X8_layAside ini_X8 co_X8_layAside ⟨rfl, by decide, by decide, by decide +kernel⟩ rfl (ci := 8) rfl (by repeat (first | exact hs_eq _ _ _ | refine hs_ne (by omega) ?_ | assumption)) ⟨by decide, by decide⟩ rfl (Nat.le_of_ble_eq_true rfl) ⟨Nat.zero_le _, Nat.zero_le _⟩ dX8_firstDown_1 ?_
  rintro _ hla ⟨rfl, hM1, hF1⟩
  obtain ⟨k0, k1, k2, k3, k4, k5⟩ := id hM1
  have hla0 : hs hla (oo + 1) (eA 0 67 zrr) = hla := hs_same k1
  refine k_iconst C dX8_firstDown_4 ?_
  refine k_istore_n C dX8_firstDown_5 (by decide) rfl ?_
  have loop6 : ∀ (n : Nat) (kk : Nat), kk ≤ 1500 → (∀ jj : Nat, jj < kk → zDown (zGo zrr jj) = -1) → (1500 : Int) - kk < (n : Int) → Wk D tc base 3 p l e (lvR 6) s m args below meth c 0 0 (MQ below (Qx D tc base (fun r h' => r = some (aI (zFd zrr)) ∧ (∃ hax : Int → Int, MA h' oo zrr hhi htx hax hro st ln th re du hsh) ∧ Fr hpp h' oo 6)) args s 0 0 (fun q => base ≤ q)) 6 [some (aR oo), some (aI kk), none] [] (hs hla (oo + 1) (eA 0 67 (zGo zrr kk))) := by
    intro n
    induction n with
    | zero =>
      intro kk hk hfd hmu
      exfalso
      omega
    | succ n ih =>
      intro kk hk hfd hmu
      have hok := zOk_go ⟨hi, ha⟩ kk
      have hdr := zDown_rng (zGo zrr kk)
      have hka := zFdK_all zrr hfd
      refine k_iload_n C dX8_firstDown_6 rfl ?_
      refine k_sipush C dX8_firstDown_7 (by decide +kernel) ?_
      refine k_icmp_ge (tgt := 32) C dX8_firstDown_10 (by decide) ⟨by omega, by omega⟩ ⟨by omega, by omega⟩ (fun c10 => ?_) (fun c10 => ?_)
      · try (exfalso; omega)
        all_goals (
          refine k_aload_n C dX8_firstDown_32 rfl ?_
          refine k_callV C (n := 0) (as := []) (ct_X8_downNow l D tc base oo (zGo zrr kk) hhi htx (hCp has zrr 67) hro st ln th re du hsh _ ⟨(by repeat (first | exact hs_eq _ _ _ | refine hs_ne (by omega) ?_ | assumption)), (by repeat (first | exact hs_eq _ _ _ | refine hs_ne (by omega) ?_ | assumption)), (by repeat (first | exact hs_eq _ _ _ | refine hs_ne (by omega) ?_ | assumption)), (by repeat (first | exact hs_eq _ _ _ | refine hs_ne (by omega) ?_ | assumption)), (by repeat (first | exact hs_eq _ _ _ | refine hs_ne (by omega) ?_ | assumption)), (by repeat (first | exact hs_eq _ _ _ | refine hs_ne (by omega) ?_ | assumption))⟩ hok.1.1) ml_X8_188 im_X8_downNow se_X8_downNow ini_X8 co_X8_downNow ⟨rfl, by decide, by decide, by decide +kernel⟩ rfl (ci := 8) rfl (by repeat (first | exact hs_eq _ _ _ | refine hs_ne (by omega) ?_ | assumption)) ⟨by decide, by decide⟩ rfl (Nat.le_of_ble_eq_true rfl) ⟨Nat.zero_le _, Nat.zero_le _⟩ dX8_firstDown_33 ?_
          rintro _ _ ⟨rfl, rfl⟩
          refine k_istore_n C dX8_firstDown_36 (by decide) rfl ?_
          refine k_aload_n C dX8_firstDown_37 rfl ?_
          refine k_callV C (n := 0) (as := []) (ct_X8_layBackE l D tc base oo (zGo zrr kk) hhi htx (hCp has zrr 67) hro st ln th re du hsh _ ⟨(by repeat (first | exact hs_eq _ _ _ | refine hs_ne (by omega) ?_ | assumption)), (by repeat (first | exact hs_eq _ _ _ | refine hs_ne (by omega) ?_ | assumption)), (by repeat (first | exact hs_eq _ _ _ | refine hs_ne (by omega) ?_ | assumption)), (by repeat (first | exact hs_eq _ _ _ | refine hs_ne (by omega) ?_ | assumption)), (by repeat (first | exact hs_eq _ _ _ | refine hs_ne (by omega) ?_ | assumption)), (by repeat (first | exact hs_eq _ _ _ | refine hs_ne (by omega) ?_ | assumption))⟩ zrr (fun jj h0 h1 => hCp_in h0 h1)) ml_X8_164 im_X8_layBack se_X8_layBack ini_X8 co_X8_layBack ⟨rfl, by decide, by decide, by decide +kernel⟩ rfl (ci := 8) rfl (by repeat (first | exact hs_eq _ _ _ | refine hs_ne (by omega) ?_ | assumption)) ⟨by decide, by decide⟩ rfl (Nat.le_of_ble_eq_true rfl) ⟨Nat.zero_le _, Nat.zero_le _⟩ dX8_firstDown_38 ?_
          rintro _ _ ⟨rfl, hM3, hF3⟩
          refine k_iload_n C dX8_firstDown_41 rfl ?_
          refine k_iret C hr dX8_firstDown_42 ?_
          refine ⟨?_, ⟨_, hM3⟩, Fr.tr (Fr.tr hF1 (fun aaa haa => by repeat (first | rfl | refine hs_ne (by omega) ?_))) hF3⟩
          refine congrArg (fun qq => some (aI qq)) ?_
          unfold zFd
          rcases Classical.em (zDown (zGo zrr kk) = -1) with hc | hc
          · have e6 : kk = 1500 := by omega
            rw [← e6, hka]
          · rw [zFdK_stay zrr hk (by rw [hka]; exact hc), hka])
      · try (exfalso; omega)
        all_goals (
          refine k_aload_n C dX8_firstDown_13 rfl ?_
          refine k_callV C (n := 0) (as := []) (ct_X8_downNow l D tc base oo (zGo zrr kk) hhi htx (hCp has zrr 67) hro st ln th re du hsh _ ⟨(by repeat (first | exact hs_eq _ _ _ | refine hs_ne (by omega) ?_ | assumption)), (by repeat (first | exact hs_eq _ _ _ | refine hs_ne (by omega) ?_ | assumption)), (by repeat (first | exact hs_eq _ _ _ | refine hs_ne (by omega) ?_ | assumption)), (by repeat (first | exact hs_eq _ _ _ | refine hs_ne (by omega) ?_ | assumption)), (by repeat (first | exact hs_eq _ _ _ | refine hs_ne (by omega) ?_ | assumption)), (by repeat (first | exact hs_eq _ _ _ | refine hs_ne (by omega) ?_ | assumption))⟩ hok.1.1) ml_X8_188 im_X8_downNow se_X8_downNow ini_X8 co_X8_downNow ⟨rfl, by decide, by decide, by decide +kernel⟩ rfl (ci := 8) rfl (by repeat (first | exact hs_eq _ _ _ | refine hs_ne (by omega) ?_ | assumption)) ⟨by decide, by decide⟩ rfl (Nat.le_of_ble_eq_true rfl) ⟨Nat.zero_le _, Nat.zero_le _⟩ dX8_firstDown_14 ?_
          rintro _ _ ⟨rfl, rfl⟩
          refine k_iconst C dX8_firstDown_17 ?_
          refine k_icmp_ne (tgt := 32) C dX8_firstDown_18 (by decide) ⟨by omega, by omega⟩ ⟨by omega, by omega⟩ (fun c18 => ?_) (fun c18 => ?_)
          · try (exfalso; omega)
            all_goals (
              refine k_aload_n C dX8_firstDown_32 rfl ?_
              refine k_callV C (n := 0) (as := []) (ct_X8_downNow l D tc base oo (zGo zrr kk) hhi htx (hCp has zrr 67) hro st ln th re du hsh _ ⟨(by repeat (first | exact hs_eq _ _ _ | refine hs_ne (by omega) ?_ | assumption)), (by repeat (first | exact hs_eq _ _ _ | refine hs_ne (by omega) ?_ | assumption)), (by repeat (first | exact hs_eq _ _ _ | refine hs_ne (by omega) ?_ | assumption)), (by repeat (first | exact hs_eq _ _ _ | refine hs_ne (by omega) ?_ | assumption)), (by repeat (first | exact hs_eq _ _ _ | refine hs_ne (by omega) ?_ | assumption)), (by repeat (first | exact hs_eq _ _ _ | refine hs_ne (by omega) ?_ | assumption))⟩ hok.1.1) ml_X8_188 im_X8_downNow se_X8_downNow ini_X8 co_X8_downNow ⟨rfl, by decide, by decide, by decide +kernel⟩ rfl (ci := 8) rfl (by repeat (first | exact hs_eq _ _ _ | refine hs_ne (by omega) ?_ | assumption)) ⟨by decide, by decide⟩ rfl (Nat.le_of_ble_eq_true rfl) ⟨Nat.zero_le _, Nat.zero_le _⟩ dX8_firstDown_33 ?_
              rintro _ _ ⟨rfl, rfl⟩
              refine k_istore_n C dX8_firstDown_36 (by decide) rfl ?_
              refine k_aload_n C dX8_firstDown_37 rfl ?_
              refine k_callV C (n := 0) (as := []) (ct_X8_layBackE l D tc base oo (zGo zrr kk) hhi htx (hCp has zrr 67) hro st ln th re du hsh _ ⟨(by repeat (first | exact hs_eq _ _ _ | refine hs_ne (by omega) ?_ | assumption)), (by repeat (first | exact hs_eq _ _ _ | refine hs_ne (by omega) ?_ | assumption)), (by repeat (first | exact hs_eq _ _ _ | refine hs_ne (by omega) ?_ | assumption)), (by repeat (first | exact hs_eq _ _ _ | refine hs_ne (by omega) ?_ | assumption)), (by repeat (first | exact hs_eq _ _ _ | refine hs_ne (by omega) ?_ | assumption)), (by repeat (first | exact hs_eq _ _ _ | refine hs_ne (by omega) ?_ | assumption))⟩ zrr (fun jj h0 h1 => hCp_in h0 h1)) ml_X8_164 im_X8_layBack se_X8_layBack ini_X8 co_X8_layBack ⟨rfl, by decide, by decide, by decide +kernel⟩ rfl (ci := 8) rfl (by repeat (first | exact hs_eq _ _ _ | refine hs_ne (by omega) ?_ | assumption)) ⟨by decide, by decide⟩ rfl (Nat.le_of_ble_eq_true rfl) ⟨Nat.zero_le _, Nat.zero_le _⟩ dX8_firstDown_38 ?_
              rintro _ _ ⟨rfl, hM3, hF3⟩
              refine k_iload_n C dX8_firstDown_41 rfl ?_
              refine k_iret C hr dX8_firstDown_42 ?_
              refine ⟨?_, ⟨_, hM3⟩, Fr.tr (Fr.tr hF1 (fun aaa haa => by repeat (first | rfl | refine hs_ne (by omega) ?_))) hF3⟩
              refine congrArg (fun qq => some (aI qq)) ?_
              unfold zFd
              rcases Classical.em (zDown (zGo zrr kk) = -1) with hc | hc
              · have e6 : kk = 1500 := by omega
                rw [← e6, hka]
              · rw [zFdK_stay zrr hk (by rw [hka]; exact hc), hka])
          · try (exfalso; omega)
            all_goals (
              refine k_aload_n C dX8_firstDown_21 rfl ?_
              refine k_callV C (n := 0) (as := []) (ct_X8_minute l D tc base oo (oo + 1) _ _ _ (by repeat (first | exact hs_eq _ _ _ | refine hs_ne (by omega) ?_ | assumption)) (by repeat (first | exact hs_eq _ _ _ | refine hs_ne (by omega) ?_ | assumption)) (by omega) hok.1.1 hok.1.2 (by omega)) ml_X8_89 im_X8_minute se_X8_minute ini_X8 co_X8_minute ⟨rfl, by decide, by decide, by decide +kernel⟩ rfl (ci := 8) rfl (by repeat (first | exact hs_eq _ _ _ | refine hs_ne (by omega) ?_ | assumption)) ⟨by decide, by decide⟩ rfl (Nat.le_of_ble_eq_true rfl) ⟨Nat.zero_le _, Nat.zero_le _⟩ dX8_firstDown_22 ?_
              rintro _ _ (⟨rfl, rfl, hmi⟩ | ⟨rfl, rfl, hmi⟩)
              · skip
                simp only [hs_hs]
                refine k_istore_n C dX8_firstDown_25 (by decide) rfl ?_
                refine k_iinc C dX8_firstDown_26 rfl (by decide) rfl ?_
                refine k_goto (tgt := 6) C dX8_firstDown_29 (by decide) ?_
                have e2 : ((kk + 1 : Nat) : Int) = (kk : Int) + 1 := by omega
                have q1 := ih (kk + 1) (by omega) (fun jj hj => by
                  by_cases hjk : jj = kk
                  · subst hjk
                    omega
                  · exact hfd jj (by omega)) (by omega)
                rw [e2] at q1
                exact k_sub q1 (And.intro rfl (And.intro rfl trivial))
              · skip
                simp only [hs_hs]
                refine k_istore_n C dX8_firstDown_25 (by decide) rfl ?_
                refine k_iinc C dX8_firstDown_26 rfl (by decide) rfl ?_
                refine k_goto (tgt := 6) C dX8_firstDown_29 (by decide) ?_
                have e2 : ((kk + 1 : Nat) : Int) = (kk : Int) + 1 := by omega
                have q1 := ih (kk + 1) (by omega) (fun jj hj => by
                  by_cases hjk : jj = kk
                  · subst hjk
                    omega
                  · exact hfd jj (by omega)) (by omega)
                rw [e2] at q1
                exact k_sub q1 (And.intro rfl (And.intro rfl trivial))))
  have q1 := loop6 1501 0 (by omega) (fun jj hj => by omega) (by omega)
  have e0 : hs hla (oo + 1) (eA 0 67 (zGo zrr 0)) = hla := hla0
  rw [e0] at q1
  exact k_sub q1 (And.intro rfl (And.intro rfl trivial))

set_option maxRecDepth 20000 in
set_option maxHeartbeats 1000000 in
theorem ct_X8_downFirst (l : Launch) (D : va_G) (tc : Nat → ClassId) (base : Nat) (oo : Nat) (zrr hhi htx has hro : Int → Int) (st ln th re du hsh : Int) (hpp : AH) (hM : MA hpp oo zrr hhi htx has hro st ln th re du hsh) (hi : zInv zrr) (ha : zrr 18 + zrr 19 ≤ zrr 13) (h13 : zrr 13 ≤ 20000) : CT l D tc base yX8_downFirst cX8_downFirst 1 (some .int) 7 [aR oo] hpp (fun r h' => (True ∧ r = some (aI (zFd zrr)) ∧ (∃ hax : Int → Int, MA h' oo (zrr) (hhi) (htx) (hax) (hro) (st) (ln) (0) (re) (du) (hsh)) ∧ Fr hpp h' oo 6)) := by
  refine CT.of [some (aR oo)] (by decide +kernel) rfl (Nat.le_of_ble_eq_true rfl) ?_
  intro p e s m args below meth c C hr hnm
  obtain ⟨g0, g1, g2, g3, g4, g5⟩ := id hM
  refine k_aload_n C dX8_downFirst_0 rfl ?_
  refine k_iconst C dX8_downFirst_1 ?_
  refine k_put C (k := 5) inX8 tyX8_ok nmX8 (ci := 8) rfl (by decide) fl_X8_25 rfl (Nat.le_of_ble_eq_true rfl) dX8_downFirst_2 (by repeat (first | exact hs_eq _ _ _ | refine hs_ne (by omega) ?_ | assumption)) ?_
  refine k_aload_n C dX8_downFirst_5 rfl ?_
  refine k_callV C (n := 0) (as := []) (ct_X8_firstDown l D tc base oo zrr hhi htx has hro st ln _ re du hsh _ ⟨(by repeat (first | exact hs_eq _ _ _ | refine hs_ne (by omega) ?_ | assumption)), (by repeat (first | exact hs_eq _ _ _ | refine hs_ne (by omega) ?_ | assumption)), (by repeat (first | exact hs_eq _ _ _ | refine hs_ne (by omega) ?_ | assumption)), (by repeat (first | exact hs_eq _ _ _ | refine hs_ne (by omega) ?_ | assumption)), (by repeat (first | exact hs_eq _ _ _ | refine hs_ne (by omega) ?_ | assumption)), (by repeat (first | exact hs_eq _ _ _ | refine hs_ne (by omega) ?_ | assumption))⟩ hi ha h13) ml_X8_191 im_X8_firstDown se_X8_firstDown ini_X8 co_X8_firstDown ⟨rfl, by decide, by decide, by decide +kernel⟩ rfl (ci := 8) rfl (by repeat (first | exact hs_eq _ _ _ | refine hs_ne (by omega) ?_ | assumption)) ⟨by decide, by decide⟩ rfl (Nat.le_of_ble_eq_true rfl) ⟨Nat.zero_le _, Nat.zero_le _⟩ dX8_downFirst_6 ?_
  rintro _ _ ⟨rfl, hx3, hF3⟩
  refine k_iret C hr dX8_downFirst_9 ?_
  exact ⟨trivial, rfl, hx3, Fr.tr (fun aaa haa => by repeat (first | rfl | refine hs_ne (by omega) ?_)) hF3⟩
