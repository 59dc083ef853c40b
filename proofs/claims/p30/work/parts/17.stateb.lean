set_option maxRecDepth 20000 in
set_option maxHeartbeats 1000000 in
theorem ct_X3_hourShown (l : Launch) (D : va_G) (tc : Nat → ClassId) (base : Nat) (oo : Nat) (hpp : AH) (x0 x1 x2 x3 x4 : AV) (ti : Int) (xs : List AV) (g0 : hpp oo = some (eO 3 (x0 :: x1 :: x2 :: x3 :: x4 :: aI ti :: xs))) (h0 : 0 ≤ ti) (h1 : ti < 720) : CT l D tc base yX3_hourShown cX3_hourShown 2 (some .int) 0 [aR oo] hpp (fun r h' => r = some (aI (zHour ti)) ∧ hpp = h') := by
  refine CT.of [some (aR oo), none] (by decide +kernel) rfl (Nat.le_of_ble_eq_true rfl) ?_
  intro p e s m args below meth c C hr hnm
  refine k_aload_n C dX3_hourShown_0 rfl ?_
  refine k_get C (k := 5) inX3 (ci := 3) rfl (by decide) fl_X3_62 dX3_hourShown_1 (by repeat (first | exact hs_eq _ _ _ | refine hs_ne (by omega) ?_ | assumption)) rfl ?_
  refine k_bipush C dX3_hourShown_4 (by decide +kernel) ?_
  refine k_idiv C dX3_hourShown_6 (by omega) (by omega) (by omega) (by omega) ?_
  refine k_istore_n C dX3_hourShown_7 (by decide) rfl ?_
  refine k_iload_n C dX3_hourShown_8 rfl ?_
  refine k_if_ne (tgt := 17) C dX3_hourShown_9 (by decide) ⟨by omega, by omega⟩ (fun c9 => ?_) (fun c9 => ?_)
  · try (exfalso; omega)
    all_goals (
      refine k_iload_n C dX3_hourShown_17 rfl ?_
      refine k_iret C hr dX3_hourShown_18 ?_
      refine ⟨?_, rfl⟩
      unfold zHour
      split <;> first | rfl | (exfalso; omega))
  · try (exfalso; omega)
    all_goals (
      refine k_bipush C dX3_hourShown_12 (by decide +kernel) ?_
      refine k_goto (tgt := 18) C dX3_hourShown_14 (by decide) ?_
      refine k_iret C hr dX3_hourShown_18 ?_
      refine ⟨?_, rfl⟩
      unfold zHour
      split <;> first | rfl | (exfalso; omega))

set_option maxRecDepth 20000 in
set_option maxHeartbeats 1000000 in
theorem ct_X3_isSilent (l : Launch) (D : va_G) (tc : Nat → ClassId) (base : Nat) (oo : Nat) (zrr : RZ) (hpp : AH) (hS : SAt hpp oo zrr) (hi : zInv zrr) : CT l D tc base yX3_isSilent cX3_isSilent 2 (some .boolean) 1 [aR oo] hpp (fun r h' => (r = some (aI 1) ∧ hpp = h' ∧ zSil zrr) ∨ (r = some (aI 0) ∧ hpp = h' ∧ ¬ zSil zrr)) := by
  refine CT.of [some (aR oo), none] (by decide +kernel) rfl (Nat.le_of_ble_eq_true rfl) ?_
  intro p e s m args below meth c C hr hnm
  obtain ⟨f1, f2, f3, w1, w2, w3, w4, w5, d1, d2, se, ⟨g0, g1, g2, g3, g4, g5, g6, g7, g8, g9, g10, g11, g12, g13, g14⟩, hsr⟩ := id hS
  obtain ⟨r1, r2, r3, r4⟩ := id hsr
  obtain ⟨⟨v0, v1, v2, v9, v10, v11, v12, v13, v21, v52, v61, v62, v63, v64, v65, v66⟩, hwi, hde⟩ := id hi
  have s0 : se 0 = zrr 61 := r4 0 (by omega) (by omega)
  have s1 : se 1 = zrr 62 := r4 1 (by omega) (by omega)
  have s2 : se 2 = zrr 63 := r4 2 (by omega) (by omega)
  have s3 : se 3 = zrr 64 := r4 3 (by omega) (by omega)
  have s4 : se 4 = zrr 65 := r4 4 (by omega) (by omega)
  have s5 : se 5 = zrr 66 := r4 5 (by omega) (by omega)
  have hh := zHour_rng v10.1 v10.2
  refine k_aload_n C dX3_isSilent_0 rfl ?_
  refine k_get C (k := 3) inX3 (ci := 3) rfl (by decide) fl_X3_32 dX3_isSilent_1 (by repeat (first | exact hs_eq _ _ _ | refine hs_ne (by omega) ?_ | assumption)) rfl ?_
  refine k_iconst C dX3_isSilent_4 ?_
  refine k_iaload C dX3_isSilent_5 (by repeat (first | exact hs_eq _ _ _ | refine hs_ne (by omega) ?_ | assumption)) (by omega) (by omega) (by omega) ?_
  refine k_istore_n C dX3_isSilent_6 (by decide) rfl ?_
  refine k_iload_n C dX3_isSilent_7 rfl ?_
  refine k_if_eq (tgt := 35) C dX3_isSilent_8 (by decide) ⟨by omega, by omega⟩ (fun c8 => ?_) (fun c8 => ?_)
  · try (exfalso; omega)
    all_goals (
      refine k_iconst C dX3_isSilent_35 ?_
      refine k_zret C hr dX3_isSilent_36 (by omega) ?_
      first | exact Or.inl ⟨rfl, rfl, by omega, by omega⟩ | exact Or.inr ⟨rfl, rfl, by omega⟩)
  · try (exfalso; omega)
    all_goals (
      refine k_aload_n C dX3_isSilent_11 rfl ?_
      refine k_callV C (n := 0) (as := []) (ct_X3_hourShown l D tc base oo _ _ _ _ _ _ _ _ (by repeat (first | exact hs_eq _ _ _ | refine hs_ne (by omega) ?_ | assumption)) (by omega) (by omega)) ml_X3_92 im_X3_hourShown se_X3_hourShown ini_X3 co_X3_hourShown ⟨rfl, by decide, by decide, by decide +kernel⟩ rfl (ci := 3) rfl (by repeat (first | exact hs_eq _ _ _ | refine hs_ne (by omega) ?_ | assumption)) ⟨by decide, by decide⟩ rfl (Nat.le_of_ble_eq_true rfl) ⟨Nat.zero_le _, Nat.zero_le _⟩ dX3_isSilent_12 ?_
      rintro _ _ ⟨rfl, rfl⟩
      refine k_iload_n C dX3_isSilent_15 rfl ?_
      refine k_isub C dX3_isSilent_16 ?_
      refine k_bipush C dX3_isSilent_17 (by decide +kernel) ?_
      refine k_callS C (n := 2) (as := [_, _]) (ct_J9_floorMod_7cf53 l D tc base _ _ _ ⟨by omega, by omega⟩ (Or.inl rfl)) ml_X3_96 sm_J9_floorMod_7cf53 ini_J9 co_J9_floorMod_7cf53 ⟨by decide, by decide, by decide +kernel⟩ rfl ⟨by decide, by decide⟩ rfl (Nat.le_of_ble_eq_true rfl) ⟨Nat.zero_le _, Nat.zero_le _⟩ dX3_isSilent_19 ?_
      rintro _ _ ⟨rfl, rfl⟩
      refine k_aload_n C dX3_isSilent_22 rfl ?_
      refine k_get C (k := 3) inX3 (ci := 3) rfl (by decide) fl_X3_32 dX3_isSilent_23 (by repeat (first | exact hs_eq _ _ _ | refine hs_ne (by omega) ?_ | assumption)) rfl ?_
      refine k_iconst C dX3_isSilent_26 ?_
      refine k_iaload C dX3_isSilent_27 (by repeat (first | exact hs_eq _ _ _ | refine hs_ne (by omega) ?_ | assumption)) (by omega) (by omega) (by omega) ?_
      refine k_icmp_ge (tgt := 35) C dX3_isSilent_28 (by decide) ⟨by omega, by omega⟩ ⟨by omega, by omega⟩ (fun c28 => ?_) (fun c28 => ?_)
      · try (exfalso; omega)
        all_goals (
          refine k_iconst C dX3_isSilent_35 ?_
          refine k_zret C hr dX3_isSilent_36 (by omega) ?_
          first | exact Or.inl ⟨rfl, rfl, by omega, by omega⟩ | exact Or.inr ⟨rfl, rfl, by omega⟩)
      · try (exfalso; omega)
        all_goals (
          refine k_iconst C dX3_isSilent_31 ?_
          refine k_goto (tgt := 36) C dX3_isSilent_32 (by decide) ?_
          refine k_zret C hr dX3_isSilent_36 (by omega) ?_
          first | exact Or.inl ⟨rfl, rfl, by omega, by omega⟩ | exact Or.inr ⟨rfl, rfl, by omega⟩))

set_option maxRecDepth 20000 in
set_option maxHeartbeats 1000000 in
theorem ct_X3_areStrikersKeptOut (l : Launch) (D : va_G) (tc : Nat → ClassId) (base : Nat) (oo : Nat) (zrr : RZ) (hpp : AH) (hS : SAt hpp oo zrr) (hi : zInv zrr) : CT l D tc base yX3_areStrikersKeptOut cX3_areStrikersKeptOut 1 (some .boolean) 0 [aR oo] hpp (fun r h' => (r = some (aI 1) ∧ hpp = h' ∧ 0 < zrr 52 ∧ ¬ zrr 1 = 0) ∨ (r = some (aI 0) ∧ hpp = h' ∧ ¬ (0 < zrr 52 ∧ ¬ zrr 1 = 0))) := by
  refine CT.of [some (aR oo)] (by decide +kernel) rfl (Nat.le_of_ble_eq_true rfl) ?_
  intro p e s m args below meth c C hr hnm
  obtain ⟨f1, f2, f3, w1, w2, w3, w4, w5, d1, d2, se, ⟨g0, g1, g2, g3, g4, g5, g6, g7, g8, g9, g10, g11, g12, g13, g14⟩, hsr⟩ := id hS
  obtain ⟨r1, r2, r3, r4⟩ := id hsr
  obtain ⟨⟨v0, v1, v2, v9, v10, v11, v12, v13, v21, v52, v61, v62, v63, v64, v65, v66⟩, hwi, hde⟩ := id hi
  have t0 : f1 0 = zrr 0 := (r1 0 (by omega) (by omega)).1
  have t1 : f1 1 = zrr 1 := (r1 1 (by omega) (by omega)).1
  have t2 : f1 2 = zrr 2 := (r1 2 (by omega) (by omega)).1
  refine k_aload_n C dX3_areStrikersKeptOut_0 rfl ?_
  refine k_get C (k := 2) inX3 (ci := 3) rfl (by decide) fl_X3_28 dX3_areStrikersKeptOut_1 (by repeat (first | exact hs_eq _ _ _ | refine hs_ne (by omega) ?_ | assumption)) rfl ?_
  refine k_get C (k := 0) inX0 (ci := 0) rfl (by decide) fl_X3_152 dX3_areStrikersKeptOut_4 (by repeat (first | exact hs_eq _ _ _ | refine hs_ne (by omega) ?_ | assumption)) rfl ?_
  refine k_if_le (tgt := 26) C dX3_areStrikersKeptOut_7 (by decide) ⟨by omega, by omega⟩ (fun c7 => ?_) (fun c7 => ?_)
  · try (exfalso; omega)
    all_goals (
      refine k_iconst C dX3_areStrikersKeptOut_26 ?_
      refine k_zret C hr dX3_areStrikersKeptOut_27 (by omega) ?_
      first | exact Or.inl ⟨rfl, rfl, by omega, by omega⟩ | exact Or.inr ⟨rfl, rfl, by omega⟩)
  · try (exfalso; omega)
    all_goals (
      refine k_aload_n C dX3_areStrikersKeptOut_10 rfl ?_
      refine k_get C (k := 0) inX3 (ci := 3) rfl (by decide) fl_X3_12 dX3_areStrikersKeptOut_11 (by repeat (first | exact hs_eq _ _ _ | refine hs_ne (by omega) ?_ | assumption)) rfl ?_
      refine k_get C (k := 0) inX5 (ci := 5) rfl (by decide) fl_X3_155 dX3_areStrikersKeptOut_14 (by repeat (first | exact hs_eq _ _ _ | refine hs_ne (by omega) ?_ | assumption)) rfl ?_
      refine k_iconst C dX3_areStrikersKeptOut_17 ?_
      refine k_iaload C dX3_areStrikersKeptOut_18 (by repeat (first | exact hs_eq _ _ _ | refine hs_ne (by omega) ?_ | assumption)) (by omega) (by omega) (by omega) ?_
      refine k_if_eq (tgt := 26) C dX3_areStrikersKeptOut_19 (by decide) ⟨by omega, by omega⟩ (fun c19 => ?_) (fun c19 => ?_)
      · try (exfalso; omega)
        all_goals (
          refine k_iconst C dX3_areStrikersKeptOut_26 ?_
          refine k_zret C hr dX3_areStrikersKeptOut_27 (by omega) ?_
          first | exact Or.inl ⟨rfl, rfl, by omega, by omega⟩ | exact Or.inr ⟨rfl, rfl, by omega⟩)
      · try (exfalso; omega)
        all_goals (
          refine k_iconst C dX3_areStrikersKeptOut_22 ?_
          refine k_goto (tgt := 27) C dX3_areStrikersKeptOut_23 (by decide) ?_
          refine k_zret C hr dX3_areStrikersKeptOut_27 (by omega) ?_
          first | exact Or.inl ⟨rfl, rfl, by omega, by omega⟩ | exact Or.inr ⟨rfl, rfl, by omega⟩))

set_option maxRecDepth 20000 in
set_option maxHeartbeats 1000000 in
theorem ct_X3_isSlippery (l : Launch) (D : va_G) (tc : Nat → ClassId) (base : Nat) (oo : Nat) (hpp : AH) (x0 x1 x2 x3 : AV) (y4 y5 y6 y7 y8 y9 y10 y11 y12 y13 y14 y15 : Int) (g0 : hpp oo = some (eO 3 [x0, x1, x2, x3, aI y4, aI y5, aI y6, aI y7, aI y8, aI y9, aI y10, aI y11, aI y12, aI y13, aI y14, aI y15])) (se : Int → Int) (hx3 : x3 = aR (oo + 14)) (g14 : hpp (oo + 14) = some (eA 0 6 se)) (ha : 0 ≤ y7 ∧ y7 ≤ 20) (hb : 0 ≤ y8 ∧ y8 ≤ 20) (hc : 1 ≤ se 2 ∧ se 2 ≤ 20) : CT l D tc base yX3_isSlippery cX3_isSlippery 1 (some .boolean) 0 [aR oo] hpp (fun r h' => (r = some (aI 1) ∧ hpp = h' ∧ se 2 - y8 < y7) ∨ (r = some (aI 0) ∧ hpp = h' ∧ ¬ se 2 - y8 < y7)) := by
  refine CT.of [some (aR oo)] (by decide +kernel) rfl (Nat.le_of_ble_eq_true rfl) ?_
  intro p e s m args below meth c C hr hnm
  subst hx3
  refine k_aload_n C dX3_isSlippery_0 rfl ?_
  refine k_get C (k := 7) inX3 (ci := 3) rfl (by decide) fl_X3_65 dX3_isSlippery_1 (by repeat (first | exact hs_eq _ _ _ | refine hs_ne (by omega) ?_ | assumption)) rfl ?_
  refine k_aload_n C dX3_isSlippery_4 rfl ?_
  refine k_get C (k := 3) inX3 (ci := 3) rfl (by decide) fl_X3_32 dX3_isSlippery_5 (by repeat (first | exact hs_eq _ _ _ | refine hs_ne (by omega) ?_ | assumption)) rfl ?_
  refine k_iconst C dX3_isSlippery_8 ?_
  refine k_iaload C dX3_isSlippery_9 (by repeat (first | exact hs_eq _ _ _ | refine hs_ne (by omega) ?_ | assumption)) (by omega) (by omega) (by omega) ?_
  refine k_aload_n C dX3_isSlippery_10 rfl ?_
  refine k_get C (k := 8) inX3 (ci := 3) rfl (by decide) fl_X3_68 dX3_isSlippery_11 (by repeat (first | exact hs_eq _ _ _ | refine hs_ne (by omega) ?_ | assumption)) rfl ?_
  refine k_isub C dX3_isSlippery_14 ?_
  refine k_icmp_le (tgt := 22) C dX3_isSlippery_15 (by decide) ⟨by omega, by omega⟩ ⟨by omega, by omega⟩ (fun c15 => ?_) (fun c15 => ?_)
  · try (exfalso; omega)
    all_goals (
      refine k_iconst C dX3_isSlippery_22 ?_
      refine k_zret C hr dX3_isSlippery_23 (by omega) ?_
      first | exact Or.inl ⟨rfl, rfl, by omega⟩ | exact Or.inr ⟨rfl, rfl, by omega⟩)
  · try (exfalso; omega)
    all_goals (
      refine k_iconst C dX3_isSlippery_18 ?_
      refine k_goto (tgt := 23) C dX3_isSlippery_19 (by decide) ?_
      refine k_zret C hr dX3_isSlippery_23 (by omega) ?_
      first | exact Or.inl ⟨rfl, rfl, by omega⟩ | exact Or.inr ⟨rfl, rfl, by omega⟩)

set_option maxRecDepth 20000 in
set_option maxHeartbeats 1000000 in
theorem ct_X3_slip (l : Launch) (D : va_G) (tc : Nat → ClassId) (base : Nat) (oo : Nat) (hpp : AH) (x0 x1 x2 x3 : AV) (y4 y5 y6 y7 y8 y9 y10 y11 y12 y13 y14 y15 : Int) (g0 : hpp oo = some (eO 3 [x0, x1, x2, x3, aI y4, aI y5, aI y6, aI y7, aI y8, aI y9, aI y10, aI y11, aI y12, aI y13, aI y14, aI y15])) (ha : 0 ≤ y13 ∧ y13 ≤ 1000000) (hb : 0 ≤ y8 ∧ y8 ≤ 20) : CT l D tc base yX3_slip cX3_slip 1 none 0 [aR oo] hpp (fun r h' => r = none ∧ h' = hs hpp oo (eO 3 [x0, x1, x2, x3, aI y4, aI y5, aI y6, aI y7, aI (y8 + if (y13 + 1) % 5 = 0 ∧ y8 < 20 then 1 else 0), aI y9, aI y10, aI y11, aI y12, aI (y13 + 1), aI y14, aI y15])) := by
  refine CT.of [some (aR oo)] (by decide +kernel) rfl (Nat.le_of_ble_eq_true rfl) ?_
  intro p e s m args below meth c C hr hnm
  refine k_aload_n C dX3_slip_0 rfl ?_
  refine k_dup C dX3_slip_1 rfl ?_
  refine k_get C (k := 13) inX3 (ci := 3) rfl (by decide) fl_X3_83 dX3_slip_2 (by repeat (first | exact hs_eq _ _ _ | refine hs_ne (by omega) ?_ | assumption)) rfl ?_
  refine k_iconst C dX3_slip_5 ?_
  refine k_iadd C dX3_slip_6 ?_
  refine k_put C (k := 13) inX3 tyX3_ok nmX3 (ci := 3) rfl (by decide) fl_X3_83 rfl (Nat.le_of_ble_eq_true rfl) dX3_slip_7 (by repeat (first | exact hs_eq _ _ _ | refine hs_ne (by omega) ?_ | assumption)) ?_
  refine k_aload_n C dX3_slip_10 rfl ?_
  refine k_get C (k := 13) inX3 (ci := 3) rfl (by decide) fl_X3_83 dX3_slip_11 (by repeat (first | exact hs_eq _ _ _ | refine hs_ne (by omega) ?_ | assumption)) rfl ?_
  refine k_iconst C dX3_slip_14 ?_
  refine k_irem C dX3_slip_15 (by omega) (by omega) (by omega) (by omega) ?_
  refine k_if_ne (tgt := 38) C dX3_slip_16 (by decide) ⟨by omega, by omega⟩ (fun c16 => ?_) (fun c16 => ?_)
  · try (exfalso; omega)
    all_goals (
      refine k_vret C hr dX3_slip_38 ?_
      refine ⟨rfl, ?_⟩
      first
        | (rw [if_pos (by omega), hs_hs]; rfl)
        | (rw [if_neg (by omega), Int.add_zero]; rfl))
  · try (exfalso; omega)
    all_goals (
      refine k_aload_n C dX3_slip_19 rfl ?_
      refine k_get C (k := 8) inX3 (ci := 3) rfl (by decide) fl_X3_68 dX3_slip_20 (by repeat (first | exact hs_eq _ _ _ | refine hs_ne (by omega) ?_ | assumption)) rfl ?_
      refine k_bipush C dX3_slip_23 (by decide +kernel) ?_
      refine k_icmp_ge (tgt := 38) C dX3_slip_25 (by decide) ⟨by omega, by omega⟩ ⟨by omega, by omega⟩ (fun c25 => ?_) (fun c25 => ?_)
      · try (exfalso; omega)
        all_goals (
          refine k_vret C hr dX3_slip_38 ?_
          refine ⟨rfl, ?_⟩
          first
            | (rw [if_pos (by omega), hs_hs]; rfl)
            | (rw [if_neg (by omega), Int.add_zero]; rfl))
      · try (exfalso; omega)
        all_goals (
          refine k_aload_n C dX3_slip_28 rfl ?_
          refine k_dup C dX3_slip_29 rfl ?_
          refine k_get C (k := 8) inX3 (ci := 3) rfl (by decide) fl_X3_68 dX3_slip_30 (by repeat (first | exact hs_eq _ _ _ | refine hs_ne (by omega) ?_ | assumption)) rfl ?_
          refine k_iconst C dX3_slip_33 ?_
          refine k_iadd C dX3_slip_34 ?_
          refine k_put C (k := 8) inX3 tyX3_ok nmX3 (ci := 3) rfl (by decide) fl_X3_68 rfl (Nat.le_of_ble_eq_true rfl) dX3_slip_35 (by repeat (first | exact hs_eq _ _ _ | refine hs_ne (by omega) ?_ | assumption)) ?_
          refine k_vret C hr dX3_slip_38 ?_
          refine ⟨rfl, ?_⟩
          first
            | (rw [if_pos (by omega), hs_hs]; rfl)
            | (rw [if_neg (by omega), Int.add_zero]; rfl)))

set_option maxRecDepth 20000 in
set_option maxHeartbeats 1000000 in
theorem ct_X3_letWinderCome (l : Launch) (D : va_G) (tc : Nat → ClassId) (base : Nat) (oo : Nat) (zrr : RZ) (hpp : AH) (hS : SAt hpp oo zrr) (hi : zInv zrr) (hm : zrr 13 ≤ 100000) : CT l D tc base yX3_letWinderCome cX3_letWinderCome 2 none 2 [aR oo] hpp (fun r h' => r = none ∧ SAt h' oo (zOne zrr) ∧ Fr hpp h' oo 15) := by
  refine CT.of [some (aR oo), none] (by decide +kernel) rfl (Nat.le_of_ble_eq_true rfl) ?_
  intro p e s m args below meth c C hr hnm
  obtain ⟨f1, f2, f3, w1, w2, w3, w4, w5, d1, d2, se, ⟨g0, g1, g2, g3, g4, g5, g6, g7, g8, g9, g10, g11, g12, g13, g14⟩, hsr⟩ := id hS
  obtain ⟨r1, r2, r3, r4⟩ := id hsr
  obtain ⟨⟨v0, v1, v2, v9, v10, v11, v12, v13, v21, v52, v61, v62, v63, v64, v65, v66⟩, hwi, hde⟩ := id hi
  have hcr := zCom_rng hi
  refine k_aload_n C dX3_letWinderCome_0 rfl ?_
  refine k_get C (k := 1) inX3 (ci := 3) rfl (by decide) fl_X3_21 dX3_letWinderCome_1 (by repeat (first | exact hs_eq _ _ _ | refine hs_ne (by omega) ?_ | assumption)) rfl ?_
  refine k_aload_n C dX3_letWinderCome_4 rfl ?_
  refine k_get C (k := 4) inX3 (ci := 3) rfl (by decide) fl_X3_59 dX3_letWinderCome_5 (by repeat (first | exact hs_eq _ _ _ | refine hs_ne (by omega) ?_ | assumption)) rfl ?_
  refine k_aload_n C dX3_letWinderCome_8 rfl ?_
  refine k_callV C (n := 0) (as := []) (ct_X3_areStrikersKeptOut l D tc base oo zrr _ hS hi) ml_X3_127 im_X3_areStrikersKeptOut se_X3_areStrikersKeptOut ini_X3 co_X3_areStrikersKeptOut ⟨rfl, by decide, by decide, by decide +kernel⟩ rfl (ci := 3) rfl (by repeat (first | exact hs_eq _ _ _ | refine hs_ne (by omega) ?_ | assumption)) ⟨by decide, by decide⟩ rfl (Nat.le_of_ble_eq_true rfl) ⟨Nat.zero_le _, Nat.zero_le _⟩ dX3_letWinderCome_9 ?_
  rintro _ _ (⟨rfl, rfl, hq⟩ | ⟨rfl, rfl, hq⟩)
  · skip
    refine k_callV C (n := 2) (as := [_, _]) (ct_X6_whoComes l D tc base _ (oo + 5) w1 w2 w3 w4 w5 (zrr 21) (by repeat (first | exact hs_eq _ _ _ | refine hs_ne (by omega) ?_ | assumption)) (by repeat (first | exact hs_eq _ _ _ | refine hs_ne (by omega) ?_ | assumption)) (by repeat (first | exact hs_eq _ _ _ | refine hs_ne (by omega) ?_ | assumption)) (by repeat (first | exact hs_eq _ _ _ | refine hs_ne (by omega) ?_ | assumption)) (by repeat (first | exact hs_eq _ _ _ | refine hs_ne (by omega) ?_ | assumption)) (by repeat (first | exact hs_eq _ _ _ | refine hs_ne (by omega) ?_ | assumption)) zrr _ hi hm rfl (fun kk h0 h1 => ⟨(r2 kk h0 h1).1, (r2 kk h0 h1).2.2.2.1⟩) (by omega)) ml_X3_130 im_X6_whoComes se_X6_whoComes ini_X6 co_X6_whoComes ⟨rfl, by decide, by decide, by decide +kernel⟩ rfl (ci := 6) rfl (by repeat (first | exact hs_eq _ _ _ | refine hs_ne (by omega) ?_ | assumption)) ⟨by decide, by decide⟩ rfl (Nat.le_of_ble_eq_true rfl) ⟨Nat.zero_le _, Nat.zero_le _⟩ dX3_letWinderCome_12 ?_
    rintro _ _ ⟨rfl, rfl⟩
    refine k_istore_n C dX3_letWinderCome_15 (by decide) rfl ?_
    refine k_iload_n C dX3_letWinderCome_16 rfl ?_
    refine k_if_lt (tgt := 26) C dX3_letWinderCome_17 (by decide) ⟨by omega, by omega⟩ (fun c17 => ?_) (fun c17 => ?_)
    · try (exfalso; omega)
      all_goals (
        refine k_vret C hr dX3_letWinderCome_26 ?_
        first
          | exact ⟨rfl, by rw [zOne, if_pos (by omega)]; exact hS, Fr.rf _ _ _⟩
          | (have hz : zOne zrr = iu (iu (zWind zrr (zrr (22 + 5 * zCom zrr)) (zrr (22 + 5 * zCom zrr + 1))) (22 + 5 * zCom zrr + 3) (zrr 13 + zrr (22 + 5 * zCom zrr + 2))) (22 + 5 * zCom zrr + 4) (zrr (22 + 5 * zCom zrr + 4) + 1) := if_neg (by omega)
             rw [rc.2.2.1, rc.2.2.2.2]
             refine ⟨rfl, ?_, fun aaa haa => by repeat (first | rfl | refine hs_ne (by omega) ?_)⟩
             rw [hz]
             refine ⟨_, f2, _, w1, w2, w3, _, _, d1, d2, se, ⟨by (try simp (disch := omega) only [iu_ne, iu_eq, zWind_ne, zTake_ne, zChim_ne, zChim_16]); repeat (first | exact hs_eq _ _ _ | refine hs_ne (by omega) ?_ | assumption), (by repeat (first | exact hs_eq _ _ _ | refine hs_ne (by omega) ?_ | assumption)), (by repeat (first | exact hs_eq _ _ _ | refine hs_ne (by omega) ?_ | assumption)), (by repeat (first | exact hs_eq _ _ _ | refine hs_ne (by omega) ?_ | assumption)), (by repeat (first | exact hs_eq _ _ _ | refine hs_ne (by omega) ?_ | assumption)), by (try simp (disch := omega) only [iu_ne, iu_eq, zWind_ne, zTake_ne, zChim_ne, zChim_16]); repeat (first | exact hs_eq _ _ _ | refine hs_ne (by omega) ?_ | assumption), (by repeat (first | exact hs_eq _ _ _ | refine hs_ne (by omega) ?_ | assumption)), (by repeat (first | exact hs_eq _ _ _ | refine hs_ne (by omega) ?_ | assumption)), (by repeat (first | exact hs_eq _ _ _ | refine hs_ne (by omega) ?_ | assumption)), (by repeat (first | exact hs_eq _ _ _ | refine hs_ne (by omega) ?_ | assumption)), (by repeat (first | exact hs_eq _ _ _ | refine hs_ne (by omega) ?_ | assumption)), by (try simp (disch := omega) only [iu_ne, iu_eq, zWind_ne, zTake_ne, zChim_ne, zChim_16]); repeat (first | exact hs_eq _ _ _ | refine hs_ne (by omega) ?_ | assumption), (by repeat (first | exact hs_eq _ _ _ | refine hs_ne (by omega) ?_ | assumption)), (by repeat (first | exact hs_eq _ _ _ | refine hs_ne (by omega) ?_ | assumption)), (by repeat (first | exact hs_eq _ _ _ | refine hs_ne (by omega) ?_ | assumption))⟩, ?_⟩
             exact ((hsr.wind wc.1.1 wc.1.2).due (by omega) (by omega)).came (by omega) (by omega)))
    · try (exfalso; omega)
      all_goals (
        refine k_iload_n C dX3_letWinderCome_20 rfl ?_
        refine k_bipush C dX3_letWinderCome_21 (by decide +kernel) ?_
        refine k_icmp_lt (tgt := 27) C dX3_letWinderCome_23 (by decide) ⟨by omega, by omega⟩ ⟨by omega, by omega⟩ (fun c23 => ?_) (fun c23 => ?_)
        · try (exfalso; omega)
          all_goals (
            refine k_aload_n C dX3_letWinderCome_27 rfl ?_
            refine k_get C (k := 0) inX3 (ci := 3) rfl (by decide) fl_X3_12 dX3_letWinderCome_28 (by repeat (first | exact hs_eq _ _ _ | refine hs_ne (by omega) ?_ | assumption)) rfl ?_
            refine k_aload_n C dX3_letWinderCome_31 rfl ?_
            refine k_get C (k := 1) inX3 (ci := 3) rfl (by decide) fl_X3_21 dX3_letWinderCome_32 (by repeat (first | exact hs_eq _ _ _ | refine hs_ne (by omega) ?_ | assumption)) rfl ?_
            refine k_get C (k := 1) inX6 (ci := 6) rfl (by decide) fl_X3_134 dX3_letWinderCome_35 (by repeat (first | exact hs_eq _ _ _ | refine hs_ne (by omega) ?_ | assumption)) rfl ?_
            refine k_iload_n C dX3_letWinderCome_38 rfl ?_
            refine k_iaload C dX3_letWinderCome_39 (by repeat (first | exact hs_eq _ _ _ | refine hs_ne (by omega) ?_ | assumption)) (by omega) (by omega) (by omega) ?_
            refine k_aload_n C dX3_letWinderCome_40 rfl ?_
            refine k_get C (k := 1) inX3 (ci := 3) rfl (by decide) fl_X3_21 dX3_letWinderCome_41 (by repeat (first | exact hs_eq _ _ _ | refine hs_ne (by omega) ?_ | assumption)) rfl ?_
            refine k_get C (k := 2) inX6 (ci := 6) rfl (by decide) fl_X3_137 dX3_letWinderCome_44 (by repeat (first | exact hs_eq _ _ _ | refine hs_ne (by omega) ?_ | assumption)) rfl ?_
            refine k_iload_n C dX3_letWinderCome_47 rfl ?_
            refine k_iaload C dX3_letWinderCome_48 (by repeat (first | exact hs_eq _ _ _ | refine hs_ne (by omega) ?_ | assumption)) (by omega) (by omega) (by omega) ?_
            have rc := r2 (zCom zrr) (by omega) (by omega)
            have wc := hwi (zCom zrr) (by omega) (by omega)
            have hfw := (r1 (zrr (22 + 5 * zCom zrr)) wc.1.1 (by omega)).1
            have hgw := zInv_hgt hi wc.1.1 wc.1.2
            rw [rc.1, rc.2.1]
            refine k_callV C (n := 2) (as := [_, _]) (ct_X5_raise l D tc base (oo + 1) f1 f2 f3 _ (by repeat (first | exact hs_eq _ _ _ | refine hs_ne (by omega) ?_ | assumption)) (by repeat (first | exact hs_eq _ _ _ | refine hs_ne (by omega) ?_ | assumption)) (by repeat (first | exact hs_eq _ _ _ | refine hs_ne (by omega) ?_ | assumption)) (by repeat (first | exact hs_eq _ _ _ | refine hs_ne (by omega) ?_ | assumption)) _ _ (by omega) (by omega) (by omega) (by omega) (by rw [hfw]; exact hgw.1) (by rw [hfw]; exact hgw.2)) ml_X3_140 im_X5_raise se_X5_raise ini_X5 co_X5_raise ⟨rfl, by decide, by decide, by decide +kernel⟩ rfl (ci := 5) rfl (by repeat (first | exact hs_eq _ _ _ | refine hs_ne (by omega) ?_ | assumption)) ⟨by decide, by decide⟩ rfl (Nat.le_of_ble_eq_true rfl) ⟨Nat.zero_le _, Nat.zero_le _⟩ dX3_letWinderCome_49 ?_
            rintro _ _ ⟨rfl, rfl⟩
            refine k_pop C dX3_letWinderCome_52 rfl ?_
            refine k_aload_n C dX3_letWinderCome_53 rfl ?_
            refine k_get C (k := 1) inX3 (ci := 3) rfl (by decide) fl_X3_21 dX3_letWinderCome_54 (by repeat (first | exact hs_eq _ _ _ | refine hs_ne (by omega) ?_ | assumption)) rfl ?_
            refine k_get C (k := 5) inX6 (ci := 6) rfl (by decide) fl_X3_143 dX3_letWinderCome_57 (by repeat (first | exact hs_eq _ _ _ | refine hs_ne (by omega) ?_ | assumption)) rfl ?_
            refine k_iload_n C dX3_letWinderCome_60 rfl ?_
            refine k_dup2 C dX3_letWinderCome_61 rfl rfl ?_
            refine k_iaload C dX3_letWinderCome_62 (by repeat (first | exact hs_eq _ _ _ | refine hs_ne (by omega) ?_ | assumption)) (by omega) (by omega) (by omega) ?_
            refine k_iconst C dX3_letWinderCome_63 ?_
            refine k_iadd C dX3_letWinderCome_64 ?_
            refine k_iastore C dX3_letWinderCome_65 (by repeat (first | exact hs_eq _ _ _ | refine hs_ne (by omega) ?_ | assumption)) (by omega) (by omega) (by omega) ?_
            refine k_aload_n C dX3_letWinderCome_66 rfl ?_
            refine k_get C (k := 1) inX3 (ci := 3) rfl (by decide) fl_X3_21 dX3_letWinderCome_67 (by repeat (first | exact hs_eq _ _ _ | refine hs_ne (by omega) ?_ | assumption)) rfl ?_
            refine k_get C (k := 4) inX6 (ci := 6) rfl (by decide) fl_X3_146 dX3_letWinderCome_70 (by repeat (first | exact hs_eq _ _ _ | refine hs_ne (by omega) ?_ | assumption)) rfl ?_
            refine k_iload_n C dX3_letWinderCome_73 rfl ?_
            refine k_aload_n C dX3_letWinderCome_74 rfl ?_
            refine k_get C (k := 4) inX3 (ci := 3) rfl (by decide) fl_X3_59 dX3_letWinderCome_75 (by repeat (first | exact hs_eq _ _ _ | refine hs_ne (by omega) ?_ | assumption)) rfl ?_
            refine k_aload_n C dX3_letWinderCome_78 rfl ?_
            refine k_get C (k := 1) inX3 (ci := 3) rfl (by decide) fl_X3_21 dX3_letWinderCome_79 (by repeat (first | exact hs_eq _ _ _ | refine hs_ne (by omega) ?_ | assumption)) rfl ?_
            refine k_get C (k := 3) inX6 (ci := 6) rfl (by decide) fl_X3_149 dX3_letWinderCome_82 (by repeat (first | exact hs_eq _ _ _ | refine hs_ne (by omega) ?_ | assumption)) rfl ?_
            refine k_iload_n C dX3_letWinderCome_85 rfl ?_
            refine k_iaload C dX3_letWinderCome_86 (by repeat (first | exact hs_eq _ _ _ | refine hs_ne (by omega) ?_ | assumption)) (by omega) (by omega) (by omega) ?_
            refine k_iadd C dX3_letWinderCome_87 ?_
            refine k_iastore C dX3_letWinderCome_88 (by repeat (first | exact hs_eq _ _ _ | refine hs_ne (by omega) ?_ | assumption)) (by omega) (by omega) (by omega) ?_
            refine k_vret C hr dX3_letWinderCome_89 ?_
            first
              | exact ⟨rfl, by rw [zOne, if_pos (by omega)]; exact hS, Fr.rf _ _ _⟩
              | (have hz : zOne zrr = iu (iu (zWind zrr (zrr (22 + 5 * zCom zrr)) (zrr (22 + 5 * zCom zrr + 1))) (22 + 5 * zCom zrr + 3) (zrr 13 + zrr (22 + 5 * zCom zrr + 2))) (22 + 5 * zCom zrr + 4) (zrr (22 + 5 * zCom zrr + 4) + 1) := if_neg (by omega)
                 rw [rc.2.2.1, rc.2.2.2.2]
                 refine ⟨rfl, ?_, fun aaa haa => by repeat (first | rfl | refine hs_ne (by omega) ?_)⟩
                 rw [hz]
                 refine ⟨_, f2, _, w1, w2, w3, _, _, d1, d2, se, ⟨by (try simp (disch := omega) only [iu_ne, iu_eq, zWind_ne, zTake_ne, zChim_ne, zChim_16]); repeat (first | exact hs_eq _ _ _ | refine hs_ne (by omega) ?_ | assumption), (by repeat (first | exact hs_eq _ _ _ | refine hs_ne (by omega) ?_ | assumption)), (by repeat (first | exact hs_eq _ _ _ | refine hs_ne (by omega) ?_ | assumption)), (by repeat (first | exact hs_eq _ _ _ | refine hs_ne (by omega) ?_ | assumption)), (by repeat (first | exact hs_eq _ _ _ | refine hs_ne (by omega) ?_ | assumption)), by (try simp (disch := omega) only [iu_ne, iu_eq, zWind_ne, zTake_ne, zChim_ne, zChim_16]); repeat (first | exact hs_eq _ _ _ | refine hs_ne (by omega) ?_ | assumption), (by repeat (first | exact hs_eq _ _ _ | refine hs_ne (by omega) ?_ | assumption)), (by repeat (first | exact hs_eq _ _ _ | refine hs_ne (by omega) ?_ | assumption)), (by repeat (first | exact hs_eq _ _ _ | refine hs_ne (by omega) ?_ | assumption)), (by repeat (first | exact hs_eq _ _ _ | refine hs_ne (by omega) ?_ | assumption)), (by repeat (first | exact hs_eq _ _ _ | refine hs_ne (by omega) ?_ | assumption)), by (try simp (disch := omega) only [iu_ne, iu_eq, zWind_ne, zTake_ne, zChim_ne, zChim_16]); repeat (first | exact hs_eq _ _ _ | refine hs_ne (by omega) ?_ | assumption), (by repeat (first | exact hs_eq _ _ _ | refine hs_ne (by omega) ?_ | assumption)), (by repeat (first | exact hs_eq _ _ _ | refine hs_ne (by omega) ?_ | assumption)), (by repeat (first | exact hs_eq _ _ _ | refine hs_ne (by omega) ?_ | assumption))⟩, ?_⟩
                 exact ((hsr.wind wc.1.1 wc.1.2).due (by omega) (by omega)).came (by omega) (by omega)))
        · try (exfalso; omega)
          all_goals (
            refine k_vret C hr dX3_letWinderCome_26 ?_
            first
              | exact ⟨rfl, by rw [zOne, if_pos (by omega)]; exact hS, Fr.rf _ _ _⟩
              | (have hz : zOne zrr = iu (iu (zWind zrr (zrr (22 + 5 * zCom zrr)) (zrr (22 + 5 * zCom zrr + 1))) (22 + 5 * zCom zrr + 3) (zrr 13 + zrr (22 + 5 * zCom zrr + 2))) (22 + 5 * zCom zrr + 4) (zrr (22 + 5 * zCom zrr + 4) + 1) := if_neg (by omega)
                 rw [rc.2.2.1, rc.2.2.2.2]
                 refine ⟨rfl, ?_, fun aaa haa => by repeat (first | rfl | refine hs_ne (by omega) ?_)⟩
                 rw [hz]
                 refine ⟨_, f2, _, w1, w2, w3, _, _, d1, d2, se, ⟨by (try simp (disch := omega) only [iu_ne, iu_eq, zWind_ne, zTake_ne, zChim_ne, zChim_16]); repeat (first | exact hs_eq _ _ _ | refine hs_ne (by omega) ?_ | assumption), (by repeat (first | exact hs_eq _ _ _ | refine hs_ne (by omega) ?_ | assumption)), (by repeat (first | exact hs_eq _ _ _ | refine hs_ne (by omega) ?_ | assumption)), (by repeat (first | exact hs_eq _ _ _ | refine hs_ne (by omega) ?_ | assumption)), (by repeat (first | exact hs_eq _ _ _ | refine hs_ne (by omega) ?_ | assumption)), by (try simp (disch := omega) only [iu_ne, iu_eq, zWind_ne, zTake_ne, zChim_ne, zChim_16]); repeat (first | exact hs_eq _ _ _ | refine hs_ne (by omega) ?_ | assumption), (by repeat (first | exact hs_eq _ _ _ | refine hs_ne (by omega) ?_ | assumption)), (by repeat (first | exact hs_eq _ _ _ | refine hs_ne (by omega) ?_ | assumption)), (by repeat (first | exact hs_eq _ _ _ | refine hs_ne (by omega) ?_ | assumption)), (by repeat (first | exact hs_eq _ _ _ | refine hs_ne (by omega) ?_ | assumption)), (by repeat (first | exact hs_eq _ _ _ | refine hs_ne (by omega) ?_ | assumption)), by (try simp (disch := omega) only [iu_ne, iu_eq, zWind_ne, zTake_ne, zChim_ne, zChim_16]); repeat (first | exact hs_eq _ _ _ | refine hs_ne (by omega) ?_ | assumption), (by repeat (first | exact hs_eq _ _ _ | refine hs_ne (by omega) ?_ | assumption)), (by repeat (first | exact hs_eq _ _ _ | refine hs_ne (by omega) ?_ | assumption)), (by repeat (first | exact hs_eq _ _ _ | refine hs_ne (by omega) ?_ | assumption))⟩, ?_⟩
                 exact ((hsr.wind wc.1.1 wc.1.2).due (by omega) (by omega)).came (by omega) (by omega))))
  · skip
    refine k_callV C (n := 2) (as := [_, _]) (ct_X6_whoComes l D tc base _ (oo + 5) w1 w2 w3 w4 w5 (zrr 21) (by repeat (first | exact hs_eq _ _ _ | refine hs_ne (by omega) ?_ | assumption)) (by repeat (first | exact hs_eq _ _ _ | refine hs_ne (by omega) ?_ | assumption)) (by repeat (first | exact hs_eq _ _ _ | refine hs_ne (by omega) ?_ | assumption)) (by repeat (first | exact hs_eq _ _ _ | refine hs_ne (by omega) ?_ | assumption)) (by repeat (first | exact hs_eq _ _ _ | refine hs_ne (by omega) ?_ | assumption)) (by repeat (first | exact hs_eq _ _ _ | refine hs_ne (by omega) ?_ | assumption)) zrr _ hi hm rfl (fun kk h0 h1 => ⟨(r2 kk h0 h1).1, (r2 kk h0 h1).2.2.2.1⟩) (by omega)) ml_X3_130 im_X6_whoComes se_X6_whoComes ini_X6 co_X6_whoComes ⟨rfl, by decide, by decide, by decide +kernel⟩ rfl (ci := 6) rfl (by repeat (first | exact hs_eq _ _ _ | refine hs_ne (by omega) ?_ | assumption)) ⟨by decide, by decide⟩ rfl (Nat.le_of_ble_eq_true rfl) ⟨Nat.zero_le _, Nat.zero_le _⟩ dX3_letWinderCome_12 ?_
    rintro _ _ ⟨rfl, rfl⟩
    refine k_istore_n C dX3_letWinderCome_15 (by decide) rfl ?_
    refine k_iload_n C dX3_letWinderCome_16 rfl ?_
    refine k_if_lt (tgt := 26) C dX3_letWinderCome_17 (by decide) ⟨by omega, by omega⟩ (fun c17 => ?_) (fun c17 => ?_)
    · try (exfalso; omega)
      all_goals (
        refine k_vret C hr dX3_letWinderCome_26 ?_
        first
          | exact ⟨rfl, by rw [zOne, if_pos (by omega)]; exact hS, Fr.rf _ _ _⟩
          | (have hz : zOne zrr = iu (iu (zWind zrr (zrr (22 + 5 * zCom zrr)) (zrr (22 + 5 * zCom zrr + 1))) (22 + 5 * zCom zrr + 3) (zrr 13 + zrr (22 + 5 * zCom zrr + 2))) (22 + 5 * zCom zrr + 4) (zrr (22 + 5 * zCom zrr + 4) + 1) := if_neg (by omega)
             rw [rc.2.2.1, rc.2.2.2.2]
             refine ⟨rfl, ?_, fun aaa haa => by repeat (first | rfl | refine hs_ne (by omega) ?_)⟩
             rw [hz]
             refine ⟨_, f2, _, w1, w2, w3, _, _, d1, d2, se, ⟨by (try simp (disch := omega) only [iu_ne, iu_eq, zWind_ne, zTake_ne, zChim_ne, zChim_16]); repeat (first | exact hs_eq _ _ _ | refine hs_ne (by omega) ?_ | assumption), (by repeat (first | exact hs_eq _ _ _ | refine hs_ne (by omega) ?_ | assumption)), (by repeat (first | exact hs_eq _ _ _ | refine hs_ne (by omega) ?_ | assumption)), (by repeat (first | exact hs_eq _ _ _ | refine hs_ne (by omega) ?_ | assumption)), (by repeat (first | exact hs_eq _ _ _ | refine hs_ne (by omega) ?_ | assumption)), by (try simp (disch := omega) only [iu_ne, iu_eq, zWind_ne, zTake_ne, zChim_ne, zChim_16]); repeat (first | exact hs_eq _ _ _ | refine hs_ne (by omega) ?_ | assumption), (by repeat (first | exact hs_eq _ _ _ | refine hs_ne (by omega) ?_ | assumption)), (by repeat (first | exact hs_eq _ _ _ | refine hs_ne (by omega) ?_ | assumption)), (by repeat (first | exact hs_eq _ _ _ | refine hs_ne (by omega) ?_ | assumption)), (by repeat (first | exact hs_eq _ _ _ | refine hs_ne (by omega) ?_ | assumption)), (by repeat (first | exact hs_eq _ _ _ | refine hs_ne (by omega) ?_ | assumption)), by (try simp (disch := omega) only [iu_ne, iu_eq, zWind_ne, zTake_ne, zChim_ne, zChim_16]); repeat (first | exact hs_eq _ _ _ | refine hs_ne (by omega) ?_ | assumption), (by repeat (first | exact hs_eq _ _ _ | refine hs_ne (by omega) ?_ | assumption)), (by repeat (first | exact hs_eq _ _ _ | refine hs_ne (by omega) ?_ | assumption)), (by repeat (first | exact hs_eq _ _ _ | refine hs_ne (by omega) ?_ | assumption))⟩, ?_⟩
             exact ((hsr.wind wc.1.1 wc.1.2).due (by omega) (by omega)).came (by omega) (by omega)))
    · try (exfalso; omega)
      all_goals (
        refine k_iload_n C dX3_letWinderCome_20 rfl ?_
        refine k_bipush C dX3_letWinderCome_21 (by decide +kernel) ?_
        refine k_icmp_lt (tgt := 27) C dX3_letWinderCome_23 (by decide) ⟨by omega, by omega⟩ ⟨by omega, by omega⟩ (fun c23 => ?_) (fun c23 => ?_)
        · try (exfalso; omega)
          all_goals (
            refine k_aload_n C dX3_letWinderCome_27 rfl ?_
            refine k_get C (k := 0) inX3 (ci := 3) rfl (by decide) fl_X3_12 dX3_letWinderCome_28 (by repeat (first | exact hs_eq _ _ _ | refine hs_ne (by omega) ?_ | assumption)) rfl ?_
            refine k_aload_n C dX3_letWinderCome_31 rfl ?_
            refine k_get C (k := 1) inX3 (ci := 3) rfl (by decide) fl_X3_21 dX3_letWinderCome_32 (by repeat (first | exact hs_eq _ _ _ | refine hs_ne (by omega) ?_ | assumption)) rfl ?_
            refine k_get C (k := 1) inX6 (ci := 6) rfl (by decide) fl_X3_134 dX3_letWinderCome_35 (by repeat (first | exact hs_eq _ _ _ | refine hs_ne (by omega) ?_ | assumption)) rfl ?_
            refine k_iload_n C dX3_letWinderCome_38 rfl ?_
            refine k_iaload C dX3_letWinderCome_39 (by repeat (first | exact hs_eq _ _ _ | refine hs_ne (by omega) ?_ | assumption)) (by omega) (by omega) (by omega) ?_
            refine k_aload_n C dX3_letWinderCome_40 rfl ?_
            refine k_get C (k := 1) inX3 (ci := 3) rfl (by decide) fl_X3_21 dX3_letWinderCome_41 (by repeat (first | exact hs_eq _ _ _ | refine hs_ne (by omega) ?_ | assumption)) rfl ?_
            refine k_get C (k := 2) inX6 (ci := 6) rfl (by decide) fl_X3_137 dX3_letWinderCome_44 (by repeat (first | exact hs_eq _ _ _ | refine hs_ne (by omega) ?_ | assumption)) rfl ?_
            refine k_iload_n C dX3_letWinderCome_47 rfl ?_
            refine k_iaload C dX3_letWinderCome_48 (by repeat (first | exact hs_eq _ _ _ | refine hs_ne (by omega) ?_ | assumption)) (by omega) (by omega) (by omega) ?_
            have rc := r2 (zCom zrr) (by omega) (by omega)
            have wc := hwi (zCom zrr) (by omega) (by omega)
            have hfw := (r1 (zrr (22 + 5 * zCom zrr)) wc.1.1 (by omega)).1
            have hgw := zInv_hgt hi wc.1.1 wc.1.2
            rw [rc.1, rc.2.1]
            refine k_callV C (n := 2) (as := [_, _]) (ct_X5_raise l D tc base (oo + 1) f1 f2 f3 _ (by repeat (first | exact hs_eq _ _ _ | refine hs_ne (by omega) ?_ | assumption)) (by repeat (first | exact hs_eq _ _ _ | refine hs_ne (by omega) ?_ | assumption)) (by repeat (first | exact hs_eq _ _ _ | refine hs_ne (by omega) ?_ | assumption)) (by repeat (first | exact hs_eq _ _ _ | refine hs_ne (by omega) ?_ | assumption)) _ _ (by omega) (by omega) (by omega) (by omega) (by rw [hfw]; exact hgw.1) (by rw [hfw]; exact hgw.2)) ml_X3_140 im_X5_raise se_X5_raise ini_X5 co_X5_raise ⟨rfl, by decide, by decide, by decide +kernel⟩ rfl (ci := 5) rfl (by repeat (first | exact hs_eq _ _ _ | refine hs_ne (by omega) ?_ | assumption)) ⟨by decide, by decide⟩ rfl (Nat.le_of_ble_eq_true rfl) ⟨Nat.zero_le _, Nat.zero_le _⟩ dX3_letWinderCome_49 ?_
            rintro _ _ ⟨rfl, rfl⟩
            refine k_pop C dX3_letWinderCome_52 rfl ?_
            refine k_aload_n C dX3_letWinderCome_53 rfl ?_
            refine k_get C (k := 1) inX3 (ci := 3) rfl (by decide) fl_X3_21 dX3_letWinderCome_54 (by repeat (first | exact hs_eq _ _ _ | refine hs_ne (by omega) ?_ | assumption)) rfl ?_
            refine k_get C (k := 5) inX6 (ci := 6) rfl (by decide) fl_X3_143 dX3_letWinderCome_57 (by repeat (first | exact hs_eq _ _ _ | refine hs_ne (by omega) ?_ | assumption)) rfl ?_
            refine k_iload_n C dX3_letWinderCome_60 rfl ?_
            refine k_dup2 C dX3_letWinderCome_61 rfl rfl ?_
            refine k_iaload C dX3_letWinderCome_62 (by repeat (first | exact hs_eq _ _ _ | refine hs_ne (by omega) ?_ | assumption)) (by omega) (by omega) (by omega) ?_
            refine k_iconst C dX3_letWinderCome_63 ?_
            refine k_iadd C dX3_letWinderCome_64 ?_
            refine k_iastore C dX3_letWinderCome_65 (by repeat (first | exact hs_eq _ _ _ | refine hs_ne (by omega) ?_ | assumption)) (by omega) (by omega) (by omega) ?_
            refine k_aload_n C dX3_letWinderCome_66 rfl ?_
            refine k_get C (k := 1) inX3 (ci := 3) rfl (by decide) fl_X3_21 dX3_letWinderCome_67 (by repeat (first | exact hs_eq _ _ _ | refine hs_ne (by omega) ?_ | assumption)) rfl ?_
            refine k_get C (k := 4) inX6 (ci := 6) rfl (by decide) fl_X3_146 dX3_letWinderCome_70 (by repeat (first | exact hs_eq _ _ _ | refine hs_ne (by omega) ?_ | assumption)) rfl ?_
            refine k_iload_n C dX3_letWinderCome_73 rfl ?_
            refine k_aload_n C dX3_letWinderCome_74 rfl ?_
            refine k_get C (k := 4) inX3 (ci := 3) rfl (by decide) fl_X3_59 dX3_letWinderCome_75 (by repeat (first | exact hs_eq _ _ _ | refine hs_ne (by omega) ?_ | assumption)) rfl ?_
            refine k_aload_n C dX3_letWinderCome_78 rfl ?_
            refine k_get C (k := 1) inX3 (ci := 3) rfl (by decide) fl_X3_21 dX3_letWinderCome_79 (by repeat (first | exact hs_eq _ _ _ | refine hs_ne (by omega) ?_ | assumption)) rfl ?_
            refine k_get C (k := 3) inX6 (ci := 6) rfl (by decide) fl_X3_149 dX3_letWinderCome_82 (by repeat (first | exact hs_eq _ _ _ | refine hs_ne (by omega) ?_ | assumption)) rfl ?_
            refine k_iload_n C dX3_letWinderCome_85 rfl ?_
            refine k_iaload C dX3_letWinderCome_86 (by repeat (first | exact hs_eq _ _ _ | refine hs_ne (by omega) ?_ | assumption)) (by omega) (by omega) (by omega) ?_
            refine k_iadd C dX3_letWinderCome_87 ?_
            refine k_iastore C dX3_letWinderCome_88 (by repeat (first | exact hs_eq _ _ _ | refine hs_ne (by omega) ?_ | assumption)) (by omega) (by omega) (by omega) ?_
            refine k_vret C hr dX3_letWinderCome_89 ?_
            first
              | exact ⟨rfl, by rw [zOne, if_pos (by omega)]; exact hS, Fr.rf _ _ _⟩
              | (have hz : zOne zrr = iu (iu (zWind zrr (zrr (22 + 5 * zCom zrr)) (zrr (22 + 5 * zCom zrr + 1))) (22 + 5 * zCom zrr + 3) (zrr 13 + zrr (22 + 5 * zCom zrr + 2))) (22 + 5 * zCom zrr + 4) (zrr (22 + 5 * zCom zrr + 4) + 1) := if_neg (by omega)
                 rw [rc.2.2.1, rc.2.2.2.2]
                 refine ⟨rfl, ?_, fun aaa haa => by repeat (first | rfl | refine hs_ne (by omega) ?_)⟩
                 rw [hz]
                 refine ⟨_, f2, _, w1, w2, w3, _, _, d1, d2, se, ⟨by (try simp (disch := omega) only [iu_ne, iu_eq, zWind_ne, zTake_ne, zChim_ne, zChim_16]); repeat (first | exact hs_eq _ _ _ | refine hs_ne (by omega) ?_ | assumption), (by repeat (first | exact hs_eq _ _ _ | refine hs_ne (by omega) ?_ | assumption)), (by repeat (first | exact hs_eq _ _ _ | refine hs_ne (by omega) ?_ | assumption)), (by repeat (first | exact hs_eq _ _ _ | refine hs_ne (by omega) ?_ | assumption)), (by repeat (first | exact hs_eq _ _ _ | refine hs_ne (by omega) ?_ | assumption)), by (try simp (disch := omega) only [iu_ne, iu_eq, zWind_ne, zTake_ne, zChim_ne, zChim_16]); repeat (first | exact hs_eq _ _ _ | refine hs_ne (by omega) ?_ | assumption), (by repeat (first | exact hs_eq _ _ _ | refine hs_ne (by omega) ?_ | assumption)), (by repeat (first | exact hs_eq _ _ _ | refine hs_ne (by omega) ?_ | assumption)), (by repeat (first | exact hs_eq _ _ _ | refine hs_ne (by omega) ?_ | assumption)), (by repeat (first | exact hs_eq _ _ _ | refine hs_ne (by omega) ?_ | assumption)), (by repeat (first | exact hs_eq _ _ _ | refine hs_ne (by omega) ?_ | assumption)), by (try simp (disch := omega) only [iu_ne, iu_eq, zWind_ne, zTake_ne, zChim_ne, zChim_16]); repeat (first | exact hs_eq _ _ _ | refine hs_ne (by omega) ?_ | assumption), (by repeat (first | exact hs_eq _ _ _ | refine hs_ne (by omega) ?_ | assumption)), (by repeat (first | exact hs_eq _ _ _ | refine hs_ne (by omega) ?_ | assumption)), (by repeat (first | exact hs_eq _ _ _ | refine hs_ne (by omega) ?_ | assumption))⟩, ?_⟩
                 exact ((hsr.wind wc.1.1 wc.1.2).due (by omega) (by omega)).came (by omega) (by omega)))
        · try (exfalso; omega)
          all_goals (
            refine k_vret C hr dX3_letWinderCome_26 ?_
            first
              | exact ⟨rfl, by rw [zOne, if_pos (by omega)]; exact hS, Fr.rf _ _ _⟩
              | (have hz : zOne zrr = iu (iu (zWind zrr (zrr (22 + 5 * zCom zrr)) (zrr (22 + 5 * zCom zrr + 1))) (22 + 5 * zCom zrr + 3) (zrr 13 + zrr (22 + 5 * zCom zrr + 2))) (22 + 5 * zCom zrr + 4) (zrr (22 + 5 * zCom zrr + 4) + 1) := if_neg (by omega)
                 rw [rc.2.2.1, rc.2.2.2.2]
                 refine ⟨rfl, ?_, fun aaa haa => by repeat (first | rfl | refine hs_ne (by omega) ?_)⟩
                 rw [hz]
                 refine ⟨_, f2, _, w1, w2, w3, _, _, d1, d2, se, ⟨by (try simp (disch := omega) only [iu_ne, iu_eq, zWind_ne, zTake_ne, zChim_ne, zChim_16]); repeat (first | exact hs_eq _ _ _ | refine hs_ne (by omega) ?_ | assumption), (by repeat (first | exact hs_eq _ _ _ | refine hs_ne (by omega) ?_ | assumption)), (by repeat (first | exact hs_eq _ _ _ | refine hs_ne (by omega) ?_ | assumption)), (by repeat (first | exact hs_eq _ _ _ | refine hs_ne (by omega) ?_ | assumption)), (by repeat (first | exact hs_eq _ _ _ | refine hs_ne (by omega) ?_ | assumption)), by (try simp (disch := omega) only [iu_ne, iu_eq, zWind_ne, zTake_ne, zChim_ne, zChim_16]); repeat (first | exact hs_eq _ _ _ | refine hs_ne (by omega) ?_ | assumption), (by repeat (first | exact hs_eq _ _ _ | refine hs_ne (by omega) ?_ | assumption)), (by repeat (first | exact hs_eq _ _ _ | refine hs_ne (by omega) ?_ | assumption)), (by repeat (first | exact hs_eq _ _ _ | refine hs_ne (by omega) ?_ | assumption)), (by repeat (first | exact hs_eq _ _ _ | refine hs_ne (by omega) ?_ | assumption)), (by repeat (first | exact hs_eq _ _ _ | refine hs_ne (by omega) ?_ | assumption)), by (try simp (disch := omega) only [iu_ne, iu_eq, zWind_ne, zTake_ne, zChim_ne, zChim_16]); repeat (first | exact hs_eq _ _ _ | refine hs_ne (by omega) ?_ | assumption), (by repeat (first | exact hs_eq _ _ _ | refine hs_ne (by omega) ?_ | assumption)), (by repeat (first | exact hs_eq _ _ _ | refine hs_ne (by omega) ?_ | assumption)), (by repeat (first | exact hs_eq _ _ _ | refine hs_ne (by omega) ?_ | assumption))⟩, ?_⟩
                 exact ((hsr.wind wc.1.1 wc.1.2).due (by omega) (by omega)).came (by omega) (by omega))))

set_option maxRecDepth 20000 in
set_option maxHeartbeats 1000000 in
theorem ct_X3_rewind (l : Launch) (D : va_G) (tc : Nat → ClassId) (base : Nat) (oo : Nat) (zrr : RZ) (hpp : AH) (hS : SAt hpp oo zrr) (hi : zInv zrr) : CT l D tc base yX3_rewind cX3_rewind 4 none 1 [aR oo] hpp (fun r h' => r = none ∧ SAt h' oo (zTwo zrr) ∧ Fr hpp h' oo 15) := by
  refine CT.of [some (aR oo), none, none, none] (by decide +kernel) rfl (Nat.le_of_ble_eq_true rfl) ?_
  intro p e s m args below meth c C hr hnm
  obtain ⟨f1, f2, f3, w1, w2, w3, w4, w5, d1, d2, se, ⟨g0, g1, g2, g3, g4, g5, g6, g7, g8, g9, g10, g11, g12, g13, g14⟩, hsr⟩ := id hS
  obtain ⟨r1, r2, r3, r4⟩ := id hsr
  obtain ⟨⟨v0, v1, v2, v9, v10, v11, v12, v13, v21, v52, v61, v62, v63, v64, v65, v66⟩, hwi, hde⟩ := id hi
  have s0 : se 0 = zrr 61 := r4 0 (by omega) (by omega)
  have s1 : se 1 = zrr 62 := r4 1 (by omega) (by omega)
  have s2 : se 2 = zrr 63 := r4 2 (by omega) (by omega)
  have s3 : se 3 = zrr 64 := r4 3 (by omega) (by omega)
  have s4 : se 4 = zrr 65 := r4 4 (by omega) (by omega)
  have s5 : se 5 = zrr 66 := r4 5 (by omega) (by omega)
  have t0 : f1 0 = zrr 0 := (r1 0 (by omega) (by omega)).1
  have t1 : f1 1 = zrr 1 := (r1 1 (by omega) (by omega)).1
  have t2 : f1 2 = zrr 2 := (r1 2 (by omega) (by omega)).1
  have hmm := mnI_le (zrr 61 - zrr 9) (zrr 0)
  refine k_aload_n C dX3_rewind_0 rfl ?_
  refine k_get C (k := 3) inX3 (ci := 3) rfl (by decide) fl_X3_32 dX3_rewind_1 (by repeat (first | exact hs_eq _ _ _ | refine hs_ne (by omega) ?_ | assumption)) rfl ?_
  refine k_iconst C dX3_rewind_4 ?_
  refine k_iaload C dX3_rewind_5 (by repeat (first | exact hs_eq _ _ _ | refine hs_ne (by omega) ?_ | assumption)) (by omega) (by omega) (by omega) ?_
  refine k_aload_n C dX3_rewind_6 rfl ?_
  refine k_get C (k := 6) inX3 (ci := 3) rfl (by decide) fl_X3_45 dX3_rewind_7 (by repeat (first | exact hs_eq _ _ _ | refine hs_ne (by omega) ?_ | assumption)) rfl ?_
  refine k_isub C dX3_rewind_10 ?_
  refine k_istore_n C dX3_rewind_11 (by decide) rfl ?_
  refine k_aload_n C dX3_rewind_12 rfl ?_
  refine k_get C (k := 0) inX3 (ci := 3) rfl (by decide) fl_X3_12 dX3_rewind_13 (by repeat (first | exact hs_eq _ _ _ | refine hs_ne (by omega) ?_ | assumption)) rfl ?_
  refine k_get C (k := 0) inX5 (ci := 5) rfl (by decide) fl_X3_155 dX3_rewind_16 (by repeat (first | exact hs_eq _ _ _ | refine hs_ne (by omega) ?_ | assumption)) rfl ?_
  refine k_iconst C dX3_rewind_19 ?_
  refine k_iaload C dX3_rewind_20 (by repeat (first | exact hs_eq _ _ _ | refine hs_ne (by omega) ?_ | assumption)) (by omega) (by omega) (by omega) ?_
  refine k_istore_n C dX3_rewind_21 (by decide) rfl ?_
  refine k_aload_n C dX3_rewind_22 rfl ?_
  refine k_get C (k := 6) inX3 (ci := 3) rfl (by decide) fl_X3_45 dX3_rewind_23 (by repeat (first | exact hs_eq _ _ _ | refine hs_ne (by omega) ?_ | assumption)) rfl ?_
  refine k_aload_n C dX3_rewind_26 rfl ?_
  refine k_get C (k := 3) inX3 (ci := 3) rfl (by decide) fl_X3_32 dX3_rewind_27 (by repeat (first | exact hs_eq _ _ _ | refine hs_ne (by omega) ?_ | assumption)) rfl ?_
  refine k_iconst C dX3_rewind_30 ?_
  refine k_iaload C dX3_rewind_31 (by repeat (first | exact hs_eq _ _ _ | refine hs_ne (by omega) ?_ | assumption)) (by omega) (by omega) (by omega) ?_
  refine k_icmp_gt (tgt := 43) C dX3_rewind_32 (by decide) ⟨by omega, by omega⟩ ⟨by omega, by omega⟩ (fun c32 => ?_) (fun c32 => ?_)
  · try (exfalso; omega)
    all_goals (
      refine k_vret C hr dX3_rewind_43 ?_
      first
        | exact ⟨rfl, by rw [zTwo, if_neg (by omega)]; exact hS, Fr.rf _ _ _⟩
        | (have hz : zTwo zrr = iu (iu (zTake zrr 0 (mnI (zrr 61 - zrr 9) (zrr 0))) 9 (zrr 9 + mnI (zrr 61 - zrr 9) (zrr 0))) 20 (zrr 20 + 1) := if_pos (by omega)
           refine ⟨rfl, ?_, fun aaa haa => by repeat (first | rfl | refine hs_ne (by omega) ?_)⟩
           rw [hz]
           refine ⟨_, _, f3, w1, w2, w3, w4, w5, d1, d2, se, ⟨by (try simp (disch := omega) only [iu_ne, iu_eq, zWind_ne, zTake_ne, zChim_ne, zChim_16]); repeat (first | exact hs_eq _ _ _ | refine hs_ne (by omega) ?_ | assumption), (by repeat (first | exact hs_eq _ _ _ | refine hs_ne (by omega) ?_ | assumption)), (by repeat (first | exact hs_eq _ _ _ | refine hs_ne (by omega) ?_ | assumption)), (by repeat (first | exact hs_eq _ _ _ | refine hs_ne (by omega) ?_ | assumption)), (by repeat (first | exact hs_eq _ _ _ | refine hs_ne (by omega) ?_ | assumption)), by (try simp (disch := omega) only [iu_ne, iu_eq, zWind_ne, zTake_ne, zChim_ne, zChim_16]); repeat (first | exact hs_eq _ _ _ | refine hs_ne (by omega) ?_ | assumption), (by repeat (first | exact hs_eq _ _ _ | refine hs_ne (by omega) ?_ | assumption)), (by repeat (first | exact hs_eq _ _ _ | refine hs_ne (by omega) ?_ | assumption)), (by repeat (first | exact hs_eq _ _ _ | refine hs_ne (by omega) ?_ | assumption)), (by repeat (first | exact hs_eq _ _ _ | refine hs_ne (by omega) ?_ | assumption)), (by repeat (first | exact hs_eq _ _ _ | refine hs_ne (by omega) ?_ | assumption)), by (try simp (disch := omega) only [iu_ne, iu_eq, zWind_ne, zTake_ne, zChim_ne, zChim_16]); repeat (first | exact hs_eq _ _ _ | refine hs_ne (by omega) ?_ | assumption), (by repeat (first | exact hs_eq _ _ _ | refine hs_ne (by omega) ?_ | assumption)), (by repeat (first | exact hs_eq _ _ _ | refine hs_ne (by omega) ?_ | assumption)), (by repeat (first | exact hs_eq _ _ _ | refine hs_ne (by omega) ?_ | assumption))⟩, ?_⟩
           exact ((hsr.take (by omega) (by omega)).free (by omega)).free (by omega)))
  · try (exfalso; omega)
    all_goals (
      refine k_iload_n C dX3_rewind_35 rfl ?_
      refine k_if_le (tgt := 43) C dX3_rewind_36 (by decide) ⟨by omega, by omega⟩ (fun c36 => ?_) (fun c36 => ?_)
      · try (exfalso; omega)
        all_goals (
          refine k_vret C hr dX3_rewind_43 ?_
          first
            | exact ⟨rfl, by rw [zTwo, if_neg (by omega)]; exact hS, Fr.rf _ _ _⟩
            | (have hz : zTwo zrr = iu (iu (zTake zrr 0 (mnI (zrr 61 - zrr 9) (zrr 0))) 9 (zrr 9 + mnI (zrr 61 - zrr 9) (zrr 0))) 20 (zrr 20 + 1) := if_pos (by omega)
               refine ⟨rfl, ?_, fun aaa haa => by repeat (first | rfl | refine hs_ne (by omega) ?_)⟩
               rw [hz]
               refine ⟨_, _, f3, w1, w2, w3, w4, w5, d1, d2, se, ⟨by (try simp (disch := omega) only [iu_ne, iu_eq, zWind_ne, zTake_ne, zChim_ne, zChim_16]); repeat (first | exact hs_eq _ _ _ | refine hs_ne (by omega) ?_ | assumption), (by repeat (first | exact hs_eq _ _ _ | refine hs_ne (by omega) ?_ | assumption)), (by repeat (first | exact hs_eq _ _ _ | refine hs_ne (by omega) ?_ | assumption)), (by repeat (first | exact hs_eq _ _ _ | refine hs_ne (by omega) ?_ | assumption)), (by repeat (first | exact hs_eq _ _ _ | refine hs_ne (by omega) ?_ | assumption)), by (try simp (disch := omega) only [iu_ne, iu_eq, zWind_ne, zTake_ne, zChim_ne, zChim_16]); repeat (first | exact hs_eq _ _ _ | refine hs_ne (by omega) ?_ | assumption), (by repeat (first | exact hs_eq _ _ _ | refine hs_ne (by omega) ?_ | assumption)), (by repeat (first | exact hs_eq _ _ _ | refine hs_ne (by omega) ?_ | assumption)), (by repeat (first | exact hs_eq _ _ _ | refine hs_ne (by omega) ?_ | assumption)), (by repeat (first | exact hs_eq _ _ _ | refine hs_ne (by omega) ?_ | assumption)), (by repeat (first | exact hs_eq _ _ _ | refine hs_ne (by omega) ?_ | assumption)), by (try simp (disch := omega) only [iu_ne, iu_eq, zWind_ne, zTake_ne, zChim_ne, zChim_16]); repeat (first | exact hs_eq _ _ _ | refine hs_ne (by omega) ?_ | assumption), (by repeat (first | exact hs_eq _ _ _ | refine hs_ne (by omega) ?_ | assumption)), (by repeat (first | exact hs_eq _ _ _ | refine hs_ne (by omega) ?_ | assumption)), (by repeat (first | exact hs_eq _ _ _ | refine hs_ne (by omega) ?_ | assumption))⟩, ?_⟩
               exact ((hsr.take (by omega) (by omega)).free (by omega)).free (by omega)))
      · try (exfalso; omega)
        all_goals (
          refine k_iload_n C dX3_rewind_39 rfl ?_
          refine k_if_ne (tgt := 44) C dX3_rewind_40 (by decide) ⟨by omega, by omega⟩ (fun c40 => ?_) (fun c40 => ?_)
          · try (exfalso; omega)
            all_goals (
              refine k_iload_n C dX3_rewind_44 rfl ?_
              refine k_iload_n C dX3_rewind_45 rfl ?_
              refine k_callS C (n := 2) (as := [_, _]) (ct_J9_min_7cf53 l D tc base _ _ _ ⟨by omega, by omega⟩ ⟨by omega, by omega⟩) ml_X3_158 sm_J9_min_7cf53 ini_J9 co_J9_min_7cf53 ⟨by decide, by decide, by decide +kernel⟩ rfl ⟨by decide, by decide⟩ rfl (Nat.le_of_ble_eq_true rfl) ⟨Nat.zero_le _, Nat.zero_le _⟩ dX3_rewind_46 ?_
              rintro _ _ ⟨rfl, rfl⟩
              rw [s0, t0]
              refine k_istore_n C dX3_rewind_49 (by decide) rfl ?_
              refine k_aload_n C dX3_rewind_50 rfl ?_
              refine k_dup C dX3_rewind_51 rfl ?_
              refine k_get C (k := 6) inX3 (ci := 3) rfl (by decide) fl_X3_45 dX3_rewind_52 (by repeat (first | exact hs_eq _ _ _ | refine hs_ne (by omega) ?_ | assumption)) rfl ?_
              refine k_iload_n C dX3_rewind_55 rfl ?_
              refine k_iadd C dX3_rewind_56 ?_
              refine k_put C (k := 6) inX3 tyX3_ok nmX3 (ci := 3) rfl (by decide) fl_X3_45 rfl (Nat.le_of_ble_eq_true rfl) dX3_rewind_57 (by repeat (first | exact hs_eq _ _ _ | refine hs_ne (by omega) ?_ | assumption)) ?_
              refine k_aload_n C dX3_rewind_60 rfl ?_
              refine k_get C (k := 0) inX3 (ci := 3) rfl (by decide) fl_X3_12 dX3_rewind_61 (by repeat (first | exact hs_eq _ _ _ | refine hs_ne (by omega) ?_ | assumption)) rfl ?_
              refine k_iconst C dX3_rewind_64 ?_
              refine k_iload_n C dX3_rewind_65 rfl ?_
              refine k_callV C (n := 2) (as := [_, _]) (ct_X5_take l D tc base (oo + 1) f1 f2 f3 _ (by repeat (first | exact hs_eq _ _ _ | refine hs_ne (by omega) ?_ | assumption)) (by repeat (first | exact hs_eq _ _ _ | refine hs_ne (by omega) ?_ | assumption)) (by repeat (first | exact hs_eq _ _ _ | refine hs_ne (by omega) ?_ | assumption)) (by repeat (first | exact hs_eq _ _ _ | refine hs_ne (by omega) ?_ | assumption)) _ _ (by omega) (by omega)) ml_X3_161 im_X5_take se_X5_take ini_X5 co_X5_take ⟨rfl, by decide, by decide, by decide +kernel⟩ rfl (ci := 5) rfl (by repeat (first | exact hs_eq _ _ _ | refine hs_ne (by omega) ?_ | assumption)) ⟨by decide, by decide⟩ rfl (Nat.le_of_ble_eq_true rfl) ⟨Nat.zero_le _, Nat.zero_le _⟩ dX3_rewind_66 ?_
              rintro _ _ ⟨rfl, rfl⟩
              refine k_aload_n C dX3_rewind_69 rfl ?_
              refine k_dup C dX3_rewind_70 rfl ?_
              refine k_get C (k := 15) inX3 (ci := 3) rfl (by decide) fl_X3_89 dX3_rewind_71 (by repeat (first | exact hs_eq _ _ _ | refine hs_ne (by omega) ?_ | assumption)) rfl ?_
              refine k_iconst C dX3_rewind_74 ?_
              refine k_iadd C dX3_rewind_75 ?_
              refine k_put C (k := 15) inX3 tyX3_ok nmX3 (ci := 3) rfl (by decide) fl_X3_89 rfl (Nat.le_of_ble_eq_true rfl) dX3_rewind_76 (by repeat (first | exact hs_eq _ _ _ | refine hs_ne (by omega) ?_ | assumption)) ?_
              refine k_vret C hr dX3_rewind_79 ?_
              first
                | exact ⟨rfl, by rw [zTwo, if_neg (by omega)]; exact hS, Fr.rf _ _ _⟩
                | (have hz : zTwo zrr = iu (iu (zTake zrr 0 (mnI (zrr 61 - zrr 9) (zrr 0))) 9 (zrr 9 + mnI (zrr 61 - zrr 9) (zrr 0))) 20 (zrr 20 + 1) := if_pos (by omega)
                   refine ⟨rfl, ?_, fun aaa haa => by repeat (first | rfl | refine hs_ne (by omega) ?_)⟩
                   rw [hz]
                   refine ⟨_, _, f3, w1, w2, w3, w4, w5, d1, d2, se, ⟨by (try simp (disch := omega) only [iu_ne, iu_eq, zWind_ne, zTake_ne, zChim_ne, zChim_16]); repeat (first | exact hs_eq _ _ _ | refine hs_ne (by omega) ?_ | assumption), (by repeat (first | exact hs_eq _ _ _ | refine hs_ne (by omega) ?_ | assumption)), (by repeat (first | exact hs_eq _ _ _ | refine hs_ne (by omega) ?_ | assumption)), (by repeat (first | exact hs_eq _ _ _ | refine hs_ne (by omega) ?_ | assumption)), (by repeat (first | exact hs_eq _ _ _ | refine hs_ne (by omega) ?_ | assumption)), by (try simp (disch := omega) only [iu_ne, iu_eq, zWind_ne, zTake_ne, zChim_ne, zChim_16]); repeat (first | exact hs_eq _ _ _ | refine hs_ne (by omega) ?_ | assumption), (by repeat (first | exact hs_eq _ _ _ | refine hs_ne (by omega) ?_ | assumption)), (by repeat (first | exact hs_eq _ _ _ | refine hs_ne (by omega) ?_ | assumption)), (by repeat (first | exact hs_eq _ _ _ | refine hs_ne (by omega) ?_ | assumption)), (by repeat (first | exact hs_eq _ _ _ | refine hs_ne (by omega) ?_ | assumption)), (by repeat (first | exact hs_eq _ _ _ | refine hs_ne (by omega) ?_ | assumption)), by (try simp (disch := omega) only [iu_ne, iu_eq, zWind_ne, zTake_ne, zChim_ne, zChim_16]); repeat (first | exact hs_eq _ _ _ | refine hs_ne (by omega) ?_ | assumption), (by repeat (first | exact hs_eq _ _ _ | refine hs_ne (by omega) ?_ | assumption)), (by repeat (first | exact hs_eq _ _ _ | refine hs_ne (by omega) ?_ | assumption)), (by repeat (first | exact hs_eq _ _ _ | refine hs_ne (by omega) ?_ | assumption))⟩, ?_⟩
                   exact ((hsr.take (by omega) (by omega)).free (by omega)).free (by omega)))
          · try (exfalso; omega)
            all_goals (
              refine k_vret C hr dX3_rewind_43 ?_
              first
                | exact ⟨rfl, by rw [zTwo, if_neg (by omega)]; exact hS, Fr.rf _ _ _⟩
                | (have hz : zTwo zrr = iu (iu (zTake zrr 0 (mnI (zrr 61 - zrr 9) (zrr 0))) 9 (zrr 9 + mnI (zrr 61 - zrr 9) (zrr 0))) 20 (zrr 20 + 1) := if_pos (by omega)
                   refine ⟨rfl, ?_, fun aaa haa => by repeat (first | rfl | refine hs_ne (by omega) ?_)⟩
                   rw [hz]
                   refine ⟨_, _, f3, w1, w2, w3, w4, w5, d1, d2, se, ⟨by (try simp (disch := omega) only [iu_ne, iu_eq, zWind_ne, zTake_ne, zChim_ne, zChim_16]); repeat (first | exact hs_eq _ _ _ | refine hs_ne (by omega) ?_ | assumption), (by repeat (first | exact hs_eq _ _ _ | refine hs_ne (by omega) ?_ | assumption)), (by repeat (first | exact hs_eq _ _ _ | refine hs_ne (by omega) ?_ | assumption)), (by repeat (first | exact hs_eq _ _ _ | refine hs_ne (by omega) ?_ | assumption)), (by repeat (first | exact hs_eq _ _ _ | refine hs_ne (by omega) ?_ | assumption)), by (try simp (disch := omega) only [iu_ne, iu_eq, zWind_ne, zTake_ne, zChim_ne, zChim_16]); repeat (first | exact hs_eq _ _ _ | refine hs_ne (by omega) ?_ | assumption), (by repeat (first | exact hs_eq _ _ _ | refine hs_ne (by omega) ?_ | assumption)), (by repeat (first | exact hs_eq _ _ _ | refine hs_ne (by omega) ?_ | assumption)), (by repeat (first | exact hs_eq _ _ _ | refine hs_ne (by omega) ?_ | assumption)), (by repeat (first | exact hs_eq _ _ _ | refine hs_ne (by omega) ?_ | assumption)), (by repeat (first | exact hs_eq _ _ _ | refine hs_ne (by omega) ?_ | assumption)), by (try simp (disch := omega) only [iu_ne, iu_eq, zWind_ne, zTake_ne, zChim_ne, zChim_16]); repeat (first | exact hs_eq _ _ _ | refine hs_ne (by omega) ?_ | assumption), (by repeat (first | exact hs_eq _ _ _ | refine hs_ne (by omega) ?_ | assumption)), (by repeat (first | exact hs_eq _ _ _ | refine hs_ne (by omega) ?_ | assumption)), (by repeat (first | exact hs_eq _ _ _ | refine hs_ne (by omega) ?_ | assumption))⟩, ?_⟩
                   exact ((hsr.take (by omega) (by omega)).free (by omega)).free (by omega)))))

