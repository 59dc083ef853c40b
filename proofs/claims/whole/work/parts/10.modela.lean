set_option maxRecDepth 20000 in
set_option maxHeartbeats 1000000 in
theorem ct_X8_within (l : Launch) (D : va_G) (tc : Nat → ClassId) (base : Nat) (vv lo hi : Int) (hpp : AH) (hv : r32 vv) (hlo : r32 lo) (hhi : r32 hi) : CT l D tc base yX8_within cX8_within 3 (some .boolean) 0 [aI vv, aI lo, aI hi] hpp (fun r h' => (r = some (aI 1) ∧ hpp = h' ∧ lo ≤ vv ∧ vv ≤ hi) ∨ (r = some (aI 0) ∧ hpp = h' ∧ ¬ (lo ≤ vv ∧ vv ≤ hi))) := by
  refine CT.of [some (aI vv), some (aI lo), some (aI hi)] (by decide +kernel) rfl (Nat.le_of_ble_eq_true rfl) ?_
  intro p e s m args below meth c C hr hnm
  refine k_iload_n C dX8_within_0 rfl ?_
  refine k_iload_n C dX8_within_1 rfl ?_
  refine k_icmp_lt (tgt := 14) C dX8_within_2 (by decide) ⟨by omega, by omega⟩ ⟨by omega, by omega⟩ (fun c2 => ?_) (fun c2 => ?_)
  · try (exfalso; omega)
    all_goals (
      refine k_iconst C dX8_within_14 ?_
      refine k_zret C hr dX8_within_15 (by omega) ?_
      first | exact Or.inl ⟨rfl, rfl, by omega, by omega⟩ | exact Or.inr ⟨rfl, rfl, by omega⟩)
  · try (exfalso; omega)
    all_goals (
      refine k_iload_n C dX8_within_5 rfl ?_
      refine k_iload_n C dX8_within_6 rfl ?_
      refine k_icmp_gt (tgt := 14) C dX8_within_7 (by decide) ⟨by omega, by omega⟩ ⟨by omega, by omega⟩ (fun c7 => ?_) (fun c7 => ?_)
      · try (exfalso; omega)
        all_goals (
          refine k_iconst C dX8_within_14 ?_
          refine k_zret C hr dX8_within_15 (by omega) ?_
          first | exact Or.inl ⟨rfl, rfl, by omega, by omega⟩ | exact Or.inr ⟨rfl, rfl, by omega⟩)
      · try (exfalso; omega)
        all_goals (
          refine k_iconst C dX8_within_10 ?_
          refine k_goto (tgt := 15) C dX8_within_11 (by decide) ?_
          refine k_zret C hr dX8_within_15 (by omega) ?_
          first | exact Or.inl ⟨rfl, rfl, by omega, by omega⟩ | exact Or.inr ⟨rfl, rfl, by omega⟩))

set_option maxRecDepth 20000 in
set_option maxHeartbeats 1000000 in
theorem ct_X8_lesser (l : Launch) (D : va_G) (tc : Nat → ClassId) (base : Nat) (aa bb : Int) (hpp : AH) (ha : r32 aa) (hb : r32 bb) : CT l D tc base yX8_lesser cX8_lesser 2 (some .int) 0 [aI aa, aI bb] hpp (fun r h' => r = some (aI (mnI aa bb)) ∧ hpp = h') := by
  refine CT.of [some (aI aa), some (aI bb)] (by decide +kernel) rfl (Nat.le_of_ble_eq_true rfl) ?_
  intro p e s m args below meth c C hr hnm
  refine k_iload_n C dX8_lesser_0 rfl ?_
  refine k_iload_n C dX8_lesser_1 rfl ?_
  refine k_icmp_ge (tgt := 9) C dX8_lesser_2 (by decide) ⟨by omega, by omega⟩ ⟨by omega, by omega⟩ (fun c2 => ?_) (fun c2 => ?_)
  · try (exfalso; omega)
    all_goals (
      refine k_iload_n C dX8_lesser_9 rfl ?_
      refine k_iret C hr dX8_lesser_10 ?_
      refine ⟨?_, rfl⟩
      unfold mnI
      split <;> first | rfl | (exfalso; omega))
  · try (exfalso; omega)
    all_goals (
      refine k_iload_n C dX8_lesser_5 rfl ?_
      refine k_goto (tgt := 10) C dX8_lesser_6 (by decide) ?_
      refine k_iret C hr dX8_lesser_10 ?_
      refine ⟨?_, rfl⟩
      unfold mnI
      split <;> first | rfl | (exfalso; omega))

set_option maxRecDepth 20000 in
set_option maxHeartbeats 1000000 in
theorem ct_X8_hourOf (l : Launch) (D : va_G) (tc : Nat → ClassId) (base : Nat) (tt : Int) (hpp : AH) (h0 : 0 ≤ tt) (h1 : tt < 720) : CT l D tc base yX8_hourOf cX8_hourOf 1 (some .int) 0 [aI tt] hpp (fun r h' => r = some (aI (zHour tt)) ∧ hpp = h') := by
  refine CT.of [some (aI tt)] (by decide +kernel) rfl (Nat.le_of_ble_eq_true rfl) ?_
  intro p e s m args below meth c C hr hnm
  refine k_iload_n C dX8_hourOf_0 rfl ?_
  refine k_bipush C dX8_hourOf_1 (by decide +kernel) ?_
  refine k_idiv C dX8_hourOf_3 (by omega) (by omega) (by omega) (by omega) ?_
  refine k_if_ne (tgt := 12) C dX8_hourOf_4 (by decide) ⟨by omega, by omega⟩ (fun c4 => ?_) (fun c4 => ?_)
  · try (exfalso; omega)
    all_goals (
      refine k_iload_n C dX8_hourOf_12 rfl ?_
      refine k_bipush C dX8_hourOf_13 (by decide +kernel) ?_
      refine k_idiv C dX8_hourOf_15 (by omega) (by omega) (by omega) (by omega) ?_
      refine k_iret C hr dX8_hourOf_16 ?_
      refine ⟨?_, rfl⟩
      unfold zHour
      split <;> first | rfl | (exfalso; omega))
  · try (exfalso; omega)
    all_goals (
      refine k_bipush C dX8_hourOf_7 (by decide +kernel) ?_
      refine k_goto (tgt := 16) C dX8_hourOf_9 (by decide) ?_
      refine k_iret C hr dX8_hourOf_16 ?_
      refine ⟨?_, rfl⟩
      unfold zHour
      split <;> first | rfl | (exfalso; omega))

set_option maxRecDepth 20000 in
set_option maxHeartbeats 1000000 in
theorem ct_X8_at (l : Launch) (D : va_G) (tc : Nat → ClassId) (base : Nat) (ww : Int) (hpp : AH) : CT l D tc base yX8_at cX8_at 1 (some .int) 0 [aI ww] hpp (fun r h' => r = some (aI (22 + 5 * ww)) ∧ hpp = h') := by
  refine CT.of [some (aI ww)] (by decide +kernel) rfl (Nat.le_of_ble_eq_true rfl) ?_
  intro p e s m args below meth c C hr hnm
  refine k_bipush C dX8_at_0 (by decide +kernel) ?_
  refine k_iconst C dX8_at_2 ?_
  refine k_iload_n C dX8_at_3 rfl ?_
  refine k_imul C dX8_at_4 ?_
  refine k_iadd C dX8_at_5 ?_
  refine k_iret C hr dX8_at_6 ?_
  exact ⟨rfl, rfl⟩

set_option maxRecDepth 20000 in
set_option maxHeartbeats 1000000 in
theorem ct_X8_winds (l : Launch) (D : va_G) (tc : Nat → ClassId) (base : Nat) (obb zqq : Nat) (fss : List AV) (zrr : RZ) (hpp : AH) (hob : hpp obb = some (eO 8 (aR zqq :: fss))) (hzq : hpp zqq = some (eA 0 67 zrr)) (hne : obb ≠ zqq) (ww tt : Int) (hw : 0 ≤ ww) (hw2 : ww ≤ 2) (hi : zInv zrr) (ht : 1 ≤ tt) (ht2 : tt ≤ 200) : CT l D tc base yX8_winds cX8_winds 4 (some .int) 1 [aR obb, aI ww, aI tt] hpp (fun r h' => r = some (aI (zMore zrr ww tt)) ∧ h' = hs hpp zqq (eA 0 67 (zWind zrr ww tt))) := by
  refine CT.of [some (aR obb), some (aI ww), some (aI tt), none] (by decide +kernel) rfl (Nat.le_of_ble_eq_true rfl) ?_
  intro p e s m args below meth c C hr hnm
  have hwr : 0 ≤ zrr ww ∧ zrr ww ≤ 200 := by
    rcases (show ww = 0 ∨ ww = 1 ∨ ww = 2 by omega) with rfl | rfl | rfl
    · exact hi.1.1
    · exact hi.1.2.1
    · exact hi.1.2.2.1
  refine k_iload_n C dX8_winds_0 rfl ?_
  refine k_sipush C dX8_winds_1 (by decide +kernel) ?_
  refine k_aload_n C dX8_winds_4 rfl ?_
  refine k_get C (k := 0) inX8 (ci := 8) rfl (by decide) fl_X8_7 dX8_winds_5 (by repeat (first | exact hs_eq _ _ _ | refine hs_ne (by omega) ?_ | assumption)) rfl ?_
  refine k_iconst C dX8_winds_8 ?_
  refine k_iload_n C dX8_winds_9 rfl ?_
  refine k_iadd C dX8_winds_10 ?_
  simp only [Int.zero_add]
  refine k_iaload C dX8_winds_11 (by repeat (first | exact hs_eq _ _ _ | refine hs_ne (by omega) ?_ | assumption)) (by omega) (by omega) (by omega) ?_
  refine k_isub C dX8_winds_12 ?_
  refine k_callS C (n := 2) (as := [_, _]) (ct_X8_lesser l D tc base _ _ _ ⟨by omega, by omega⟩ ⟨by omega, by omega⟩) ml_X8_46 sm_X8_lesser ini_X8 co_X8_lesser ⟨by decide, by decide, by decide +kernel⟩ rfl ⟨by decide, by decide⟩ rfl (Nat.le_of_ble_eq_true rfl) ⟨Nat.zero_le _, Nat.zero_le _⟩ dX8_winds_13 ?_
  rintro _ _ ⟨rfl, rfl⟩
  refine k_istore_n C dX8_winds_16 (by decide) rfl ?_
  refine k_aload_n C dX8_winds_17 rfl ?_
  refine k_get C (k := 0) inX8 (ci := 8) rfl (by decide) fl_X8_7 dX8_winds_18 (by repeat (first | exact hs_eq _ _ _ | refine hs_ne (by omega) ?_ | assumption)) rfl ?_
  refine k_iconst C dX8_winds_21 ?_
  refine k_iload_n C dX8_winds_22 rfl ?_
  refine k_iadd C dX8_winds_23 ?_
  simp only [Int.zero_add]
  refine k_dup2 C dX8_winds_24 rfl rfl ?_
  refine k_iaload C dX8_winds_25 (by repeat (first | exact hs_eq _ _ _ | refine hs_ne (by omega) ?_ | assumption)) (by omega) (by omega) (by omega) ?_
  refine k_iload_n C dX8_winds_26 rfl ?_
  refine k_iadd C dX8_winds_27 ?_
  refine k_iastore C dX8_winds_28 (by repeat (first | exact hs_eq _ _ _ | refine hs_ne (by omega) ?_ | assumption)) (by omega) (by omega) (by omega) ?_
  refine k_aload_n C dX8_winds_29 rfl ?_
  refine k_get C (k := 0) inX8 (ci := 8) rfl (by decide) fl_X8_7 dX8_winds_30 (by repeat (first | exact hs_eq _ _ _ | refine hs_ne (by omega) ?_ | assumption)) rfl ?_
  refine k_bipush C dX8_winds_33 (by decide +kernel) ?_
  refine k_iload_n C dX8_winds_35 rfl ?_
  refine k_iadd C dX8_winds_36 ?_
  refine k_dup2 C dX8_winds_37 rfl rfl ?_
  refine k_iaload C dX8_winds_38 (by repeat (first | exact hs_eq _ _ _ | refine hs_ne (by omega) ?_ | assumption)) (by omega) (by omega) (by omega) ?_
  try simp (disch := omega) only [hs_hs, iu_ne, iu_eq]
  refine k_iload_n C dX8_winds_39 rfl ?_
  refine k_iadd C dX8_winds_40 ?_
  refine k_iastore C dX8_winds_41 (by repeat (first | exact hs_eq _ _ _ | refine hs_ne (by omega) ?_ | assumption)) (by omega) (by omega) (by omega) ?_
  refine k_iload_n C dX8_winds_42 rfl ?_
  refine k_iret C hr dX8_winds_43 ?_
  refine ⟨rfl, ?_⟩
  try simp only [hs_hs, Int.zero_add]
  refine congrArg (fun fnn => hs hpp zqq (eA 0 67 fnn)) ?_
  funext kkk
  simp only [iu, zWind, zMore]
  all_goals ((repeat' split) <;> first | rfl | omega | (exfalso; omega))

set_option maxRecDepth 20000 in
set_option maxHeartbeats 1000000 in
theorem ct_X8_takes (l : Launch) (D : va_G) (tc : Nat → ClassId) (base : Nat) (obb zqq : Nat) (fss : List AV) (zrr : RZ) (hpp : AH) (hob : hpp obb = some (eO 8 (aR zqq :: fss))) (hzq : hpp zqq = some (eA 0 67 zrr)) (hne : obb ≠ zqq) (ww tt : Int) (hw : 0 ≤ ww) (hw2 : ww ≤ 2) : CT l D tc base yX8_takes cX8_takes 3 none 0 [aR obb, aI ww, aI tt] hpp (fun r h' => r = none ∧ h' = hs hpp zqq (eA 0 67 (zTake zrr ww tt))) := by
  refine CT.of [some (aR obb), some (aI ww), some (aI tt)] (by decide +kernel) rfl (Nat.le_of_ble_eq_true rfl) ?_
  intro p e s m args below meth c C hr hnm
  refine k_aload_n C dX8_takes_0 rfl ?_
  refine k_get C (k := 0) inX8 (ci := 8) rfl (by decide) fl_X8_7 dX8_takes_1 (by repeat (first | exact hs_eq _ _ _ | refine hs_ne (by omega) ?_ | assumption)) rfl ?_
  refine k_iconst C dX8_takes_4 ?_
  refine k_iload_n C dX8_takes_5 rfl ?_
  refine k_iadd C dX8_takes_6 ?_
  refine k_dup2 C dX8_takes_7 rfl rfl ?_
  refine k_iaload C dX8_takes_8 (by repeat (first | exact hs_eq _ _ _ | refine hs_ne (by omega) ?_ | assumption)) (by omega) (by omega) (by omega) ?_
  refine k_iload_n C dX8_takes_9 rfl ?_
  refine k_isub C dX8_takes_10 ?_
  refine k_iastore C dX8_takes_11 (by repeat (first | exact hs_eq _ _ _ | refine hs_ne (by omega) ?_ | assumption)) (by omega) (by omega) (by omega) ?_
  refine k_aload_n C dX8_takes_12 rfl ?_
  refine k_get C (k := 0) inX8 (ci := 8) rfl (by decide) fl_X8_7 dX8_takes_13 (by repeat (first | exact hs_eq _ _ _ | refine hs_ne (by omega) ?_ | assumption)) rfl ?_
  refine k_iconst C dX8_takes_16 ?_
  refine k_iload_n C dX8_takes_17 rfl ?_
  refine k_iadd C dX8_takes_18 ?_
  refine k_dup2 C dX8_takes_19 rfl rfl ?_
  refine k_iaload C dX8_takes_20 (by repeat (first | exact hs_eq _ _ _ | refine hs_ne (by omega) ?_ | assumption)) (by omega) (by omega) (by omega) ?_
  try simp (disch := omega) only [hs_hs, iu_ne, iu_eq]
  refine k_iload_n C dX8_takes_21 rfl ?_
  refine k_iadd C dX8_takes_22 ?_
  refine k_iastore C dX8_takes_23 (by repeat (first | exact hs_eq _ _ _ | refine hs_ne (by omega) ?_ | assumption)) (by omega) (by omega) (by omega) ?_
  refine k_vret C hr dX8_takes_24 ?_
  refine ⟨rfl, ?_⟩
  try simp only [hs_hs, Int.zero_add]
  refine congrArg (fun fnn => hs hpp zqq (eA 0 67 fnn)) ?_
  funext kkk
  simp only [iu, zTake]
  all_goals ((repeat' split) <;> first | rfl | omega | (exfalso; omega))

set_option maxRecDepth 20000 in
set_option maxHeartbeats 1000000 in
theorem ct_X8_isSilent (l : Launch) (D : va_G) (tc : Nat → ClassId) (base : Nat) (obb zqq : Nat) (fss : List AV) (zrr : RZ) (hpp : AH) (hob : hpp obb = some (eO 8 (aR zqq :: fss))) (hzq : hpp zqq = some (eA 0 67 zrr)) (hne : obb ≠ zqq) (hi : zInv zrr) : CT l D tc base yX8_isSilent cX8_isSilent 1 (some .boolean) 1 [aR obb] hpp (fun r h' => (r = some (aI 1) ∧ hpp = h' ∧ zSil zrr) ∨ (r = some (aI 0) ∧ hpp = h' ∧ ¬ zSil zrr)) := by
  refine CT.of [some (aR obb)] (by decide +kernel) rfl (Nat.le_of_ble_eq_true rfl) ?_
  intro p e s m args below meth c C hr hnm
  obtain ⟨⟨-, -, -, -, ⟨i10, j10⟩, -, -, -, -, -, -, -, -, -, ⟨i65, j65⟩, ⟨i66, j66⟩⟩, -, -⟩ := hi
  have hh : 1 ≤ zHour (zrr 10) ∧ zHour (zrr 10) ≤ 12 := by unfold zHour; split <;> omega
  refine k_aload_n C dX8_isSilent_0 rfl ?_
  refine k_get C (k := 0) inX8 (ci := 8) rfl (by decide) fl_X8_7 dX8_isSilent_1 (by repeat (first | exact hs_eq _ _ _ | refine hs_ne (by omega) ?_ | assumption)) rfl ?_
  refine k_bipush C dX8_isSilent_4 (by decide +kernel) ?_
  refine k_iaload C dX8_isSilent_6 (by repeat (first | exact hs_eq _ _ _ | refine hs_ne (by omega) ?_ | assumption)) (by omega) (by omega) (by omega) ?_
  refine k_if_le (tgt := 48) C dX8_isSilent_7 (by decide) ⟨by omega, by omega⟩ (fun c7 => ?_) (fun c7 => ?_)
  · try (exfalso; omega)
    all_goals (
      refine k_iconst C dX8_isSilent_48 ?_
      refine k_zret C hr dX8_isSilent_49 (by omega) ?_
      first | exact Or.inl ⟨rfl, rfl, by omega, by omega⟩ | exact Or.inr ⟨rfl, rfl, by omega⟩)
  · try (exfalso; omega)
    all_goals (
      refine k_aload_n C dX8_isSilent_10 rfl ?_
      refine k_get C (k := 0) inX8 (ci := 8) rfl (by decide) fl_X8_7 dX8_isSilent_11 (by repeat (first | exact hs_eq _ _ _ | refine hs_ne (by omega) ?_ | assumption)) rfl ?_
      refine k_bipush C dX8_isSilent_14 (by decide +kernel) ?_
      refine k_iaload C dX8_isSilent_16 (by repeat (first | exact hs_eq _ _ _ | refine hs_ne (by omega) ?_ | assumption)) (by omega) (by omega) (by omega) ?_
      refine k_callS C (n := 1) (as := [_]) (ct_X8_hourOf l D tc base _ _ (by omega) (by omega)) ml_X8_32 sm_X8_hourOf ini_X8 co_X8_hourOf ⟨by decide, by decide, by decide +kernel⟩ rfl ⟨by decide, by decide⟩ rfl (Nat.le_of_ble_eq_true rfl) ⟨Nat.zero_le _, Nat.zero_le _⟩ dX8_isSilent_17 ?_
      rintro _ _ ⟨rfl, rfl⟩
      refine k_bipush C dX8_isSilent_20 (by decide +kernel) ?_
      refine k_iadd C dX8_isSilent_22 ?_
      refine k_aload_n C dX8_isSilent_23 rfl ?_
      refine k_get C (k := 0) inX8 (ci := 8) rfl (by decide) fl_X8_7 dX8_isSilent_24 (by repeat (first | exact hs_eq _ _ _ | refine hs_ne (by omega) ?_ | assumption)) rfl ?_
      refine k_bipush C dX8_isSilent_27 (by decide +kernel) ?_
      refine k_iaload C dX8_isSilent_29 (by repeat (first | exact hs_eq _ _ _ | refine hs_ne (by omega) ?_ | assumption)) (by omega) (by omega) (by omega) ?_
      refine k_isub C dX8_isSilent_30 ?_
      refine k_bipush C dX8_isSilent_31 (by decide +kernel) ?_
      refine k_irem C dX8_isSilent_33 (by omega) (by omega) (by omega) (by omega) ?_
      refine k_aload_n C dX8_isSilent_34 rfl ?_
      refine k_get C (k := 0) inX8 (ci := 8) rfl (by decide) fl_X8_7 dX8_isSilent_35 (by repeat (first | exact hs_eq _ _ _ | refine hs_ne (by omega) ?_ | assumption)) rfl ?_
      refine k_bipush C dX8_isSilent_38 (by decide +kernel) ?_
      refine k_iaload C dX8_isSilent_40 (by repeat (first | exact hs_eq _ _ _ | refine hs_ne (by omega) ?_ | assumption)) (by omega) (by omega) (by omega) ?_
      refine k_icmp_ge (tgt := 48) C dX8_isSilent_41 (by decide) ⟨by omega, by omega⟩ ⟨by omega, by omega⟩ (fun c41 => ?_) (fun c41 => ?_)
      · try (exfalso; omega)
        all_goals (
          refine k_iconst C dX8_isSilent_48 ?_
          refine k_zret C hr dX8_isSilent_49 (by omega) ?_
          first | exact Or.inl ⟨rfl, rfl, by omega, by omega⟩ | exact Or.inr ⟨rfl, rfl, by omega⟩)
      · try (exfalso; omega)
        all_goals (
          refine k_iconst C dX8_isSilent_44 ?_
          refine k_goto (tgt := 49) C dX8_isSilent_45 (by decide) ?_
          refine k_zret C hr dX8_isSilent_49 (by omega) ?_
          first | exact Or.inl ⟨rfl, rfl, by omega, by omega⟩ | exact Or.inr ⟨rfl, rfl, by omega⟩))

set_option maxRecDepth 20000 in
set_option maxHeartbeats 1000000 in
theorem ct_X8_owed (l : Launch) (D : va_G) (tc : Nat → ClassId) (base : Nat) (obb zqq : Nat) (fss : List AV) (zrr : RZ) (hpp : AH) (hob : hpp obb = some (eO 8 (aR zqq :: fss))) (hzq : hpp zqq = some (eA 0 67 zrr)) (hne : obb ≠ zqq) (hi : zInv zrr) : CT l D tc base yX8_owed cX8_owed 3 (some .int) 0 [aR obb] hpp (fun r h' => r = some (aI (zOwed zrr)) ∧ hpp = h') := by
  refine CT.of [some (aR obb), none, none] (by decide +kernel) rfl (Nat.le_of_ble_eq_true rfl) ?_
  intro p e s m args below meth c C hr hnm
  obtain ⟨⟨-, -, -, -, -, -, -, -, -, ⟨i52, j52⟩, -, -, -, -, -, -⟩, -, -⟩ := hi
  refine k_iconst C dX8_owed_0 ?_
  refine k_istore_n C dX8_owed_1 (by decide) rfl ?_
  refine k_iconst C dX8_owed_2 ?_
  refine k_istore_n C dX8_owed_3 (by decide) rfl ?_
  have loop4 : ∀ (n : Nat) (kk : Nat), (kk : Int) ≤ zrr 52 → zrr 52 - kk < (n : Int) → Wk D tc base 3 p l e (lvR 0) s m args below meth c 0 0 (MQ below (Qx D tc base (fun r h' => r = some (aI (zOwed zrr)) ∧ hpp = h')) args s 0 0 (fun q => base ≤ q)) 4 [some (aR obb), some (aI (zOwedN zrr kk)), some (aI kk)] [] hpp := by
    intro n
    induction n with
    | zero =>
      intro kk hk hmu
      exfalso
      omega
    | succ n ih =>
      intro kk hk hmu
      refine k_iload_n C dX8_owed_4 rfl ?_
      refine k_aload_n C dX8_owed_5 rfl ?_
      refine k_get C (k := 0) inX8 (ci := 8) rfl (by decide) fl_X8_7 dX8_owed_6 (by repeat (first | exact hs_eq _ _ _ | refine hs_ne (by omega) ?_ | assumption)) rfl ?_
      refine k_bipush C dX8_owed_9 (by decide +kernel) ?_
      refine k_iaload C dX8_owed_11 (by repeat (first | exact hs_eq _ _ _ | refine hs_ne (by omega) ?_ | assumption)) (by omega) (by omega) (by omega) ?_
      refine k_icmp_ge (tgt := 37) C dX8_owed_12 (by decide) ⟨by omega, by omega⟩ ⟨by omega, by omega⟩ (fun c12 => ?_) (fun c12 => ?_)
      · try (exfalso; omega)
        all_goals (
          refine k_iload_n C dX8_owed_37 rfl ?_
          refine k_iret C hr dX8_owed_38 ?_
          refine ⟨?_, rfl⟩
          have e1 : (zrr 52).toNat = kk := by omega
          unfold zOwed
          rw [e1])
      · try (exfalso; omega)
        all_goals (
          refine k_iload_n C dX8_owed_15 rfl ?_
          refine k_aload_n C dX8_owed_16 rfl ?_
          refine k_get C (k := 0) inX8 (ci := 8) rfl (by decide) fl_X8_7 dX8_owed_17 (by repeat (first | exact hs_eq _ _ _ | refine hs_ne (by omega) ?_ | assumption)) rfl ?_
          refine k_bipush C dX8_owed_20 (by decide +kernel) ?_
          refine k_iconst C dX8_owed_22 ?_
          refine k_iload_n C dX8_owed_23 rfl ?_
          refine k_imul C dX8_owed_24 ?_
          refine k_iadd C dX8_owed_25 ?_
          refine k_iconst C dX8_owed_26 ?_
          refine k_iadd C dX8_owed_27 ?_
          refine k_iaload C dX8_owed_28 (by repeat (first | exact hs_eq _ _ _ | refine hs_ne (by omega) ?_ | assumption)) (by omega) (by omega) (by omega) ?_
          refine k_iadd C dX8_owed_29 ?_
          refine k_istore_n C dX8_owed_30 (by decide) rfl ?_
          refine k_iinc C dX8_owed_31 rfl (by decide) rfl ?_
          refine k_goto (tgt := 4) C dX8_owed_34 (by decide) ?_
          have e1 : zOwedN zrr (kk + 1) = zOwedN zrr kk + zrr (53 + 2 * (kk : Int) + 1) := rfl
          have e2 : ((kk + 1 : Nat) : Int) = (kk : Int) + 1 := by omega
          have q1 := ih (kk + 1) (by omega) (by omega)
          rw [e1, e2] at q1
          exact q1)
  exact loop4 (zrr 52 + 1).toNat 0 (by omega) (by omega)

set_option maxRecDepth 20000 in
set_option maxHeartbeats 1000000 in
theorem ct_X8_isDue (l : Launch) (D : va_G) (tc : Nat → ClassId) (base : Nat) (obb zqq : Nat) (fss : List AV) (zrr : RZ) (hpp : AH) (hob : hpp obb = some (eO 8 (aR zqq :: fss))) (hzq : hpp zqq = some (eA 0 67 zrr)) (hne : obb ≠ zqq) (ww : Int) (hw : 0 ≤ ww) (hw2 : ww < zrr 21) (hi : zInv zrr) (hm : zrr 13 ≤ 100000) : CT l D tc base yX8_isDue cX8_isDue 2 (some .boolean) 1 [aR obb, aI ww] hpp (fun r h' => (r = some (aI 1) ∧ hpp = h' ∧ zDue zrr ww) ∨ (r = some (aI 0) ∧ hpp = h' ∧ ¬ zDue zrr ww)) := by
  refine CT.of [some (aR obb), some (aI ww)] (by decide +kernel) rfl (Nat.le_of_ble_eq_true rfl) ?_
  intro p e s m args below meth c C hr hnm
  have hwi := hi.2.1 ww hw hw2
  obtain ⟨⟨-, -, -, -, -, -, -, ⟨i13, -⟩, ⟨i21, j21⟩, -⟩, -, -⟩ := hi
  refine k_aload_n C dX8_isDue_0 rfl ?_
  refine k_get C (k := 0) inX8 (ci := 8) rfl (by decide) fl_X8_7 dX8_isDue_1 (by repeat (first | exact hs_eq _ _ _ | refine hs_ne (by omega) ?_ | assumption)) rfl ?_
  refine k_iload_n C dX8_isDue_4 rfl ?_
  refine k_callS C (n := 1) (as := [_]) (ct_X8_at l D tc base _ _) ml_X8_36 sm_X8_at ini_X8 co_X8_at ⟨by decide, by decide, by decide +kernel⟩ rfl ⟨by decide, by decide⟩ rfl (Nat.le_of_ble_eq_true rfl) ⟨Nat.zero_le _, Nat.zero_le _⟩ dX8_isDue_5 ?_
  rintro _ _ ⟨rfl, rfl⟩
  refine k_iconst C dX8_isDue_8 ?_
  refine k_iadd C dX8_isDue_9 ?_
  refine k_iaload C dX8_isDue_10 (by repeat (first | exact hs_eq _ _ _ | refine hs_ne (by omega) ?_ | assumption)) (by omega) (by omega) (by omega) ?_
  refine k_aload_n C dX8_isDue_11 rfl ?_
  refine k_get C (k := 0) inX8 (ci := 8) rfl (by decide) fl_X8_7 dX8_isDue_12 (by repeat (first | exact hs_eq _ _ _ | refine hs_ne (by omega) ?_ | assumption)) rfl ?_
  refine k_bipush C dX8_isDue_15 (by decide +kernel) ?_
  refine k_iaload C dX8_isDue_17 (by repeat (first | exact hs_eq _ _ _ | refine hs_ne (by omega) ?_ | assumption)) (by omega) (by omega) (by omega) ?_
  refine k_icmp_gt (tgt := 25) C dX8_isDue_18 (by decide) ⟨by omega, by omega⟩ ⟨by omega, by omega⟩ (fun c18 => ?_) (fun c18 => ?_)
  · try (exfalso; omega)
    all_goals (
      refine k_iconst C dX8_isDue_25 ?_
      refine k_zret C hr dX8_isDue_26 (by omega) ?_
      first | exact Or.inl ⟨rfl, rfl, by omega⟩ | exact Or.inr ⟨rfl, rfl, by omega⟩)
  · try (exfalso; omega)
    all_goals (
      refine k_iconst C dX8_isDue_21 ?_
      refine k_goto (tgt := 26) C dX8_isDue_22 (by decide) ?_
      refine k_zret C hr dX8_isDue_26 (by omega) ?_
      first | exact Or.inl ⟨rfl, rfl, by omega⟩ | exact Or.inr ⟨rfl, rfl, by omega⟩)

set_option maxRecDepth 20000 in
set_option maxHeartbeats 1000000 in
theorem ct_X8_isKept (l : Launch) (D : va_G) (tc : Nat → ClassId) (base : Nat) (obb zqq : Nat) (fss : List AV) (zrr : RZ) (hpp : AH) (hob : hpp obb = some (eO 8 (aR zqq :: fss))) (hzq : hpp zqq = some (eA 0 67 zrr)) (hne : obb ≠ zqq) (ww : Int) (hw : 0 ≤ ww) (hw2 : ww < zrr 21) (hi : zInv zrr) : CT l D tc base yX8_isKept cX8_isKept 2 (some .boolean) 1 [aR obb, aI ww] hpp (fun r h' => (r = some (aI 1) ∧ hpp = h' ∧ zKept zrr ww) ∨ (r = some (aI 0) ∧ hpp = h' ∧ ¬ zKept zrr ww)) := by
  refine CT.of [some (aR obb), some (aI ww)] (by decide +kernel) rfl (Nat.le_of_ble_eq_true rfl) ?_
  intro p e s m args below meth c C hr hnm
  have hwi := hi.2.1 ww hw hw2
  obtain ⟨⟨-, ⟨i1, j1⟩, -, -, -, -, -, -, ⟨i21, j21⟩, ⟨i52, j52⟩, -⟩, -, -⟩ := hi
  refine k_aload_n C dX8_isKept_0 rfl ?_
  refine k_get C (k := 0) inX8 (ci := 8) rfl (by decide) fl_X8_7 dX8_isKept_1 (by repeat (first | exact hs_eq _ _ _ | refine hs_ne (by omega) ?_ | assumption)) rfl ?_
  refine k_iload_n C dX8_isKept_4 rfl ?_
  refine k_callS C (n := 1) (as := [_]) (ct_X8_at l D tc base _ _) ml_X8_36 sm_X8_at ini_X8 co_X8_at ⟨by decide, by decide, by decide +kernel⟩ rfl ⟨by decide, by decide⟩ rfl (Nat.le_of_ble_eq_true rfl) ⟨Nat.zero_le _, Nat.zero_le _⟩ dX8_isKept_5 ?_
  rintro _ _ ⟨rfl, rfl⟩
  refine k_iaload C dX8_isKept_8 (by repeat (first | exact hs_eq _ _ _ | refine hs_ne (by omega) ?_ | assumption)) (by omega) (by omega) (by omega) ?_
  refine k_iconst C dX8_isKept_9 ?_
  refine k_icmp_ne (tgt := 36) C dX8_isKept_10 (by decide) ⟨by omega, by omega⟩ ⟨by omega, by omega⟩ (fun c10 => ?_) (fun c10 => ?_)
  · try (exfalso; omega)
    all_goals (
      refine k_iconst C dX8_isKept_36 ?_
      refine k_zret C hr dX8_isKept_37 (by omega) ?_
      first | exact Or.inl ⟨rfl, rfl, by omega, by omega, by omega⟩ | exact Or.inr ⟨rfl, rfl, by omega⟩)
  · try (exfalso; omega)
    all_goals (
      refine k_aload_n C dX8_isKept_13 rfl ?_
      refine k_get C (k := 0) inX8 (ci := 8) rfl (by decide) fl_X8_7 dX8_isKept_14 (by repeat (first | exact hs_eq _ _ _ | refine hs_ne (by omega) ?_ | assumption)) rfl ?_
      refine k_bipush C dX8_isKept_17 (by decide +kernel) ?_
      refine k_iaload C dX8_isKept_19 (by repeat (first | exact hs_eq _ _ _ | refine hs_ne (by omega) ?_ | assumption)) (by omega) (by omega) (by omega) ?_
      refine k_if_le (tgt := 36) C dX8_isKept_20 (by decide) ⟨by omega, by omega⟩ (fun c20 => ?_) (fun c20 => ?_)
      · try (exfalso; omega)
        all_goals (
          refine k_iconst C dX8_isKept_36 ?_
          refine k_zret C hr dX8_isKept_37 (by omega) ?_
          first | exact Or.inl ⟨rfl, rfl, by omega, by omega, by omega⟩ | exact Or.inr ⟨rfl, rfl, by omega⟩)
      · try (exfalso; omega)
        all_goals (
          refine k_aload_n C dX8_isKept_23 rfl ?_
          refine k_get C (k := 0) inX8 (ci := 8) rfl (by decide) fl_X8_7 dX8_isKept_24 (by repeat (first | exact hs_eq _ _ _ | refine hs_ne (by omega) ?_ | assumption)) rfl ?_
          refine k_iconst C dX8_isKept_27 ?_
          refine k_iaload C dX8_isKept_28 (by repeat (first | exact hs_eq _ _ _ | refine hs_ne (by omega) ?_ | assumption)) (by omega) (by omega) (by omega) ?_
          refine k_if_eq (tgt := 36) C dX8_isKept_29 (by decide) ⟨by omega, by omega⟩ (fun c29 => ?_) (fun c29 => ?_)
          · try (exfalso; omega)
            all_goals (
              refine k_iconst C dX8_isKept_36 ?_
              refine k_zret C hr dX8_isKept_37 (by omega) ?_
              first | exact Or.inl ⟨rfl, rfl, by omega, by omega, by omega⟩ | exact Or.inr ⟨rfl, rfl, by omega⟩)
          · try (exfalso; omega)
            all_goals (
              refine k_iconst C dX8_isKept_32 ?_
              refine k_goto (tgt := 37) C dX8_isKept_33 (by decide) ?_
              refine k_zret C hr dX8_isKept_37 (by omega) ?_
              first | exact Or.inl ⟨rfl, rfl, by omega, by omega, by omega⟩ | exact Or.inr ⟨rfl, rfl, by omega⟩)))
