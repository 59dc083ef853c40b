set_option maxRecDepth 20000 in
set_option maxHeartbeats 1000000 in
theorem ct_J9_min_7cf53 (l : Launch) (D : va_G) (tc : Nat → ClassId) (base : Nat) (aa bb : Int) (hpp : AH) (ha : r32 aa) (hb : r32 bb) : CT l D tc base yJ9_min_7cf53 cJ9_min_7cf53 2 (some .int) 0 [aI aa, aI bb] hpp (fun r h' => r = some (aI (mnI aa bb)) ∧ hpp = h') := by
  refine CT.of [some (aI aa), some (aI bb)] (by decide +kernel) rfl (Nat.le_of_ble_eq_true rfl) ?_
  intro p e s m args below meth c C hr hnm
  refine k_iload_n C dJ9_min_7cf53_0 rfl ?_
  refine k_iload_n C dJ9_min_7cf53_1 rfl ?_
  refine k_icmp_gt (tgt := 9) C dJ9_min_7cf53_2 (by decide) ⟨by omega, by omega⟩ ⟨by omega, by omega⟩ (fun c2 => ?_) (fun c2 => ?_)
  · try (exfalso; omega)
    all_goals (
      refine k_iload_n C dJ9_min_7cf53_9 rfl ?_
      refine k_iret C hr dJ9_min_7cf53_10 ?_
      refine ⟨?_, rfl⟩
      unfold mnI
      split <;> first | rfl | (exfalso; omega) | (congr 2; omega))
  · try (exfalso; omega)
    all_goals (
      refine k_iload_n C dJ9_min_7cf53_5 rfl ?_
      refine k_goto (tgt := 10) C dJ9_min_7cf53_6 (by decide) ?_
      refine k_iret C hr dJ9_min_7cf53_10 ?_
      refine ⟨?_, rfl⟩
      unfold mnI
      split <;> first | rfl | (exfalso; omega) | (congr 2; omega))

set_option maxRecDepth 20000 in
set_option maxHeartbeats 1000000 in
theorem ct_J9_max_7cf53 (l : Launch) (D : va_G) (tc : Nat → ClassId) (base : Nat) (aa bb : Int) (hpp : AH) (ha : r32 aa) (hb : r32 bb) : CT l D tc base yJ9_max_7cf53 cJ9_max_7cf53 2 (some .int) 0 [aI aa, aI bb] hpp (fun r h' => r = some (aI (if aa < bb then bb else aa)) ∧ hpp = h') := by
  refine CT.of [some (aI aa), some (aI bb)] (by decide +kernel) rfl (Nat.le_of_ble_eq_true rfl) ?_
  intro p e s m args below meth c C hr hnm
  refine k_iload_n C dJ9_max_7cf53_0 rfl ?_
  refine k_iload_n C dJ9_max_7cf53_1 rfl ?_
  refine k_icmp_lt (tgt := 9) C dJ9_max_7cf53_2 (by decide) ⟨by omega, by omega⟩ ⟨by omega, by omega⟩ (fun c2 => ?_) (fun c2 => ?_)
  · try (exfalso; omega)
    all_goals (
      refine k_iload_n C dJ9_max_7cf53_9 rfl ?_
      refine k_iret C hr dJ9_max_7cf53_10 ?_
      refine ⟨?_, rfl⟩
      split <;> first | rfl | (exfalso; omega) | (congr 2; omega))
  · try (exfalso; omega)
    all_goals (
      refine k_iload_n C dJ9_max_7cf53_5 rfl ?_
      refine k_goto (tgt := 10) C dJ9_max_7cf53_6 (by decide) ?_
      refine k_iret C hr dJ9_max_7cf53_10 ?_
      refine ⟨?_, rfl⟩
      split <;> first | rfl | (exfalso; omega) | (congr 2; omega))

set_option maxRecDepth 20000 in
set_option maxHeartbeats 1000000 in
theorem ct_J9_floorMod_7cf53 (l : Launch) (D : va_G) (tc : Nat → ClassId) (base : Nat) (aa bb : Int) (hpp : AH) (ha : r32 aa) (hb : bb = 12 ∨ bb = 720 ∨ bb = 6) : CT l D tc base yJ9_floorMod_7cf53 cJ9_floorMod_7cf53 3 (some .int) 0 [aI aa, aI bb] hpp (fun r h' => r = some (aI (aa % bb)) ∧ hpp = h') := by
  refine CT.of [some (aI aa), some (aI bb), none] (by decide +kernel) rfl (Nat.le_of_ble_eq_true rfl) ?_
  intro p e s m args below meth c C hr hnm
  have htm : -bb < aa.tmod bb ∧ aa.tmod bb < bb ∧ (0 ≤ aa → aa.tmod bb = aa % bb) ∧ (aa < 0 → aa.tmod bb = -((-aa) % bb)) := by
    have q1 : 0 ≤ aa → aa.tmod bb = aa % bb := fun hh => Int.tmod_eq_emod_of_nonneg hh
    have q2 : aa < 0 → aa.tmod bb = -((-aa) % bb) := fun hh => by
      have := Int.neg_tmod (-aa) bb
      rw [Int.neg_neg] at this
      rw [this, Int.tmod_eq_emod_of_nonneg (by omega)]
    refine ⟨?_, ?_, q1, q2⟩
    · rcases Int.lt_or_le aa 0 with hh | hh
      · rw [q2 hh]; rcases hb with rfl | rfl | rfl <;> omega
      · rw [q1 hh]; rcases hb with rfl | rfl | rfl <;> omega
    · rcases Int.lt_or_le aa 0 with hh | hh
      · rw [q2 hh]; rcases hb with rfl | rfl | rfl <;> omega
      · rw [q1 hh]; rcases hb with rfl | rfl | rfl <;> omega
  refine k_iload_n C dJ9_floorMod_7cf53_0 rfl ?_
  refine k_iload_n C dJ9_floorMod_7cf53_1 rfl ?_
  refine k_iremT C dJ9_floorMod_7cf53_2 ⟨by omega, by omega⟩ (by omega) (by omega) ?_
  refine k_istore_n C dJ9_floorMod_7cf53_3 (by decide) rfl ?_
  refine k_iload_n C dJ9_floorMod_7cf53_4 rfl ?_
  refine k_iload_n C dJ9_floorMod_7cf53_5 rfl ?_
  refine k_ixorS C dJ9_floorMod_7cf53_6 ⟨by omega, by omega⟩ (by omega) (by omega) (fun vv hv1 hv2 => ?_)
  refine k_if_ge (tgt := 18) C dJ9_floorMod_7cf53_7 (by decide) ⟨by omega, by omega⟩ (fun c7 => ?_) (fun c7 => ?_)
  · try (exfalso; omega)
    all_goals (
      refine k_iload_n C dJ9_floorMod_7cf53_18 rfl ?_
      refine k_iret C hr dJ9_floorMod_7cf53_19 ?_
      refine ⟨?_, rfl⟩
      refine congrArg (fun qq => some (aI qq)) ?_
      rcases Int.lt_or_le aa 0 with hh | hh
      · have := htm.2.2.2 hh
        rw [this]
        rcases hb with rfl | rfl | rfl <;> omega
      · have := htm.2.2.1 hh
        omega)
  · try (exfalso; omega)
    all_goals (
      refine k_iload_n C dJ9_floorMod_7cf53_10 rfl ?_
      refine k_if_eq (tgt := 18) C dJ9_floorMod_7cf53_11 (by decide) ⟨by omega, by omega⟩ (fun c11 => ?_) (fun c11 => ?_)
      · try (exfalso; omega)
        all_goals (
          refine k_iload_n C dJ9_floorMod_7cf53_18 rfl ?_
          refine k_iret C hr dJ9_floorMod_7cf53_19 ?_
          refine ⟨?_, rfl⟩
          refine congrArg (fun qq => some (aI qq)) ?_
          rcases Int.lt_or_le aa 0 with hh | hh
          · have := htm.2.2.2 hh
            rw [this]
            rcases hb with rfl | rfl | rfl <;> omega
          · have := htm.2.2.1 hh
            omega)
      · try (exfalso; omega)
        all_goals (
          refine k_iload_n C dJ9_floorMod_7cf53_14 rfl ?_
          refine k_iload_n C dJ9_floorMod_7cf53_15 rfl ?_
          refine k_iadd C dJ9_floorMod_7cf53_16 ?_
          refine k_iret C hr dJ9_floorMod_7cf53_17 ?_
          refine ⟨?_, rfl⟩
          refine congrArg (fun qq => some (aI qq)) ?_
          rcases Int.lt_or_le aa 0 with hh | hh
          · have := htm.2.2.2 hh
            rw [this]
            rcases hb with rfl | rfl | rfl <;> omega
          · have := htm.2.2.1 hh
            omega))

set_option maxRecDepth 20000 in
set_option maxHeartbeats 1000000 in
theorem ct_X5_raise (l : Launch) (D : va_G) (tc : Nat → ClassId) (base : Nat) (qq : Nat) (f1 f2 f3 : Int → Int) (hpp : AH) (g0 : hpp qq = some (eO 5 [aR (qq + 1), aR (qq + 2), aR (qq + 3)])) (g1 : hpp (qq + 1) = some (eA 0 3 f1)) (g2 : hpp (qq + 2) = some (eA 0 3 f2)) (g3 : hpp (qq + 3) = some (eA 0 3 f3)) (ww tt : Int) (hw : 0 ≤ ww) (hw2 : ww ≤ 2) (ht : 0 ≤ tt) (ht2 : tt ≤ 200) (hf : 0 ≤ f1 ww) (hf2 : f1 ww ≤ 200) : CT l D tc base yX5_raise cX5_raise 4 (some .int) 1 [aR qq, aI ww, aI tt] hpp (fun r h' => r = some (aI (mnI tt (200 - f1 ww))) ∧ h' = hs (hs hpp (qq + 1) (eA 0 3 (iu f1 ww (f1 ww + mnI tt (200 - f1 ww))))) (qq + 3) (eA 0 3 (iu f3 ww (f3 ww + mnI tt (200 - f1 ww))))) := by
  refine CT.of [some (aR qq), some (aI ww), some (aI tt), none] (by decide +kernel) rfl (Nat.le_of_ble_eq_true rfl) ?_
  intro p e s m args below meth c C hr hnm
  refine k_iload_n C dX5_raise_0 rfl ?_
  refine k_if_lt (tgt := 9) C dX5_raise_1 (by decide) ⟨by omega, by omega⟩ (fun c1 => ?_) (fun c1 => ?_)
  · try (exfalso; omega)
    all_goals (
      refine k_iconst C dX5_raise_9 ?_
      refine k_iret C hr dX5_raise_10 ?_
      exact ⟨rfl, rfl⟩)
  · try (exfalso; omega)
    all_goals (
      refine k_iload_n C dX5_raise_4 rfl ?_
      refine k_iconst C dX5_raise_5 ?_
      refine k_icmp_lt (tgt := 11) C dX5_raise_6 (by decide) ⟨by omega, by omega⟩ ⟨by omega, by omega⟩ (fun c6 => ?_) (fun c6 => ?_)
      · try (exfalso; omega)
        all_goals (
          refine k_iload_n C dX5_raise_11 rfl ?_
          refine k_sipush C dX5_raise_12 (by decide +kernel) ?_
          refine k_aload_n C dX5_raise_15 rfl ?_
          refine k_get C (k := 0) inX5 (ci := 5) rfl (by decide) fl_X5_9 dX5_raise_16 (by repeat (first | exact hs_eq _ _ _ | refine hs_ne (by omega) ?_ | assumption)) rfl ?_
          refine k_iload_n C dX5_raise_19 rfl ?_
          refine k_iaload C dX5_raise_20 (by repeat (first | exact hs_eq _ _ _ | refine hs_ne (by omega) ?_ | assumption)) (by omega) (by omega) (by omega) ?_
          refine k_isub C dX5_raise_21 ?_
          refine k_callS C (n := 2) (as := [_, _]) (ct_J9_min_7cf53 l D tc base _ _ _ ⟨by omega, by omega⟩ ⟨by omega, by omega⟩) ml_X5_21 sm_J9_min_7cf53 ini_J9 co_J9_min_7cf53 ⟨by decide, by decide, by decide +kernel⟩ rfl ⟨by decide, by decide⟩ rfl (Nat.le_of_ble_eq_true rfl) ⟨Nat.zero_le _, Nat.zero_le _⟩ dX5_raise_22 ?_
          rintro _ _ ⟨rfl, rfl⟩
          refine k_istore_n C dX5_raise_25 (by decide) rfl ?_
          refine k_aload_n C dX5_raise_26 rfl ?_
          refine k_get C (k := 0) inX5 (ci := 5) rfl (by decide) fl_X5_9 dX5_raise_27 (by repeat (first | exact hs_eq _ _ _ | refine hs_ne (by omega) ?_ | assumption)) rfl ?_
          refine k_iload_n C dX5_raise_30 rfl ?_
          refine k_dup2 C dX5_raise_31 rfl rfl ?_
          refine k_iaload C dX5_raise_32 (by repeat (first | exact hs_eq _ _ _ | refine hs_ne (by omega) ?_ | assumption)) (by omega) (by omega) (by omega) ?_
          refine k_iload_n C dX5_raise_33 rfl ?_
          refine k_iadd C dX5_raise_34 ?_
          refine k_iastore C dX5_raise_35 (by repeat (first | exact hs_eq _ _ _ | refine hs_ne (by omega) ?_ | assumption)) (by omega) (by omega) (by omega) ?_
          refine k_aload_n C dX5_raise_36 rfl ?_
          refine k_get C (k := 2) inX5 (ci := 5) rfl (by decide) fl_X5_18 dX5_raise_37 (by repeat (first | exact hs_eq _ _ _ | refine hs_ne (by omega) ?_ | assumption)) rfl ?_
          refine k_iload_n C dX5_raise_40 rfl ?_
          refine k_dup2 C dX5_raise_41 rfl rfl ?_
          refine k_iaload C dX5_raise_42 (by repeat (first | exact hs_eq _ _ _ | refine hs_ne (by omega) ?_ | assumption)) (by omega) (by omega) (by omega) ?_
          try simp (disch := omega) only [hs_hs, iu_ne, iu_eq]
          refine k_iload_n C dX5_raise_43 rfl ?_
          refine k_iadd C dX5_raise_44 ?_
          refine k_iastore C dX5_raise_45 (by repeat (first | exact hs_eq _ _ _ | refine hs_ne (by omega) ?_ | assumption)) (by omega) (by omega) (by omega) ?_
          refine k_iload_n C dX5_raise_46 rfl ?_
          refine k_iret C hr dX5_raise_47 ?_
          exact ⟨rfl, rfl⟩)
      · try (exfalso; omega)
        all_goals (
          refine k_iconst C dX5_raise_9 ?_
          refine k_iret C hr dX5_raise_10 ?_
          exact ⟨rfl, rfl⟩))

set_option maxRecDepth 20000 in
set_option maxHeartbeats 1000000 in
theorem ct_X5_take (l : Launch) (D : va_G) (tc : Nat → ClassId) (base : Nat) (qq : Nat) (f1 f2 f3 : Int → Int) (hpp : AH) (g0 : hpp qq = some (eO 5 [aR (qq + 1), aR (qq + 2), aR (qq + 3)])) (g1 : hpp (qq + 1) = some (eA 0 3 f1)) (g2 : hpp (qq + 2) = some (eA 0 3 f2)) (g3 : hpp (qq + 3) = some (eA 0 3 f3)) (ww tt : Int) (hw : 0 ≤ ww) (hw2 : ww ≤ 2) : CT l D tc base yX5_take cX5_take 3 none 0 [aR qq, aI ww, aI tt] hpp (fun r h' => r = none ∧ h' = hs (hs hpp (qq + 1) (eA 0 3 (iu f1 ww (f1 ww - tt)))) (qq + 2) (eA 0 3 (iu f2 ww (f2 ww + tt)))) := by
  refine CT.of [some (aR qq), some (aI ww), some (aI tt)] (by decide +kernel) rfl (Nat.le_of_ble_eq_true rfl) ?_
  intro p e s m args below meth c C hr hnm
  refine k_iload_n C dX5_take_0 rfl ?_
  refine k_if_lt (tgt := 9) C dX5_take_1 (by decide) ⟨by omega, by omega⟩ (fun c1 => ?_) (fun c1 => ?_)
  · try (exfalso; omega)
    all_goals (
      refine k_vret C hr dX5_take_9 ?_
      exact ⟨rfl, rfl⟩)
  · try (exfalso; omega)
    all_goals (
      refine k_iload_n C dX5_take_4 rfl ?_
      refine k_iconst C dX5_take_5 ?_
      refine k_icmp_lt (tgt := 10) C dX5_take_6 (by decide) ⟨by omega, by omega⟩ ⟨by omega, by omega⟩ (fun c6 => ?_) (fun c6 => ?_)
      · try (exfalso; omega)
        all_goals (
          refine k_aload_n C dX5_take_10 rfl ?_
          refine k_get C (k := 0) inX5 (ci := 5) rfl (by decide) fl_X5_9 dX5_take_11 (by repeat (first | exact hs_eq _ _ _ | refine hs_ne (by omega) ?_ | assumption)) rfl ?_
          refine k_iload_n C dX5_take_14 rfl ?_
          refine k_dup2 C dX5_take_15 rfl rfl ?_
          refine k_iaload C dX5_take_16 (by repeat (first | exact hs_eq _ _ _ | refine hs_ne (by omega) ?_ | assumption)) (by omega) (by omega) (by omega) ?_
          refine k_iload_n C dX5_take_17 rfl ?_
          refine k_isub C dX5_take_18 ?_
          refine k_iastore C dX5_take_19 (by repeat (first | exact hs_eq _ _ _ | refine hs_ne (by omega) ?_ | assumption)) (by omega) (by omega) (by omega) ?_
          refine k_aload_n C dX5_take_20 rfl ?_
          refine k_get C (k := 1) inX5 (ci := 5) rfl (by decide) fl_X5_15 dX5_take_21 (by repeat (first | exact hs_eq _ _ _ | refine hs_ne (by omega) ?_ | assumption)) rfl ?_
          refine k_iload_n C dX5_take_24 rfl ?_
          refine k_dup2 C dX5_take_25 rfl rfl ?_
          refine k_iaload C dX5_take_26 (by repeat (first | exact hs_eq _ _ _ | refine hs_ne (by omega) ?_ | assumption)) (by omega) (by omega) (by omega) ?_
          try simp (disch := omega) only [hs_hs, iu_ne, iu_eq]
          refine k_iload_n C dX5_take_27 rfl ?_
          refine k_iadd C dX5_take_28 ?_
          refine k_iastore C dX5_take_29 (by repeat (first | exact hs_eq _ _ _ | refine hs_ne (by omega) ?_ | assumption)) (by omega) (by omega) (by omega) ?_
          refine k_vret C hr dX5_take_30 ?_
          exact ⟨rfl, rfl⟩)
      · try (exfalso; omega)
        all_goals (
          refine k_vret C hr dX5_take_9 ?_
          exact ⟨rfl, rfl⟩))

