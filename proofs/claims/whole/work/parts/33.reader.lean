set_option maxRecDepth 20000 in
set_option maxHeartbeats 1000000 in
theorem ct_X2_begin (l : Launch) (D : va_G) (tc : Nat → ClassId) (base : Nat) (qq : Nat) (pl wr tr pr : Int) (hpp : AH) (g0 : hpp qq = some (eO 2 [aI pl, aI wr, aI tr, aI pr])) : CT l D tc base yX2_begin cX2_begin 1 none 0 [aR qq] hpp (fun r h' => r = none ∧ h' = hs hpp qq (eO 2 [aI (0), aI (wr), aI (tr), aI (pr)])) := by
  refine CT.of [some (aR qq)] (by decide +kernel) rfl (Nat.le_of_ble_eq_true rfl) ?_
  intro p e s m args below meth c C hr hnm
  refine k_aload_n C dX2_begin_0 rfl ?_
  refine k_iconst C dX2_begin_1 ?_
  refine k_put C (k := 0) inX2 tyX2_ok nmX2 (ci := 2) rfl (by decide) fl_X2_11 rfl (Nat.le_of_ble_eq_true rfl) dX2_begin_2 (by repeat (first | exact hs_eq _ _ _ | refine hs_ne (by omega) ?_ | assumption)) ?_
  refine k_vret C hr dX2_begin_5 ?_
  exact ⟨rfl, rfl⟩

set_option maxRecDepth 20000 in
set_option maxHeartbeats 1000000 in
theorem ct_X2_hasWholeRound (l : Launch) (D : va_G) (tc : Nat → ClassId) (base : Nat) (qq : Nat) (pl wr tr pr : Int) (hpp : AH) (g0 : hpp qq = some (eO 2 [aI pl, aI wr, aI tr, aI pr])) (h1 : r32 pl) (h2 : pl = 2 → r32 pr) : CT l D tc base yX2_hasWholeRound cX2_hasWholeRound 1 (some .boolean) 0 [aR qq] hpp (fun r h' => (r = some (aI 1) ∧ hpp = h' ∧ pl = 2 ∧ 0 < pr) ∨ (r = some (aI 0) ∧ hpp = h' ∧ ¬ (pl = 2 ∧ 0 < pr))) := by
  refine CT.of [some (aR qq)] (by decide +kernel) rfl (Nat.le_of_ble_eq_true rfl) ?_
  intro p e s m args below meth c C hr hnm
  refine k_aload_n C dX2_hasWholeRound_0 rfl ?_
  refine k_get C (k := 0) inX2 (ci := 2) rfl (by decide) fl_X2_11 dX2_hasWholeRound_1 (by repeat (first | exact hs_eq _ _ _ | refine hs_ne (by omega) ?_ | assumption)) rfl ?_
  refine k_iconst C dX2_hasWholeRound_4 ?_
  refine k_icmp_ne (tgt := 19) C dX2_hasWholeRound_5 (by decide) ⟨by omega, by omega⟩ ⟨by omega, by omega⟩ (fun c5 => ?_) (fun c5 => ?_)
  · try (exfalso; omega)
    all_goals (
      refine k_iconst C dX2_hasWholeRound_19 ?_
      refine k_zret C hr dX2_hasWholeRound_20 (by omega) ?_
      first | exact Or.inl ⟨rfl, rfl, by omega, by omega⟩ | exact Or.inr ⟨rfl, rfl, by omega⟩)
  · try (exfalso; omega)
    all_goals (
      refine k_aload_n C dX2_hasWholeRound_8 rfl ?_
      refine k_get C (k := 3) inX2 (ci := 2) rfl (by decide) fl_X2_15 dX2_hasWholeRound_9 (by repeat (first | exact hs_eq _ _ _ | refine hs_ne (by omega) ?_ | assumption)) rfl ?_
      have h22 := h2 (by omega)
      refine k_if_le (tgt := 19) C dX2_hasWholeRound_12 (by decide) ⟨by omega, by omega⟩ (fun c12 => ?_) (fun c12 => ?_)
      · try (exfalso; omega)
        all_goals (
          refine k_iconst C dX2_hasWholeRound_19 ?_
          refine k_zret C hr dX2_hasWholeRound_20 (by omega) ?_
          first | exact Or.inl ⟨rfl, rfl, by omega, by omega⟩ | exact Or.inr ⟨rfl, rfl, by omega⟩)
      · try (exfalso; omega)
        all_goals (
          refine k_iconst C dX2_hasWholeRound_15 ?_
          refine k_goto (tgt := 20) C dX2_hasWholeRound_16 (by decide) ?_
          refine k_zret C hr dX2_hasWholeRound_20 (by omega) ?_
          first | exact Or.inl ⟨rfl, rfl, by omega, by omega⟩ | exact Or.inr ⟨rfl, rfl, by omega⟩))

set_option maxRecDepth 20000 in
set_option maxHeartbeats 1000000 in
theorem ct_X2_weightNamed (l : Launch) (D : va_G) (tc : Nat → ClassId) (base : Nat) (ww : Int) (hpp : AH) (hw : r32 ww) : CT l D tc base yX2_weightNamed cX2_weightNamed 1 (some .int) 0 [aI ww] hpp (fun r h' => r = some (aI (pW ww)) ∧ hpp = h') := by
  refine CT.of [some (aI ww)] (by decide +kernel) rfl (Nat.le_of_ble_eq_true rfl) ?_
  intro p e s m args below meth c C hr hnm
  refine k_iload_n C dX2_weightNamed_0 rfl ?_
  refine k_bipush C dX2_weightNamed_1 (by decide +kernel) ?_
  refine k_icmp_ne (tgt := 8) C dX2_weightNamed_3 (by decide) ⟨by omega, by omega⟩ ⟨by omega, by omega⟩ (fun c3 => ?_) (fun c3 => ?_)
  · try (exfalso; omega)
    all_goals (
      refine k_iload_n C dX2_weightNamed_8 rfl ?_
      refine k_bipush C dX2_weightNamed_9 (by decide +kernel) ?_
      refine k_icmp_ne (tgt := 16) C dX2_weightNamed_11 (by decide) ⟨by omega, by omega⟩ ⟨by omega, by omega⟩ (fun c11 => ?_) (fun c11 => ?_)
      · try (exfalso; omega)
        all_goals (
          refine k_iload_n C dX2_weightNamed_16 rfl ?_
          refine k_bipush C dX2_weightNamed_17 (by decide +kernel) ?_
          refine k_icmp_ne (tgt := 26) C dX2_weightNamed_19 (by decide) ⟨by omega, by omega⟩ ⟨by omega, by omega⟩ (fun c19 => ?_) (fun c19 => ?_)
          · try (exfalso; omega)
            all_goals (
              refine k_iconst C dX2_weightNamed_26 ?_
              refine k_iret C hr dX2_weightNamed_27 ?_
              refine ⟨?_, rfl⟩
              refine congrArg (fun qq => some (aI qq)) ?_
              first
                | rw [pW, if_pos (by omega)]
                | rw [pW, if_neg (by omega), if_pos (by omega)]
                | rw [pW, if_neg (by omega), if_neg (by omega), if_pos (by omega)]
                | rw [pW, if_neg (by omega), if_neg (by omega), if_neg (by omega)])
          · try (exfalso; omega)
            all_goals (
              refine k_iconst C dX2_weightNamed_22 ?_
              refine k_goto (tgt := 27) C dX2_weightNamed_23 (by decide) ?_
              refine k_iret C hr dX2_weightNamed_27 ?_
              refine ⟨?_, rfl⟩
              refine congrArg (fun qq => some (aI qq)) ?_
              first
                | rw [pW, if_pos (by omega)]
                | rw [pW, if_neg (by omega), if_pos (by omega)]
                | rw [pW, if_neg (by omega), if_neg (by omega), if_pos (by omega)]
                | rw [pW, if_neg (by omega), if_neg (by omega), if_neg (by omega)]))
      · try (exfalso; omega)
        all_goals (
          refine k_iconst C dX2_weightNamed_14 ?_
          refine k_iret C hr dX2_weightNamed_15 ?_
          refine ⟨?_, rfl⟩
          refine congrArg (fun qq => some (aI qq)) ?_
          first
            | rw [pW, if_pos (by omega)]
            | rw [pW, if_neg (by omega), if_pos (by omega)]
            | rw [pW, if_neg (by omega), if_neg (by omega), if_pos (by omega)]
            | rw [pW, if_neg (by omega), if_neg (by omega), if_neg (by omega)]))
  · try (exfalso; omega)
    all_goals (
      refine k_iconst C dX2_weightNamed_6 ?_
      refine k_iret C hr dX2_weightNamed_7 ?_
      refine ⟨?_, rfl⟩
      refine congrArg (fun qq => some (aI qq)) ?_
      first
        | rw [pW, if_pos (by omega)]
        | rw [pW, if_neg (by omega), if_pos (by omega)]
        | rw [pW, if_neg (by omega), if_neg (by omega), if_pos (by omega)]
        | rw [pW, if_neg (by omega), if_neg (by omega), if_neg (by omega)])

set_option maxRecDepth 20000 in
set_option maxHeartbeats 1000000 in
theorem ct_X2_withDigit (l : Launch) (D : va_G) (tc : Nat → ClassId) (base : Nat) (nn ww mm : Int) (hpp : AH) (hw : 33 ≤ ww ∧ ww ≤ 126) (hn : 0 ≤ nn ∧ nn ≤ 720) (hm : 0 ≤ mm ∧ mm ≤ 720) : CT l D tc base yX2_withDigit cX2_withDigit 4 (some .int) 0 [aI nn, aI ww, aI mm] hpp (fun r h' => r = some (aI (if 48 ≤ ww ∧ ww ≤ 57 ∧ 1 ≤ 10 * nn + ww - 48 ∧ 10 * nn + ww - 48 ≤ mm then 10 * nn + ww - 48 else -1)) ∧ hpp = h') := by
  refine CT.of [some (aI nn), some (aI ww), some (aI mm), none] (by decide +kernel) rfl (Nat.le_of_ble_eq_true rfl) ?_
  intro p e s m args below meth c C hr hnm
  refine k_iload_n C dX2_withDigit_0 rfl ?_
  refine k_bipush C dX2_withDigit_1 (by decide +kernel) ?_
  refine k_icmp_lt (tgt := 12) C dX2_withDigit_3 (by decide) ⟨by omega, by omega⟩ ⟨by omega, by omega⟩ (fun c3 => ?_) (fun c3 => ?_)
  · try (exfalso; omega)
    all_goals (
      refine k_iconst C dX2_withDigit_12 ?_
      refine k_iret C hr dX2_withDigit_13 ?_
      refine ⟨?_, rfl⟩
      refine congrArg (fun qq => some (aI qq)) ?_
      first
        | rw [if_neg (by omega)]
        | (rw [if_pos (by omega)]; omega))
  · try (exfalso; omega)
    all_goals (
      refine k_iload_n C dX2_withDigit_6 rfl ?_
      refine k_bipush C dX2_withDigit_7 (by decide +kernel) ?_
      refine k_icmp_le (tgt := 14) C dX2_withDigit_9 (by decide) ⟨by omega, by omega⟩ ⟨by omega, by omega⟩ (fun c9 => ?_) (fun c9 => ?_)
      · try (exfalso; omega)
        all_goals (
          refine k_iload_n C dX2_withDigit_14 rfl ?_
          refine k_bipush C dX2_withDigit_15 (by decide +kernel) ?_
          refine k_imul C dX2_withDigit_17 ?_
          refine k_iload_n C dX2_withDigit_18 rfl ?_
          refine k_bipush C dX2_withDigit_19 (by decide +kernel) ?_
          refine k_isub C dX2_withDigit_21 ?_
          refine k_iadd C dX2_withDigit_22 ?_
          refine k_istore_n C dX2_withDigit_23 (by decide) rfl ?_
          refine k_iload_n C dX2_withDigit_24 rfl ?_
          refine k_iconst C dX2_withDigit_25 ?_
          refine k_icmp_lt (tgt := 34) C dX2_withDigit_26 (by decide) ⟨by omega, by omega⟩ ⟨by omega, by omega⟩ (fun c26 => ?_) (fun c26 => ?_)
          · try (exfalso; omega)
            all_goals (
              refine k_iconst C dX2_withDigit_34 ?_
              refine k_goto (tgt := 39) C dX2_withDigit_35 (by decide) ?_
              refine k_iret C hr dX2_withDigit_39 ?_
              refine ⟨?_, rfl⟩
              refine congrArg (fun qq => some (aI qq)) ?_
              first
                | rw [if_neg (by omega)]
                | (rw [if_pos (by omega)]; omega))
          · try (exfalso; omega)
            all_goals (
              refine k_iload_n C dX2_withDigit_29 rfl ?_
              refine k_iload_n C dX2_withDigit_30 rfl ?_
              refine k_icmp_le (tgt := 38) C dX2_withDigit_31 (by decide) ⟨by omega, by omega⟩ ⟨by omega, by omega⟩ (fun c31 => ?_) (fun c31 => ?_)
              · try (exfalso; omega)
                all_goals (
                  refine k_iload_n C dX2_withDigit_38 rfl ?_
                  refine k_iret C hr dX2_withDigit_39 ?_
                  refine ⟨?_, rfl⟩
                  refine congrArg (fun qq => some (aI qq)) ?_
                  first
                    | rw [if_neg (by omega)]
                    | (rw [if_pos (by omega)]; omega))
              · try (exfalso; omega)
                all_goals (
                  refine k_iconst C dX2_withDigit_34 ?_
                  refine k_goto (tgt := 39) C dX2_withDigit_35 (by decide) ?_
                  refine k_iret C hr dX2_withDigit_39 ?_
                  refine ⟨?_, rfl⟩
                  refine congrArg (fun qq => some (aI qq)) ?_
                  first
                    | rw [if_neg (by omega)]
                    | (rw [if_pos (by omega)]; omega))))
      · try (exfalso; omega)
        all_goals (
          refine k_iconst C dX2_withDigit_12 ?_
          refine k_iret C hr dX2_withDigit_13 ?_
          refine ⟨?_, rfl⟩
          refine congrArg (fun qq => some (aI qq)) ?_
          first
            | rw [if_neg (by omega)]
            | (rw [if_pos (by omega)]; omega)))

set_option maxRecDepth 20000 in
set_option maxHeartbeats 1000000 in
theorem ct_X2_readsWeight (l : Launch) (D : va_G) (tc : Nat → ClassId) (base : Nat) (qq : Nat) (pl wr tr pr : Int) (hpp : AH) (g0 : hpp qq = some (eO 2 [aI pl, aI wr, aI tr, aI pr])) (ww : Int) (hw : 33 ≤ ww ∧ ww ≤ 126) : CT l D tc base yX2_readsWeight cX2_readsWeight 3 (some .boolean) 1 [aR qq, aI ww] hpp (fun r h' => (r = some (aI 1) ∧ ¬ pW ww = -1 ∧ h' = hs hpp qq (eO 2 [aI (1), aI (pW ww), aI (0), aI (0)])) ∨ (r = some (aI 0) ∧ pW ww = -1 ∧ hpp = h')) := by
  refine CT.of [some (aR qq), some (aI ww), none] (by decide +kernel) rfl (Nat.le_of_ble_eq_true rfl) ?_
  intro p e s m args below meth c C hr hnm
  have hpw := pW_rng ww
  refine k_iload_n C dX2_readsWeight_0 rfl ?_
  refine k_callS C (n := 1) (as := [_]) (ct_X2_weightNamed l D tc base _ _ ⟨by omega, by omega⟩) ml_X2_40 sm_X2_weightNamed ini_X2 co_X2_weightNamed ⟨by decide, by decide, by decide +kernel⟩ rfl ⟨by decide, by decide⟩ rfl (Nat.le_of_ble_eq_true rfl) ⟨Nat.zero_le _, Nat.zero_le _⟩ dX2_readsWeight_1 ?_
  rintro _ _ ⟨rfl, rfl⟩
  refine k_istore_n C dX2_readsWeight_4 (by decide) rfl ?_
  refine k_iload_n C dX2_readsWeight_5 rfl ?_
  refine k_iconst C dX2_readsWeight_6 ?_
  refine k_icmp_ne (tgt := 12) C dX2_readsWeight_7 (by decide) ⟨by omega, by omega⟩ ⟨by omega, by omega⟩ (fun c7 => ?_) (fun c7 => ?_)
  · try (exfalso; omega)
    all_goals (
      refine k_aload_n C dX2_readsWeight_12 rfl ?_
      refine k_iload_n C dX2_readsWeight_13 rfl ?_
      refine k_put C (k := 1) inX2 tyX2_ok nmX2 (ci := 2) rfl (by decide) fl_X2_18 rfl (Nat.le_of_ble_eq_true rfl) dX2_readsWeight_14 (by repeat (first | exact hs_eq _ _ _ | refine hs_ne (by omega) ?_ | assumption)) ?_
      refine k_aload_n C dX2_readsWeight_17 rfl ?_
      refine k_iconst C dX2_readsWeight_18 ?_
      refine k_put C (k := 2) inX2 tyX2_ok nmX2 (ci := 2) rfl (by decide) fl_X2_21 rfl (Nat.le_of_ble_eq_true rfl) dX2_readsWeight_19 (by repeat (first | exact hs_eq _ _ _ | refine hs_ne (by omega) ?_ | assumption)) ?_
      refine k_aload_n C dX2_readsWeight_22 rfl ?_
      refine k_iconst C dX2_readsWeight_23 ?_
      refine k_put C (k := 3) inX2 tyX2_ok nmX2 (ci := 2) rfl (by decide) fl_X2_15 rfl (Nat.le_of_ble_eq_true rfl) dX2_readsWeight_24 (by repeat (first | exact hs_eq _ _ _ | refine hs_ne (by omega) ?_ | assumption)) ?_
      refine k_aload_n C dX2_readsWeight_27 rfl ?_
      refine k_iconst C dX2_readsWeight_28 ?_
      refine k_put C (k := 0) inX2 tyX2_ok nmX2 (ci := 2) rfl (by decide) fl_X2_11 rfl (Nat.le_of_ble_eq_true rfl) dX2_readsWeight_29 (by repeat (first | exact hs_eq _ _ _ | refine hs_ne (by omega) ?_ | assumption)) ?_
      refine k_iconst C dX2_readsWeight_32 ?_
      refine k_zret C hr dX2_readsWeight_33 (by omega) ?_
      first
        | exact Or.inr ⟨rfl, by omega, rfl⟩
        | (refine Or.inl ⟨rfl, by omega, ?_⟩
           simp only [hs_hs]
           rfl))
  · try (exfalso; omega)
    all_goals (
      refine k_iconst C dX2_readsWeight_10 ?_
      refine k_zret C hr dX2_readsWeight_11 (by omega) ?_
      first
        | exact Or.inr ⟨rfl, by omega, rfl⟩
        | (refine Or.inl ⟨rfl, by omega, ?_⟩
           simp only [hs_hs]
           rfl))

set_option maxRecDepth 20000 in
set_option maxHeartbeats 1000000 in
theorem ct_X2_readsTurns (l : Launch) (D : va_G) (tc : Nat → ClassId) (base : Nat) (qq : Nat) (pl wr tr pr : Int) (hpp : AH) (g0 : hpp qq = some (eO 2 [aI pl, aI wr, aI tr, aI pr])) (ww : Int) (hw : 33 ≤ ww ∧ ww ≤ 126) (hn : 0 ≤ tr ∧ tr ≤ 720) : CT l D tc base yX2_readsTurns cX2_readsTurns 3 (some .boolean) 1 [aR qq, aI ww] hpp (fun r h' => (r = some (aI 1) ∧ (ww = 47 ∧ 0 < tr) ∧ h' = hs hpp qq (eO 2 [aI (2), aI (wr), aI (tr), aI (pr)])) ∨ (r = some (aI 1) ∧ (48 ≤ ww ∧ ww ≤ 57 ∧ 1 ≤ 10 * tr + ww - 48 ∧ 10 * tr + ww - 48 ≤ 200) ∧ h' = hs hpp qq (eO 2 [aI (pl), aI (wr), aI (10 * tr + ww - 48), aI (pr)])) ∨ (r = some (aI 0) ∧ ¬ (ww = 47 ∧ 0 < tr) ∧ ¬ (48 ≤ ww ∧ ww ≤ 57 ∧ 1 ≤ 10 * tr + ww - 48 ∧ 10 * tr + ww - 48 ≤ 200) ∧ hpp = h')) := by
  refine CT.of [some (aR qq), some (aI ww), none] (by decide +kernel) rfl (Nat.le_of_ble_eq_true rfl) ?_
  intro p e s m args below meth c C hr hnm
  refine k_iload_n C dX2_readsTurns_0 rfl ?_
  refine k_bipush C dX2_readsTurns_1 (by decide +kernel) ?_
  refine k_icmp_ne (tgt := 20) C dX2_readsTurns_3 (by decide) ⟨by omega, by omega⟩ ⟨by omega, by omega⟩ (fun c3 => ?_) (fun c3 => ?_)
  · try (exfalso; omega)
    all_goals (
      refine k_aload_n C dX2_readsTurns_20 rfl ?_
      refine k_get C (k := 2) inX2 (ci := 2) rfl (by decide) fl_X2_21 dX2_readsTurns_21 (by repeat (first | exact hs_eq _ _ _ | refine hs_ne (by omega) ?_ | assumption)) rfl ?_
      refine k_iload_n C dX2_readsTurns_24 rfl ?_
      refine k_sipush C dX2_readsTurns_25 (by decide +kernel) ?_
      refine k_callS C (n := 3) (as := [_, _, _]) (ct_X2_withDigit l D tc base _ _ _ _ hw (by omega) (by omega)) ml_X2_44 sm_X2_withDigit ini_X2 co_X2_withDigit ⟨by decide, by decide, by decide +kernel⟩ rfl ⟨by decide, by decide⟩ rfl (Nat.le_of_ble_eq_true rfl) ⟨Nat.zero_le _, Nat.zero_le _⟩ dX2_readsTurns_28 ?_
      rintro _ _ ⟨rfl, rfl⟩
      rcases Classical.em ((48 ≤ ww ∧ ww ≤ 57 ∧ 1 ≤ 10 * tr + ww - 48 ∧ 10 * tr + ww - 48 ≤ 200)) with hdg | hdg
      · skip
        rw [if_pos hdg]
        refine k_istore_n C dX2_readsTurns_31 (by decide) rfl ?_
        refine k_iload_n C dX2_readsTurns_32 rfl ?_
        refine k_iconst C dX2_readsTurns_33 ?_
        refine k_icmp_ne (tgt := 39) C dX2_readsTurns_34 (by decide) ⟨by omega, by omega⟩ ⟨by omega, by omega⟩ (fun c34 => ?_) (fun c34 => ?_)
        · try (exfalso; omega)
          all_goals (
            refine k_aload_n C dX2_readsTurns_39 rfl ?_
            refine k_iload_n C dX2_readsTurns_40 rfl ?_
            refine k_put C (k := 2) inX2 tyX2_ok nmX2 (ci := 2) rfl (by decide) fl_X2_21 rfl (Nat.le_of_ble_eq_true rfl) dX2_readsTurns_41 (by repeat (first | exact hs_eq _ _ _ | refine hs_ne (by omega) ?_ | assumption)) ?_
            refine k_iconst C dX2_readsTurns_44 ?_
            refine k_zret C hr dX2_readsTurns_45 (by omega) ?_
            first
              | exact Or.inl ⟨rfl, ⟨by omega, by omega⟩, rfl⟩
              | (refine Or.inr (Or.inl ⟨rfl, by assumption, ?_⟩)
                 rfl)
              | exact Or.inr (Or.inr ⟨rfl, by omega, by assumption, rfl⟩))
        · try (exfalso; omega)
          all_goals (
            refine k_iconst C dX2_readsTurns_37 ?_
            refine k_zret C hr dX2_readsTurns_38 (by omega) ?_
            first
              | exact Or.inl ⟨rfl, ⟨by omega, by omega⟩, rfl⟩
              | (refine Or.inr (Or.inl ⟨rfl, by assumption, ?_⟩)
                 rfl)
              | exact Or.inr (Or.inr ⟨rfl, by omega, by assumption, rfl⟩))
      · skip
        rw [if_neg hdg]
        refine k_istore_n C dX2_readsTurns_31 (by decide) rfl ?_
        refine k_iload_n C dX2_readsTurns_32 rfl ?_
        refine k_iconst C dX2_readsTurns_33 ?_
        refine k_icmp_ne (tgt := 39) C dX2_readsTurns_34 (by decide) ⟨by omega, by omega⟩ ⟨by omega, by omega⟩ (fun c34 => ?_) (fun c34 => ?_)
        · try (exfalso; omega)
          all_goals (
            refine k_aload_n C dX2_readsTurns_39 rfl ?_
            refine k_iload_n C dX2_readsTurns_40 rfl ?_
            refine k_put C (k := 2) inX2 tyX2_ok nmX2 (ci := 2) rfl (by decide) fl_X2_21 rfl (Nat.le_of_ble_eq_true rfl) dX2_readsTurns_41 (by repeat (first | exact hs_eq _ _ _ | refine hs_ne (by omega) ?_ | assumption)) ?_
            refine k_iconst C dX2_readsTurns_44 ?_
            refine k_zret C hr dX2_readsTurns_45 (by omega) ?_
            first
              | exact Or.inl ⟨rfl, ⟨by omega, by omega⟩, rfl⟩
              | (refine Or.inr (Or.inl ⟨rfl, by assumption, ?_⟩)
                 rfl)
              | exact Or.inr (Or.inr ⟨rfl, by omega, by assumption, rfl⟩))
        · try (exfalso; omega)
          all_goals (
            refine k_iconst C dX2_readsTurns_37 ?_
            refine k_zret C hr dX2_readsTurns_38 (by omega) ?_
            first
              | exact Or.inl ⟨rfl, ⟨by omega, by omega⟩, rfl⟩
              | (refine Or.inr (Or.inl ⟨rfl, by assumption, ?_⟩)
                 rfl)
              | exact Or.inr (Or.inr ⟨rfl, by omega, by assumption, rfl⟩)))
  · try (exfalso; omega)
    all_goals (
      refine k_aload_n C dX2_readsTurns_6 rfl ?_
      refine k_get C (k := 2) inX2 (ci := 2) rfl (by decide) fl_X2_21 dX2_readsTurns_7 (by repeat (first | exact hs_eq _ _ _ | refine hs_ne (by omega) ?_ | assumption)) rfl ?_
      refine k_if_le (tgt := 20) C dX2_readsTurns_10 (by decide) ⟨by omega, by omega⟩ (fun c10 => ?_) (fun c10 => ?_)
      · try (exfalso; omega)
        all_goals (
          refine k_aload_n C dX2_readsTurns_20 rfl ?_
          refine k_get C (k := 2) inX2 (ci := 2) rfl (by decide) fl_X2_21 dX2_readsTurns_21 (by repeat (first | exact hs_eq _ _ _ | refine hs_ne (by omega) ?_ | assumption)) rfl ?_
          refine k_iload_n C dX2_readsTurns_24 rfl ?_
          refine k_sipush C dX2_readsTurns_25 (by decide +kernel) ?_
          refine k_callS C (n := 3) (as := [_, _, _]) (ct_X2_withDigit l D tc base _ _ _ _ hw (by omega) (by omega)) ml_X2_44 sm_X2_withDigit ini_X2 co_X2_withDigit ⟨by decide, by decide, by decide +kernel⟩ rfl ⟨by decide, by decide⟩ rfl (Nat.le_of_ble_eq_true rfl) ⟨Nat.zero_le _, Nat.zero_le _⟩ dX2_readsTurns_28 ?_
          rintro _ _ ⟨rfl, rfl⟩
          rcases Classical.em ((48 ≤ ww ∧ ww ≤ 57 ∧ 1 ≤ 10 * tr + ww - 48 ∧ 10 * tr + ww - 48 ≤ 200)) with hdg | hdg
          · skip
            rw [if_pos hdg]
            refine k_istore_n C dX2_readsTurns_31 (by decide) rfl ?_
            refine k_iload_n C dX2_readsTurns_32 rfl ?_
            refine k_iconst C dX2_readsTurns_33 ?_
            refine k_icmp_ne (tgt := 39) C dX2_readsTurns_34 (by decide) ⟨by omega, by omega⟩ ⟨by omega, by omega⟩ (fun c34 => ?_) (fun c34 => ?_)
            · try (exfalso; omega)
              all_goals (
                refine k_aload_n C dX2_readsTurns_39 rfl ?_
                refine k_iload_n C dX2_readsTurns_40 rfl ?_
                refine k_put C (k := 2) inX2 tyX2_ok nmX2 (ci := 2) rfl (by decide) fl_X2_21 rfl (Nat.le_of_ble_eq_true rfl) dX2_readsTurns_41 (by repeat (first | exact hs_eq _ _ _ | refine hs_ne (by omega) ?_ | assumption)) ?_
                refine k_iconst C dX2_readsTurns_44 ?_
                refine k_zret C hr dX2_readsTurns_45 (by omega) ?_
                first
                  | exact Or.inl ⟨rfl, ⟨by omega, by omega⟩, rfl⟩
                  | (refine Or.inr (Or.inl ⟨rfl, by assumption, ?_⟩)
                     rfl)
                  | exact Or.inr (Or.inr ⟨rfl, by omega, by assumption, rfl⟩))
            · try (exfalso; omega)
              all_goals (
                refine k_iconst C dX2_readsTurns_37 ?_
                refine k_zret C hr dX2_readsTurns_38 (by omega) ?_
                first
                  | exact Or.inl ⟨rfl, ⟨by omega, by omega⟩, rfl⟩
                  | (refine Or.inr (Or.inl ⟨rfl, by assumption, ?_⟩)
                     rfl)
                  | exact Or.inr (Or.inr ⟨rfl, by omega, by assumption, rfl⟩))
          · skip
            rw [if_neg hdg]
            refine k_istore_n C dX2_readsTurns_31 (by decide) rfl ?_
            refine k_iload_n C dX2_readsTurns_32 rfl ?_
            refine k_iconst C dX2_readsTurns_33 ?_
            refine k_icmp_ne (tgt := 39) C dX2_readsTurns_34 (by decide) ⟨by omega, by omega⟩ ⟨by omega, by omega⟩ (fun c34 => ?_) (fun c34 => ?_)
            · try (exfalso; omega)
              all_goals (
                refine k_aload_n C dX2_readsTurns_39 rfl ?_
                refine k_iload_n C dX2_readsTurns_40 rfl ?_
                refine k_put C (k := 2) inX2 tyX2_ok nmX2 (ci := 2) rfl (by decide) fl_X2_21 rfl (Nat.le_of_ble_eq_true rfl) dX2_readsTurns_41 (by repeat (first | exact hs_eq _ _ _ | refine hs_ne (by omega) ?_ | assumption)) ?_
                refine k_iconst C dX2_readsTurns_44 ?_
                refine k_zret C hr dX2_readsTurns_45 (by omega) ?_
                first
                  | exact Or.inl ⟨rfl, ⟨by omega, by omega⟩, rfl⟩
                  | (refine Or.inr (Or.inl ⟨rfl, by assumption, ?_⟩)
                     rfl)
                  | exact Or.inr (Or.inr ⟨rfl, by omega, by assumption, rfl⟩))
            · try (exfalso; omega)
              all_goals (
                refine k_iconst C dX2_readsTurns_37 ?_
                refine k_zret C hr dX2_readsTurns_38 (by omega) ?_
                first
                  | exact Or.inl ⟨rfl, ⟨by omega, by omega⟩, rfl⟩
                  | (refine Or.inr (Or.inl ⟨rfl, by assumption, ?_⟩)
                     rfl)
                  | exact Or.inr (Or.inr ⟨rfl, by omega, by assumption, rfl⟩)))
      · try (exfalso; omega)
        all_goals (
          refine k_aload_n C dX2_readsTurns_13 rfl ?_
          refine k_iconst C dX2_readsTurns_14 ?_
          refine k_put C (k := 0) inX2 tyX2_ok nmX2 (ci := 2) rfl (by decide) fl_X2_11 rfl (Nat.le_of_ble_eq_true rfl) dX2_readsTurns_15 (by repeat (first | exact hs_eq _ _ _ | refine hs_ne (by omega) ?_ | assumption)) ?_
          refine k_iconst C dX2_readsTurns_18 ?_
          refine k_zret C hr dX2_readsTurns_19 (by omega) ?_
          first
            | exact Or.inl ⟨rfl, ⟨by omega, by omega⟩, rfl⟩
            | (refine Or.inr (Or.inl ⟨rfl, by assumption, ?_⟩)
               rfl)
            | exact Or.inr (Or.inr ⟨rfl, by omega, by assumption, rfl⟩)))

set_option maxRecDepth 20000 in
set_option maxHeartbeats 1000000 in
theorem ct_X2_readsPeriod (l : Launch) (D : va_G) (tc : Nat → ClassId) (base : Nat) (qq : Nat) (pl wr tr pr : Int) (hpp : AH) (g0 : hpp qq = some (eO 2 [aI pl, aI wr, aI tr, aI pr])) (ww : Int) (hw : 33 ≤ ww ∧ ww ≤ 126) (hn : 0 ≤ pr ∧ pr ≤ 720) : CT l D tc base yX2_readsPeriod cX2_readsPeriod 3 (some .boolean) 1 [aR qq, aI ww] hpp (fun r h' => (r = some (aI 1) ∧ (ww = 44 ∧ 0 < pr) ∧ h' = hs hpp qq (eO 2 [aI (0), aI (wr), aI (tr), aI (pr)])) ∨ (r = some (aI 1) ∧ (48 ≤ ww ∧ ww ≤ 57 ∧ 1 ≤ 10 * pr + ww - 48 ∧ 10 * pr + ww - 48 ≤ 720) ∧ h' = hs hpp qq (eO 2 [aI (pl), aI (wr), aI (tr), aI (10 * pr + ww - 48)])) ∨ (r = some (aI 0) ∧ ¬ (ww = 44 ∧ 0 < pr) ∧ ¬ (48 ≤ ww ∧ ww ≤ 57 ∧ 1 ≤ 10 * pr + ww - 48 ∧ 10 * pr + ww - 48 ≤ 720) ∧ hpp = h')) := by
  refine CT.of [some (aR qq), some (aI ww), none] (by decide +kernel) rfl (Nat.le_of_ble_eq_true rfl) ?_
  intro p e s m args below meth c C hr hnm
  refine k_iload_n C dX2_readsPeriod_0 rfl ?_
  refine k_bipush C dX2_readsPeriod_1 (by decide +kernel) ?_
  refine k_icmp_ne (tgt := 20) C dX2_readsPeriod_3 (by decide) ⟨by omega, by omega⟩ ⟨by omega, by omega⟩ (fun c3 => ?_) (fun c3 => ?_)
  · try (exfalso; omega)
    all_goals (
      refine k_aload_n C dX2_readsPeriod_20 rfl ?_
      refine k_get C (k := 3) inX2 (ci := 2) rfl (by decide) fl_X2_15 dX2_readsPeriod_21 (by repeat (first | exact hs_eq _ _ _ | refine hs_ne (by omega) ?_ | assumption)) rfl ?_
      refine k_iload_n C dX2_readsPeriod_24 rfl ?_
      refine k_sipush C dX2_readsPeriod_25 (by decide +kernel) ?_
      refine k_callS C (n := 3) (as := [_, _, _]) (ct_X2_withDigit l D tc base _ _ _ _ hw (by omega) (by omega)) ml_X2_44 sm_X2_withDigit ini_X2 co_X2_withDigit ⟨by decide, by decide, by decide +kernel⟩ rfl ⟨by decide, by decide⟩ rfl (Nat.le_of_ble_eq_true rfl) ⟨Nat.zero_le _, Nat.zero_le _⟩ dX2_readsPeriod_28 ?_
      rintro _ _ ⟨rfl, rfl⟩
      rcases Classical.em ((48 ≤ ww ∧ ww ≤ 57 ∧ 1 ≤ 10 * pr + ww - 48 ∧ 10 * pr + ww - 48 ≤ 720)) with hdg | hdg
      · skip
        rw [if_pos hdg]
        refine k_istore_n C dX2_readsPeriod_31 (by decide) rfl ?_
        refine k_iload_n C dX2_readsPeriod_32 rfl ?_
        refine k_iconst C dX2_readsPeriod_33 ?_
        refine k_icmp_ne (tgt := 39) C dX2_readsPeriod_34 (by decide) ⟨by omega, by omega⟩ ⟨by omega, by omega⟩ (fun c34 => ?_) (fun c34 => ?_)
        · try (exfalso; omega)
          all_goals (
            refine k_aload_n C dX2_readsPeriod_39 rfl ?_
            refine k_iload_n C dX2_readsPeriod_40 rfl ?_
            refine k_put C (k := 3) inX2 tyX2_ok nmX2 (ci := 2) rfl (by decide) fl_X2_15 rfl (Nat.le_of_ble_eq_true rfl) dX2_readsPeriod_41 (by repeat (first | exact hs_eq _ _ _ | refine hs_ne (by omega) ?_ | assumption)) ?_
            refine k_iconst C dX2_readsPeriod_44 ?_
            refine k_zret C hr dX2_readsPeriod_45 (by omega) ?_
            first
              | exact Or.inl ⟨rfl, ⟨by omega, by omega⟩, rfl⟩
              | (refine Or.inr (Or.inl ⟨rfl, by assumption, ?_⟩)
                 rfl)
              | exact Or.inr (Or.inr ⟨rfl, by omega, by assumption, rfl⟩))
        · try (exfalso; omega)
          all_goals (
            refine k_iconst C dX2_readsPeriod_37 ?_
            refine k_zret C hr dX2_readsPeriod_38 (by omega) ?_
            first
              | exact Or.inl ⟨rfl, ⟨by omega, by omega⟩, rfl⟩
              | (refine Or.inr (Or.inl ⟨rfl, by assumption, ?_⟩)
                 rfl)
              | exact Or.inr (Or.inr ⟨rfl, by omega, by assumption, rfl⟩))
      · skip
        rw [if_neg hdg]
        refine k_istore_n C dX2_readsPeriod_31 (by decide) rfl ?_
        refine k_iload_n C dX2_readsPeriod_32 rfl ?_
        refine k_iconst C dX2_readsPeriod_33 ?_
        refine k_icmp_ne (tgt := 39) C dX2_readsPeriod_34 (by decide) ⟨by omega, by omega⟩ ⟨by omega, by omega⟩ (fun c34 => ?_) (fun c34 => ?_)
        · try (exfalso; omega)
          all_goals (
            refine k_aload_n C dX2_readsPeriod_39 rfl ?_
            refine k_iload_n C dX2_readsPeriod_40 rfl ?_
            refine k_put C (k := 3) inX2 tyX2_ok nmX2 (ci := 2) rfl (by decide) fl_X2_15 rfl (Nat.le_of_ble_eq_true rfl) dX2_readsPeriod_41 (by repeat (first | exact hs_eq _ _ _ | refine hs_ne (by omega) ?_ | assumption)) ?_
            refine k_iconst C dX2_readsPeriod_44 ?_
            refine k_zret C hr dX2_readsPeriod_45 (by omega) ?_
            first
              | exact Or.inl ⟨rfl, ⟨by omega, by omega⟩, rfl⟩
              | (refine Or.inr (Or.inl ⟨rfl, by assumption, ?_⟩)
                 rfl)
              | exact Or.inr (Or.inr ⟨rfl, by omega, by assumption, rfl⟩))
        · try (exfalso; omega)
          all_goals (
            refine k_iconst C dX2_readsPeriod_37 ?_
            refine k_zret C hr dX2_readsPeriod_38 (by omega) ?_
            first
              | exact Or.inl ⟨rfl, ⟨by omega, by omega⟩, rfl⟩
              | (refine Or.inr (Or.inl ⟨rfl, by assumption, ?_⟩)
                 rfl)
              | exact Or.inr (Or.inr ⟨rfl, by omega, by assumption, rfl⟩)))
  · try (exfalso; omega)
    all_goals (
      refine k_aload_n C dX2_readsPeriod_6 rfl ?_
      refine k_get C (k := 3) inX2 (ci := 2) rfl (by decide) fl_X2_15 dX2_readsPeriod_7 (by repeat (first | exact hs_eq _ _ _ | refine hs_ne (by omega) ?_ | assumption)) rfl ?_
      refine k_if_le (tgt := 20) C dX2_readsPeriod_10 (by decide) ⟨by omega, by omega⟩ (fun c10 => ?_) (fun c10 => ?_)
      · try (exfalso; omega)
        all_goals (
          refine k_aload_n C dX2_readsPeriod_20 rfl ?_
          refine k_get C (k := 3) inX2 (ci := 2) rfl (by decide) fl_X2_15 dX2_readsPeriod_21 (by repeat (first | exact hs_eq _ _ _ | refine hs_ne (by omega) ?_ | assumption)) rfl ?_
          refine k_iload_n C dX2_readsPeriod_24 rfl ?_
          refine k_sipush C dX2_readsPeriod_25 (by decide +kernel) ?_
          refine k_callS C (n := 3) (as := [_, _, _]) (ct_X2_withDigit l D tc base _ _ _ _ hw (by omega) (by omega)) ml_X2_44 sm_X2_withDigit ini_X2 co_X2_withDigit ⟨by decide, by decide, by decide +kernel⟩ rfl ⟨by decide, by decide⟩ rfl (Nat.le_of_ble_eq_true rfl) ⟨Nat.zero_le _, Nat.zero_le _⟩ dX2_readsPeriod_28 ?_
          rintro _ _ ⟨rfl, rfl⟩
          rcases Classical.em ((48 ≤ ww ∧ ww ≤ 57 ∧ 1 ≤ 10 * pr + ww - 48 ∧ 10 * pr + ww - 48 ≤ 720)) with hdg | hdg
          · skip
            rw [if_pos hdg]
            refine k_istore_n C dX2_readsPeriod_31 (by decide) rfl ?_
            refine k_iload_n C dX2_readsPeriod_32 rfl ?_
            refine k_iconst C dX2_readsPeriod_33 ?_
            refine k_icmp_ne (tgt := 39) C dX2_readsPeriod_34 (by decide) ⟨by omega, by omega⟩ ⟨by omega, by omega⟩ (fun c34 => ?_) (fun c34 => ?_)
            · try (exfalso; omega)
              all_goals (
                refine k_aload_n C dX2_readsPeriod_39 rfl ?_
                refine k_iload_n C dX2_readsPeriod_40 rfl ?_
                refine k_put C (k := 3) inX2 tyX2_ok nmX2 (ci := 2) rfl (by decide) fl_X2_15 rfl (Nat.le_of_ble_eq_true rfl) dX2_readsPeriod_41 (by repeat (first | exact hs_eq _ _ _ | refine hs_ne (by omega) ?_ | assumption)) ?_
                refine k_iconst C dX2_readsPeriod_44 ?_
                refine k_zret C hr dX2_readsPeriod_45 (by omega) ?_
                first
                  | exact Or.inl ⟨rfl, ⟨by omega, by omega⟩, rfl⟩
                  | (refine Or.inr (Or.inl ⟨rfl, by assumption, ?_⟩)
                     rfl)
                  | exact Or.inr (Or.inr ⟨rfl, by omega, by assumption, rfl⟩))
            · try (exfalso; omega)
              all_goals (
                refine k_iconst C dX2_readsPeriod_37 ?_
                refine k_zret C hr dX2_readsPeriod_38 (by omega) ?_
                first
                  | exact Or.inl ⟨rfl, ⟨by omega, by omega⟩, rfl⟩
                  | (refine Or.inr (Or.inl ⟨rfl, by assumption, ?_⟩)
                     rfl)
                  | exact Or.inr (Or.inr ⟨rfl, by omega, by assumption, rfl⟩))
          · skip
            rw [if_neg hdg]
            refine k_istore_n C dX2_readsPeriod_31 (by decide) rfl ?_
            refine k_iload_n C dX2_readsPeriod_32 rfl ?_
            refine k_iconst C dX2_readsPeriod_33 ?_
            refine k_icmp_ne (tgt := 39) C dX2_readsPeriod_34 (by decide) ⟨by omega, by omega⟩ ⟨by omega, by omega⟩ (fun c34 => ?_) (fun c34 => ?_)
            · try (exfalso; omega)
              all_goals (
                refine k_aload_n C dX2_readsPeriod_39 rfl ?_
                refine k_iload_n C dX2_readsPeriod_40 rfl ?_
                refine k_put C (k := 3) inX2 tyX2_ok nmX2 (ci := 2) rfl (by decide) fl_X2_15 rfl (Nat.le_of_ble_eq_true rfl) dX2_readsPeriod_41 (by repeat (first | exact hs_eq _ _ _ | refine hs_ne (by omega) ?_ | assumption)) ?_
                refine k_iconst C dX2_readsPeriod_44 ?_
                refine k_zret C hr dX2_readsPeriod_45 (by omega) ?_
                first
                  | exact Or.inl ⟨rfl, ⟨by omega, by omega⟩, rfl⟩
                  | (refine Or.inr (Or.inl ⟨rfl, by assumption, ?_⟩)
                     rfl)
                  | exact Or.inr (Or.inr ⟨rfl, by omega, by assumption, rfl⟩))
            · try (exfalso; omega)
              all_goals (
                refine k_iconst C dX2_readsPeriod_37 ?_
                refine k_zret C hr dX2_readsPeriod_38 (by omega) ?_
                first
                  | exact Or.inl ⟨rfl, ⟨by omega, by omega⟩, rfl⟩
                  | (refine Or.inr (Or.inl ⟨rfl, by assumption, ?_⟩)
                     rfl)
                  | exact Or.inr (Or.inr ⟨rfl, by omega, by assumption, rfl⟩)))
      · try (exfalso; omega)
        all_goals (
          refine k_aload_n C dX2_readsPeriod_13 rfl ?_
          refine k_iconst C dX2_readsPeriod_14 ?_
          refine k_put C (k := 0) inX2 tyX2_ok nmX2 (ci := 2) rfl (by decide) fl_X2_11 rfl (Nat.le_of_ble_eq_true rfl) dX2_readsPeriod_15 (by repeat (first | exact hs_eq _ _ _ | refine hs_ne (by omega) ?_ | assumption)) ?_
          refine k_iconst C dX2_readsPeriod_18 ?_
          refine k_zret C hr dX2_readsPeriod_19 (by omega) ?_
          first
            | exact Or.inl ⟨rfl, ⟨by omega, by omega⟩, rfl⟩
            | (refine Or.inr (Or.inl ⟨rfl, by assumption, ?_⟩)
               rfl)
            | exact Or.inr (Or.inr ⟨rfl, by omega, by assumption, rfl⟩)))
