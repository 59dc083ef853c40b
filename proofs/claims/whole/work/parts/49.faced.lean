set_option maxRecDepth 20000 in
set_option maxHeartbeats 1000000 in
theorem ct_X7_why (l : Launch) (D : va_G) (tc : Nat → ClassId) (base : Nat) (rc : Nat) (zrr hhi htx : Int → Int) (st ln : Int) (hpp : AH) (hX : XA hpp rc zrr hhi htx st ln) (qq : Int) (hq : 0 ≤ qq ∧ qq ≤ 2) : CT l D tc base yX7_why cX7_why 2 (some .int) 5 [aR rc, aI qq] hpp (fun r h' => r = some (aI (zWhy zrr qq)) ∧ XA h' rc (zrr) (hhi) (htx) (st) (ln) ∧ Fr hpp h' rc 127) := by
  refine CT.of [some (aR rc), some (aI qq)] (by decide +kernel) rfl (Nat.le_of_ble_eq_true rfl) ?_
  intro p e s m args below meth c C hr hnm
  obtain ⟨zth, gr, x0, hS, hT, hH, hTx, x5, hok, h13, hst⟩ := id hX
  obtain ⟨ol, ff, hol, hj0, -⟩ := id hH
  obtain ⟨fsn, hsn0⟩ := hS.obj
  have hi := hok.1
  obtain ⟨⟨v0, v1, v2, v9, v10, v11, v12, v13, v21, v52, v61, v62, v63, v64, v65, v66⟩, hwi, hde⟩ := id hi
  obtain ⟨fst0, q0⟩ := hT.obj
  refine k_iload_n C dX7_why_0 rfl ?_
  refine k_iconst C dX7_why_1 ?_
  refine k_iconst C dX7_why_2 ?_
  refine k_callS C (n := 3) (as := [_, _, _]) (ct_X7_requireRange l D tc base _ _ _ _ ⟨by omega, by omega⟩ ⟨by omega, by omega⟩ ⟨by omega, by omega⟩) ml_X7_41 sm_X7_requireRange ini_X7 co_X7_requireRange ⟨by decide, by decide, by decide +kernel⟩ rfl ⟨by decide, by decide⟩ rfl (Nat.le_of_ble_eq_true rfl) ⟨Nat.zero_le _, Nat.zero_le _⟩ dX7_why_3 ?_
  rintro _ _ ⟨rfl, rfl⟩
  refine k_aload_n C dX7_why_6 rfl ?_
  refine k_get C (k := 1) inX7 (ci := 7) rfl (by decide) fl_X7_16 dX7_why_7 (by repeat (first | exact hs_eq _ _ _ | refine hs_ne (by omega) ?_ | assumption)) rfl ?_
  refine k_aload_n C dX7_why_10 rfl ?_
  refine k_get C (k := 0) inX7 (ci := 7) rfl (by decide) fl_X7_10 dX7_why_11 (by repeat (first | exact hs_eq _ _ _ | refine hs_ne (by omega) ?_ | assumption)) rfl ?_
  refine k_callV C (n := 1) (as := [_]) (ct_X3_copyFrom l D tc base (rc + 16) (rc + 1) zth zrr _ hT hS hi (by omega)) ml_X7_242 im_X3_copyFrom se_X3_copyFrom ini_X3 co_X3_copyFrom ⟨rfl, by decide, by decide, by decide +kernel⟩ rfl (ci := 3) rfl (by repeat (first | exact hs_eq _ _ _ | refine hs_ne (by omega) ?_ | assumption)) ⟨by decide, by decide⟩ rfl (Nat.le_of_ble_eq_true rfl) ⟨Nat.zero_le _, Nat.zero_le _⟩ dX7_why_14 ?_
  rintro _ hcp ⟨rfl, hSc, hFc⟩
  have hXc := hX.trial hFc hSc
  obtain ⟨fsc, q1⟩ := hSc.obj
  obtain ⟨ztc, grc, x0c, hS2, -, -, -, x5c, -⟩ := id hXc
  refine k_iload_n C dX7_why_17 rfl ?_
  refine k_lsw (t0 := 44) (t1 := 52) (dt := 60) C dX7_why_18 ⟨by omega, by omega⟩ (by decide) (by decide) (by decide) (fun c18 => ?_) (fun c18 => ?_) (fun c18 => ?_)
  · try (exfalso; omega)
    all_goals (
      refine k_aload_n C dX7_why_44 rfl ?_
      refine k_get C (k := 1) inX7 (ci := 7) rfl (by decide) fl_X7_16 dX7_why_45 (by repeat (first | exact hs_eq _ _ _ | refine hs_ne (by omega) ?_ | assumption)) rfl ?_
      refine k_callV C (n := 0) (as := []) (ct_X3_reasonNotToGoOn l D tc base (rc + 16) zrr _ hSc hi (by omega)) ml_X7_245 im_X3_reasonNotToGoOn se_X3_reasonNotToGoOn ini_X3 co_X3_reasonNotToGoOn ⟨rfl, by decide, by decide, by decide +kernel⟩ rfl (ci := 3) rfl (by repeat (first | exact hs_eq _ _ _ | refine hs_ne (by omega) ?_ | assumption)) ⟨by decide, by decide⟩ rfl (Nat.le_of_ble_eq_true rfl) ⟨Nat.zero_le _, Nat.zero_le _⟩ dX7_why_48 ?_
      rintro _ hrr ⟨rfl, hSr, hFr⟩
      refine k_iret C hr dX7_why_51 ?_
      first
        | (refine ⟨?_, hXc.trial hFr hSr, Fr.tr (hFc.wide (by omega) (by omega)) (hFr.wide (by omega) (by omega))⟩
           first
             | (subst qq; rfl)
             | (refine congrArg (fun xx => some (aI xx)) ?_
                unfold zWhy
                rw [if_neg (by omega), if_neg (by omega)])
             | (refine congrArg (fun xx => some (aI xx)) ?_
                unfold zWhy
                rw [if_neg (by omega), if_pos (by omega)]))
        | (refine ⟨?_, hXc, hFc.wide (by omega) (by omega)⟩
           refine congrArg (fun xx => some (aI xx)) ?_
           unfold zWhy
           rw [if_pos (by omega)]))
  · try (exfalso; omega)
    all_goals (
      refine k_aload_n C dX7_why_52 rfl ?_
      refine k_get C (k := 1) inX7 (ci := 7) rfl (by decide) fl_X7_16 dX7_why_53 (by repeat (first | exact hs_eq _ _ _ | refine hs_ne (by omega) ?_ | assumption)) rfl ?_
      refine k_callV C (n := 0) (as := []) (ct_X3_reasonNotToStrike l D tc base (rc + 16) zrr _ hSc hi (by omega) hok.2) ml_X7_248 im_X3_reasonNotToStrike se_X3_reasonNotToStrike ini_X3 co_X3_reasonNotToStrike ⟨rfl, by decide, by decide, by decide +kernel⟩ rfl (ci := 3) rfl (by repeat (first | exact hs_eq _ _ _ | refine hs_ne (by omega) ?_ | assumption)) ⟨by decide, by decide⟩ rfl (Nat.le_of_ble_eq_true rfl) ⟨Nat.zero_le _, Nat.zero_le _⟩ dX7_why_56 ?_
      rintro _ hrr ⟨rfl, hSr, hFr⟩
      refine k_iret C hr dX7_why_59 ?_
      first
        | (refine ⟨?_, hXc.trial hFr hSr, Fr.tr (hFc.wide (by omega) (by omega)) (hFr.wide (by omega) (by omega))⟩
           first
             | (subst qq; rfl)
             | (refine congrArg (fun xx => some (aI xx)) ?_
                unfold zWhy
                rw [if_neg (by omega), if_neg (by omega)])
             | (refine congrArg (fun xx => some (aI xx)) ?_
                unfold zWhy
                rw [if_neg (by omega), if_pos (by omega)]))
        | (refine ⟨?_, hXc, hFc.wide (by omega) (by omega)⟩
           refine congrArg (fun xx => some (aI xx)) ?_
           unfold zWhy
           rw [if_pos (by omega)]))
  · try (exfalso; omega)
    all_goals (
      refine k_aload_n C dX7_why_60 rfl ?_
      refine k_get C (k := 1) inX7 (ci := 7) rfl (by decide) fl_X7_16 dX7_why_61 (by repeat (first | exact hs_eq _ _ _ | refine hs_ne (by omega) ?_ | assumption)) rfl ?_
      refine k_callV C (n := 0) (as := []) (ct_X3_reasonNotToCome l D tc base (rc + 16) zrr _ hSc hi (by omega)) ml_X7_251 im_X3_reasonNotToCome se_X3_reasonNotToCome ini_X3 co_X3_reasonNotToCome ⟨rfl, by decide, by decide, by decide +kernel⟩ rfl (ci := 3) rfl (by repeat (first | exact hs_eq _ _ _ | refine hs_ne (by omega) ?_ | assumption)) ⟨by decide, by decide⟩ rfl (Nat.le_of_ble_eq_true rfl) ⟨Nat.zero_le _, Nat.zero_le _⟩ dX7_why_64 ?_
      rintro _ hrr ⟨rfl, rfl⟩
      refine k_iret C hr dX7_why_67 ?_
      first
        | (refine ⟨?_, hXc.trial hFr hSr, Fr.tr (hFc.wide (by omega) (by omega)) (hFr.wide (by omega) (by omega))⟩
           first
             | (subst qq; rfl)
             | (refine congrArg (fun xx => some (aI xx)) ?_
                unfold zWhy
                rw [if_neg (by omega), if_neg (by omega)])
             | (refine congrArg (fun xx => some (aI xx)) ?_
                unfold zWhy
                rw [if_neg (by omega), if_pos (by omega)]))
        | (refine ⟨?_, hXc, hFc.wide (by omega) (by omega)⟩
           refine congrArg (fun xx => some (aI xx)) ?_
           unfold zWhy
           rw [if_pos (by omega)]))

set_option maxRecDepth 20000 in
set_option maxHeartbeats 1000000 in
theorem ct_X7_ifPassed (l : Launch) (D : va_G) (tc : Nat → ClassId) (base : Nat) (rc : Nat) (zrr hhi htx : Int → Int) (st ln : Int) (hpp : AH) (hX : XA hpp rc zrr hhi htx st ln) (nn : Nat) (qq : Int) (hn : 1 ≤ nn ∧ nn ≤ 720) (hq : 0 ≤ qq ∧ qq ≤ 9) : CT l D tc base yX7_ifPassed cX7_ifPassed 3 (some .int) 6 [aR rc, aI nn, aI qq] hpp (fun r h' => r = some (aI (zOut (zGo zrr nn) qq)) ∧ XA h' rc (zrr) (hhi) (htx) (st) (ln) ∧ Fr hpp h' rc 127) := by
  refine CT.of [some (aR rc), some (aI nn), some (aI qq)] (by decide +kernel) rfl (Nat.le_of_ble_eq_true rfl) ?_
  intro p e s m args below meth c C hr hnm
  obtain ⟨zth, gr, x0, hS, hT, hH, hTx, x5, hok, h13, hst⟩ := id hX
  obtain ⟨ol, ff, hol, hj0, -⟩ := id hH
  obtain ⟨fsn, hsn0⟩ := hS.obj
  have hi := hok.1
  obtain ⟨⟨v0, v1, v2, v9, v10, v11, v12, v13, v21, v52, v61, v62, v63, v64, v65, v66⟩, hwi, hde⟩ := id hi
  obtain ⟨fst0, q0⟩ := hT.obj
  refine k_iload_n C dX7_ifPassed_0 rfl ?_
  refine k_iconst C dX7_ifPassed_1 ?_
  refine k_sipush C dX7_ifPassed_2 (by decide +kernel) ?_
  refine k_callS C (n := 3) (as := [_, _, _]) (ct_X7_requireRange l D tc base _ _ _ _ ⟨by omega, by omega⟩ ⟨by omega, by omega⟩ ⟨by omega, by omega⟩) ml_X7_41 sm_X7_requireRange ini_X7 co_X7_requireRange ⟨by decide, by decide, by decide +kernel⟩ rfl ⟨by decide, by decide⟩ rfl (Nat.le_of_ble_eq_true rfl) ⟨Nat.zero_le _, Nat.zero_le _⟩ dX7_ifPassed_5 ?_
  rintro _ _ ⟨rfl, rfl⟩
  refine k_iload_n C dX7_ifPassed_8 rfl ?_
  refine k_iconst C dX7_ifPassed_9 ?_
  refine k_bipush C dX7_ifPassed_10 (by decide +kernel) ?_
  refine k_callS C (n := 3) (as := [_, _, _]) (ct_X7_requireRange l D tc base _ _ _ _ ⟨by omega, by omega⟩ ⟨by omega, by omega⟩ ⟨by omega, by omega⟩) ml_X7_41 sm_X7_requireRange ini_X7 co_X7_requireRange ⟨by decide, by decide, by decide +kernel⟩ rfl ⟨by decide, by decide⟩ rfl (Nat.le_of_ble_eq_true rfl) ⟨Nat.zero_le _, Nat.zero_le _⟩ dX7_ifPassed_12 ?_
  rintro _ _ ⟨rfl, rfl⟩
  refine k_aload_n C dX7_ifPassed_15 rfl ?_
  refine k_get C (k := 1) inX7 (ci := 7) rfl (by decide) fl_X7_16 dX7_ifPassed_16 (by repeat (first | exact hs_eq _ _ _ | refine hs_ne (by omega) ?_ | assumption)) rfl ?_
  refine k_aload_n C dX7_ifPassed_19 rfl ?_
  refine k_get C (k := 0) inX7 (ci := 7) rfl (by decide) fl_X7_10 dX7_ifPassed_20 (by repeat (first | exact hs_eq _ _ _ | refine hs_ne (by omega) ?_ | assumption)) rfl ?_
  refine k_callV C (n := 1) (as := [_]) (ct_X3_copyFrom l D tc base (rc + 16) (rc + 1) zth zrr _ hT hS hi (by omega)) ml_X7_242 im_X3_copyFrom se_X3_copyFrom ini_X3 co_X3_copyFrom ⟨rfl, by decide, by decide, by decide +kernel⟩ rfl (ci := 3) rfl (by repeat (first | exact hs_eq _ _ _ | refine hs_ne (by omega) ?_ | assumption)) ⟨by decide, by decide⟩ rfl (Nat.le_of_ble_eq_true rfl) ⟨Nat.zero_le _, Nat.zero_le _⟩ dX7_ifPassed_23 ?_
  rintro _ hcp ⟨rfl, hSc, hFc⟩
  have hXc := hX.trial hFc hSc
  obtain ⟨fsc, q1⟩ := hSc.obj
  obtain ⟨ztc, grc, x0c, hS2, -, -, -, x5c, -⟩ := id hXc
  refine k_aload_n C dX7_ifPassed_26 rfl ?_
  refine k_get C (k := 1) inX7 (ci := 7) rfl (by decide) fl_X7_16 dX7_ifPassed_27 (by repeat (first | exact hs_eq _ _ _ | refine hs_ne (by omega) ?_ | assumption)) rfl ?_
  refine k_iload_n C dX7_ifPassed_30 rfl ?_
  refine k_callV C (n := 1) (as := [_]) (ct_X3_passMinutes l D tc base (rc + 16) zrr _ hSc hi hok.2 nn (by omega)) ml_X7_137 im_X3_passMinutes se_X3_passMinutes ini_X3 co_X3_passMinutes ⟨rfl, by decide, by decide, by decide +kernel⟩ rfl (ci := 3) rfl (by repeat (first | exact hs_eq _ _ _ | refine hs_ne (by omega) ?_ | assumption)) ⟨by decide, by decide⟩ rfl (Nat.le_of_ble_eq_true rfl) ⟨Nat.zero_le _, Nat.zero_le _⟩ dX7_ifPassed_31 ?_
  rintro _ hpm ⟨rfl, hSp, hFp⟩
  have hzg := zOk_go hok nn
  have hXp := hXc.trial hFp hSp
  obtain ⟨ztp, grp, x0p, -⟩ := id hXp
  obtain ⟨fsp, q2⟩ := hSp.obj
  refine k_aload_n C dX7_ifPassed_34 rfl ?_
  refine k_get C (k := 1) inX7 (ci := 7) rfl (by decide) fl_X7_16 dX7_ifPassed_35 (by repeat (first | exact hs_eq _ _ _ | refine hs_ne (by omega) ?_ | assumption)) rfl ?_
  refine k_iload_n C dX7_ifPassed_38 rfl ?_
  refine k_callV C (n := 1) (as := [_]) (ct_X3_outcome l D tc base (rc + 16) (zGo zrr nn) _ hSp hzg.1.1 _ hq.1 hq.2) ml_X7_254 im_X3_outcome se_X3_outcome ini_X3 co_X3_outcome ⟨rfl, by decide, by decide, by decide +kernel⟩ rfl (ci := 3) rfl (by repeat (first | exact hs_eq _ _ _ | refine hs_ne (by omega) ?_ | assumption)) ⟨by decide, by decide⟩ rfl (Nat.le_of_ble_eq_true rfl) ⟨Nat.zero_le _, Nat.zero_le _⟩ dX7_ifPassed_39 ?_
  rintro _ _ ⟨rfl, rfl⟩
  refine k_iret C hr dX7_ifPassed_42 ?_
  exact ⟨rfl, hXp, Fr.tr (hFc.wide (by omega) (by omega)) (hFp.wide (by omega) (by omega))⟩

set_option maxRecDepth 20000 in
set_option maxHeartbeats 1000000 in
theorem ct_X7_standsIn (l : Launch) (D : va_G) (tc : Nat → ClassId) (base : Nat) (rc : Nat) (zrr hhi htx : Int → Int) (st ln : Int) (hpp : AH) (hX : XA hpp rc zrr hhi htx st ln) : CT l D tc base yX7_standsIn cX7_standsIn 2 (some .int) 5 [aR rc] hpp (fun r h' => r = some (aI (zStN zrr 1501)) ∧ XA h' rc (zrr) (hhi) (htx) (st) (ln) ∧ Fr hpp h' rc 127) := by
  refine CT.of [some (aR rc), none] (by decide +kernel) rfl (Nat.le_of_ble_eq_true rfl) ?_
  intro p e s m args below meth c C hr hnm
  obtain ⟨zth, gr, x0, hS, hT, hH, hTx, x5, hok, h13, hst⟩ := id hX
  obtain ⟨ol, ff, hol, hj0, -⟩ := id hH
  obtain ⟨fsn, hsn0⟩ := hS.obj
  have hi := hok.1
  obtain ⟨⟨v0, v1, v2, v9, v10, v11, v12, v13, v21, v52, v61, v62, v63, v64, v65, v66⟩, hwi, hde⟩ := id hi
  obtain ⟨fst0, q0⟩ := hT.obj
  refine k_aload_n C dX7_standsIn_0 rfl ?_
  refine k_get C (k := 1) inX7 (ci := 7) rfl (by decide) fl_X7_16 dX7_standsIn_1 (by repeat (first | exact hs_eq _ _ _ | refine hs_ne (by omega) ?_ | assumption)) rfl ?_
  refine k_aload_n C dX7_standsIn_4 rfl ?_
  refine k_get C (k := 0) inX7 (ci := 7) rfl (by decide) fl_X7_10 dX7_standsIn_5 (by repeat (first | exact hs_eq _ _ _ | refine hs_ne (by omega) ?_ | assumption)) rfl ?_
  refine k_callV C (n := 1) (as := [_]) (ct_X3_copyFrom l D tc base (rc + 16) (rc + 1) zth zrr _ hT hS hi (by omega)) ml_X7_242 im_X3_copyFrom se_X3_copyFrom ini_X3 co_X3_copyFrom ⟨rfl, by decide, by decide, by decide +kernel⟩ rfl (ci := 3) rfl (by repeat (first | exact hs_eq _ _ _ | refine hs_ne (by omega) ?_ | assumption)) ⟨by decide, by decide⟩ rfl (Nat.le_of_ble_eq_true rfl) ⟨Nat.zero_le _, Nat.zero_le _⟩ dX7_standsIn_8 ?_
  rintro _ hcp ⟨rfl, hSc, hFc⟩
  have hXc := hX.trial hFc hSc
  obtain ⟨fsc, q1⟩ := hSc.obj
  obtain ⟨ztc, grc, x0c, hS2, -, -, -, x5c, -⟩ := id hXc
  refine k_iconst C dX7_standsIn_11 ?_
  refine k_istore_n C dX7_standsIn_12 (by decide) rfl ?_
  have loop13 : ∀ (n : Nat) (kk : Nat) (hkk : AH), (kk : Int) ≤ 1501 → zStN zrr kk = -1 → XA hkk rc zrr hhi htx st ln → SAt hkk (rc + 16) (zGo zrr kk) → Fr hpp hkk rc 127 → (1501 : Int) - kk < (n : Int) → Wk D tc base 2 p l e (lvR 5) s m args below meth c 0 0 (MQ below (Qx D tc base (fun r h' => r = some (aI (zStN zrr 1501)) ∧ XA h' rc (zrr) (hhi) (htx) (st) (ln) ∧ Fr hpp h' rc 127)) args s 0 0 (fun q => base ≤ q)) 13 [some (aR rc), some (aI kk)] [] hkk := by
    intro n
    induction n with
    | zero =>
      intro kk hkk hk hnn hXk hSk hFk hmu
      exfalso
      omega
    | succ n ih =>
      intro kk hkk hk hnn hXk hSk hFk hmu
      have hzg := zOk_go hok kk
      obtain ⟨ztk, grk, x0k, hS2k, -⟩ := id hXk
      obtain ⟨fsk, q3⟩ := hSk.obj
      refine k_iload_n C dX7_standsIn_13 rfl ?_
      refine k_sipush C dX7_standsIn_14 (by decide +kernel) ?_
      refine k_icmp_gt (tgt := 52) C dX7_standsIn_17 (by decide) ⟨by omega, by omega⟩ ⟨by omega, by omega⟩ (fun c17 => ?_) (fun c17 => ?_)
      · try (exfalso; omega)
        all_goals (
          refine k_iconst C dX7_standsIn_52 ?_
          refine k_iret C hr dX7_standsIn_53 ?_
          first
            | (have hy : zStops zrr kk := by
                 apply Classical.byContradiction
                 intro hs
                 rw [if_neg hs] at hzm
                 omega
               have hyk : zStN zrr (kk + 1) = kk := by
                 simp only [zStN]
                 rw [if_pos hnn, if_pos hy]
               have hst := zStN_stay zrr (n := kk + 1) (m := 1501) (by omega) (by rw [hyk]; omega)
               rw [hst, hyk]
               exact ⟨rfl, hXp, hFk.tr (hFp.wide (by omega) (by omega))⟩)
            | (have e1 : kk = 1501 := by omega
               subst e1
               rw [hnn]
               exact ⟨rfl, hXk, hFk⟩))
      · try (exfalso; omega)
        all_goals (
          refine k_aload_n C dX7_standsIn_20 rfl ?_
          refine k_get C (k := 1) inX7 (ci := 7) rfl (by decide) fl_X7_16 dX7_standsIn_21 (by repeat (first | exact hs_eq _ _ _ | refine hs_ne (by omega) ?_ | assumption)) rfl ?_
          refine k_callV C (n := 0) (as := []) (ct_X3_passMinute l D tc base (rc + 16) (zGo zrr kk) _ hSk hzg.1.1 (by omega) hzg.1.2) ml_X7_258 im_X3_passMinute se_X3_passMinute ini_X3 co_X3_passMinute ⟨rfl, by decide, by decide, by decide +kernel⟩ rfl (ci := 3) rfl (by repeat (first | exact hs_eq _ _ _ | refine hs_ne (by omega) ?_ | assumption)) ⟨by decide, by decide⟩ rfl (Nat.le_of_ble_eq_true rfl) ⟨Nat.zero_le _, Nat.zero_le _⟩ dX7_standsIn_24 ?_
          rintro _ hpm ⟨rfl, hSp, hFp⟩
          have hXp := hXk.trial hFp hSp
          obtain ⟨ztp, grp, x0p, hS2p, -⟩ := id hXp
          have hzm := zMin_19 hzg.1
          have hz0 := zGo_19 hok (zStN_none.mp hnn)
          have hzq := zOk_min hzg.1
          have hi19 := hzq.1.1.1.2.2.2.2.2.2.2.1
          obtain ⟨f1, f2, f3, w1, w2, w3, w4, w5, d1, d2, se, ⟨g0, g1, g2, g3, g4, g5, g6, g7, g8, g9, g10, g11, g12, g13, g14⟩, hsr⟩ := id hS2p
          obtain ⟨r1, r2, r3, r4⟩ := id hsr
          have n0 := g0
          obtain ⟨f1, f2, f3, w1, w2, w3, w4, w5, d1, d2, se, ⟨g0, g1, g2, g3, g4, g5, g6, g7, g8, g9, g10, g11, g12, g13, g14⟩, hsr⟩ := id hSp
          obtain ⟨r1, r2, r3, r4⟩ := id hsr
          refine k_aload_n C dX7_standsIn_27 rfl ?_
          refine k_get C (k := 1) inX7 (ci := 7) rfl (by decide) fl_X7_16 dX7_standsIn_28 (by repeat (first | exact hs_eq _ _ _ | refine hs_ne (by omega) ?_ | assumption)) rfl ?_
          refine k_get C (k := 14) inX3 (ci := 3) rfl (by decide) fl_X7_228 dX7_standsIn_31 (by repeat (first | exact hs_eq _ _ _ | refine hs_ne (by omega) ?_ | assumption)) rfl ?_
          refine k_aload_n C dX7_standsIn_34 rfl ?_
          refine k_get C (k := 0) inX7 (ci := 7) rfl (by decide) fl_X7_10 dX7_standsIn_35 (by repeat (first | exact hs_eq _ _ _ | refine hs_ne (by omega) ?_ | assumption)) rfl ?_
          refine k_get C (k := 14) inX3 (ci := 3) rfl (by decide) fl_X7_228 dX7_standsIn_38 (by repeat (first | exact hs_eq _ _ _ | refine hs_ne (by omega) ?_ | assumption)) rfl ?_
          refine k_icmp_le (tgt := 46) C dX7_standsIn_41 (by decide) ⟨by omega, by omega⟩ ⟨by omega, by omega⟩ (fun c41 => ?_) (fun c41 => ?_)
          · try (exfalso; omega)
            all_goals (
              refine k_iinc C dX7_standsIn_46 rfl (by decide) rfl ?_
              refine k_goto (tgt := 13) C dX7_standsIn_49 (by decide) ?_
              have e2 : ((kk + 1 : Nat) : Int) = (kk : Int) + 1 := by omega
              have hno : zStN zrr (kk + 1) = -1 := by
                simp only [zStN]
                rw [if_pos hnn, if_neg]
                intro hs
                rw [if_pos hs] at hzm
                omega
              have q1 := ih (kk + 1) _ (by omega) hno hXp hSp (hFk.tr (hFp.wide (by omega) (by omega))) (by omega)
              rw [e2] at q1
              exact q1)
          · try (exfalso; omega)
            all_goals (
              refine k_iload_n C dX7_standsIn_44 rfl ?_
              refine k_iret C hr dX7_standsIn_45 ?_
              first
                | (have hy : zStops zrr kk := by
                     apply Classical.byContradiction
                     intro hs
                     rw [if_neg hs] at hzm
                     omega
                   have hyk : zStN zrr (kk + 1) = kk := by
                     simp only [zStN]
                     rw [if_pos hnn, if_pos hy]
                   have hst := zStN_stay zrr (n := kk + 1) (m := 1501) (by omega) (by rw [hyk]; omega)
                   rw [hst, hyk]
                   exact ⟨rfl, hXp, hFk.tr (hFp.wide (by omega) (by omega))⟩)
                | (have e1 : kk = 1501 := by omega
                   subst e1
                   rw [hnn]
                   exact ⟨rfl, hXk, hFk⟩)))
  exact loop13 1502 0 _ (by omega) rfl hXc hSc (hFc.wide (by omega) (by omega)) (by omega)

set_option maxRecDepth 20000 in
set_option maxHeartbeats 1000000 in
theorem ct_X7_paidIn (l : Launch) (D : va_G) (tc : Nat → ClassId) (base : Nat) (rc : Nat) (zrr hhi htx : Int → Int) (st ln : Int) (hpp : AH) (hX : XA hpp rc zrr hhi htx st ln) : CT l D tc base yX7_paidIn cX7_paidIn 2 (some .int) 5 [aR rc] hpp (fun r h' => r = some (aI (zPaN zrr 721)) ∧ XA h' rc (zrr) (hhi) (htx) (st) (ln) ∧ Fr hpp h' rc 127) := by
  refine CT.of [some (aR rc), none] (by decide +kernel) rfl (Nat.le_of_ble_eq_true rfl) ?_
  intro p e s m args below meth c C hr hnm
  obtain ⟨zth, gr, x0, hS, hT, hH, hTx, x5, hok, h13, hst⟩ := id hX
  obtain ⟨ol, ff, hol, hj0, -⟩ := id hH
  obtain ⟨fsn, hsn0⟩ := hS.obj
  have hi := hok.1
  obtain ⟨⟨v0, v1, v2, v9, v10, v11, v12, v13, v21, v52, v61, v62, v63, v64, v65, v66⟩, hwi, hde⟩ := id hi
  obtain ⟨fst0, q0⟩ := hT.obj
  refine k_aload_n C dX7_paidIn_0 rfl ?_
  refine k_get C (k := 1) inX7 (ci := 7) rfl (by decide) fl_X7_16 dX7_paidIn_1 (by repeat (first | exact hs_eq _ _ _ | refine hs_ne (by omega) ?_ | assumption)) rfl ?_
  refine k_aload_n C dX7_paidIn_4 rfl ?_
  refine k_get C (k := 0) inX7 (ci := 7) rfl (by decide) fl_X7_10 dX7_paidIn_5 (by repeat (first | exact hs_eq _ _ _ | refine hs_ne (by omega) ?_ | assumption)) rfl ?_
  refine k_callV C (n := 1) (as := [_]) (ct_X3_copyFrom l D tc base (rc + 16) (rc + 1) zth zrr _ hT hS hi (by omega)) ml_X7_242 im_X3_copyFrom se_X3_copyFrom ini_X3 co_X3_copyFrom ⟨rfl, by decide, by decide, by decide +kernel⟩ rfl (ci := 3) rfl (by repeat (first | exact hs_eq _ _ _ | refine hs_ne (by omega) ?_ | assumption)) ⟨by decide, by decide⟩ rfl (Nat.le_of_ble_eq_true rfl) ⟨Nat.zero_le _, Nat.zero_le _⟩ dX7_paidIn_8 ?_
  rintro _ hcp ⟨rfl, hSc, hFc⟩
  have hXc := hX.trial hFc hSc
  obtain ⟨fsc, q1⟩ := hSc.obj
  obtain ⟨ztc, grc, x0c, hS2, -, -, -, x5c, -⟩ := id hXc
  refine k_iconst C dX7_paidIn_11 ?_
  refine k_istore_n C dX7_paidIn_12 (by decide) rfl ?_
  have loop13 : ∀ (n : Nat) (kk : Nat) (hkk : AH), (kk : Int) ≤ 721 → zPaN zrr kk = -1 → XA hkk rc zrr hhi htx st ln → SAt hkk (rc + 16) (zGo zrr kk) → Fr hpp hkk rc 127 → (721 : Int) - kk < (n : Int) → Wk D tc base 2 p l e (lvR 5) s m args below meth c 0 0 (MQ below (Qx D tc base (fun r h' => r = some (aI (zPaN zrr 721)) ∧ XA h' rc (zrr) (hhi) (htx) (st) (ln) ∧ Fr hpp h' rc 127)) args s 0 0 (fun q => base ≤ q)) 13 [some (aR rc), some (aI kk)] [] hkk := by
    intro n
    induction n with
    | zero =>
      intro kk hkk hk hnn hXk hSk hFk hmu
      exfalso
      omega
    | succ n ih =>
      intro kk hkk hk hnn hXk hSk hFk hmu
      have hzg := zOk_go hok kk
      obtain ⟨ztk, grk, x0k, hS2k, -⟩ := id hXk
      obtain ⟨fsk, q3⟩ := hSk.obj
      have h52 := hzg.1.1.1.2.2.2.2.2.2.2.2.2.1
      obtain ⟨f1, f2, f3, w1, w2, w3, w4, w5, d1, d2, se, ⟨g0, g1, g2, g3, g4, g5, g6, g7, g8, g9, g10, g11, g12, g13, g14⟩, hsr⟩ := id hSk
      obtain ⟨r1, r2, r3, r4⟩ := id hsr
      refine k_iload_n C dX7_paidIn_13 rfl ?_
      refine k_sipush C dX7_paidIn_14 (by decide +kernel) ?_
      refine k_icmp_gt (tgt := 48) C dX7_paidIn_17 (by decide) ⟨by omega, by omega⟩ ⟨by omega, by omega⟩ (fun c17 => ?_) (fun c17 => ?_)
      · try (exfalso; omega)
        all_goals (
          refine k_iconst C dX7_paidIn_48 ?_
          refine k_iret C hr dX7_paidIn_49 ?_
          first
            | (have hyk : zPaN zrr (kk + 1) = kk := by
                 simp only [zPaN]
                 rw [if_pos hnn, if_pos (by omega)]
               have hst := zPaN_stay zrr (n := kk + 1) (m := 721) (by omega) (by rw [hyk]; omega)
               rw [hst, hyk]
               exact ⟨rfl, hXk, hFk⟩)
            | (have e1 : kk = 721 := by omega
               subst e1
               rw [hnn]
               exact ⟨rfl, hXk, hFk⟩))
      · try (exfalso; omega)
        all_goals (
          refine k_aload_n C dX7_paidIn_20 rfl ?_
          refine k_get C (k := 1) inX7 (ci := 7) rfl (by decide) fl_X7_16 dX7_paidIn_21 (by repeat (first | exact hs_eq _ _ _ | refine hs_ne (by omega) ?_ | assumption)) rfl ?_
          refine k_get C (k := 2) inX3 (ci := 3) rfl (by decide) fl_X7_89 dX7_paidIn_24 (by repeat (first | exact hs_eq _ _ _ | refine hs_ne (by omega) ?_ | assumption)) rfl ?_
          refine k_get C (k := 0) inX0 (ci := 0) rfl (by decide) fl_X7_99 dX7_paidIn_27 (by repeat (first | exact hs_eq _ _ _ | refine hs_ne (by omega) ?_ | assumption)) rfl ?_
          refine k_if_ne (tgt := 35) C dX7_paidIn_30 (by decide) ⟨by omega, by omega⟩ (fun c30 => ?_) (fun c30 => ?_)
          · try (exfalso; omega)
            all_goals (
              refine k_aload_n C dX7_paidIn_35 rfl ?_
              refine k_get C (k := 1) inX7 (ci := 7) rfl (by decide) fl_X7_16 dX7_paidIn_36 (by repeat (first | exact hs_eq _ _ _ | refine hs_ne (by omega) ?_ | assumption)) rfl ?_
              refine k_callV C (n := 0) (as := []) (ct_X3_passMinute l D tc base (rc + 16) (zGo zrr kk) _ hSk hzg.1.1 (by omega) hzg.1.2) ml_X7_258 im_X3_passMinute se_X3_passMinute ini_X3 co_X3_passMinute ⟨rfl, by decide, by decide, by decide +kernel⟩ rfl (ci := 3) rfl (by repeat (first | exact hs_eq _ _ _ | refine hs_ne (by omega) ?_ | assumption)) ⟨by decide, by decide⟩ rfl (Nat.le_of_ble_eq_true rfl) ⟨Nat.zero_le _, Nat.zero_le _⟩ dX7_paidIn_39 ?_
              rintro _ hpm ⟨rfl, hSp, hFp⟩
              have hXp := hXk.trial hFp hSp
              refine k_iinc C dX7_paidIn_42 rfl (by decide) rfl ?_
              refine k_goto (tgt := 13) C dX7_paidIn_45 (by decide) ?_
              have e2 : ((kk + 1 : Nat) : Int) = (kk : Int) + 1 := by omega
              have hno : zPaN zrr (kk + 1) = -1 := by
                simp only [zPaN]
                rw [if_pos hnn, if_neg (by omega)]
              have q1 := ih (kk + 1) _ (by omega) hno hXp hSp (hFk.tr (hFp.wide (by omega) (by omega))) (by omega)
              rw [e2] at q1
              exact q1)
          · try (exfalso; omega)
            all_goals (
              refine k_iload_n C dX7_paidIn_33 rfl ?_
              refine k_iret C hr dX7_paidIn_34 ?_
              first
                | (have hyk : zPaN zrr (kk + 1) = kk := by
                     simp only [zPaN]
                     rw [if_pos hnn, if_pos (by omega)]
                   have hst := zPaN_stay zrr (n := kk + 1) (m := 721) (by omega) (by rw [hyk]; omega)
                   rw [hst, hyk]
                   exact ⟨rfl, hXk, hFk⟩)
                | (have e1 : kk = 721 := by omega
                   subst e1
                   rw [hnn]
                   exact ⟨rfl, hXk, hFk⟩)))
  exact loop13 722 0 _ (by omega) rfl hXc hSc (hFc.wide (by omega) (by omega)) (by omega)

set_option maxRecDepth 20000 in
set_option maxHeartbeats 1000000 in
theorem ct_X7_downFirst (l : Launch) (D : va_G) (tc : Nat → ClassId) (base : Nat) (rc : Nat) (zrr hhi htx : Int → Int) (st ln : Int) (hpp : AH) (hX : XA hpp rc zrr hhi htx st ln) : CT l D tc base yX7_downFirst cX7_downFirst 3 (some .int) 5 [aR rc] hpp (fun r h' => r = some (aI (zFd zrr)) ∧ XA h' rc (zrr) (hhi) (htx) (st) (ln) ∧ Fr hpp h' rc 127) := by
  refine CT.of [some (aR rc), none, none] (by decide +kernel) rfl (Nat.le_of_ble_eq_true rfl) ?_
  intro p e s m args below meth c C hr hnm
  obtain ⟨zth, gr, x0, hS, hT, hH, hTx, x5, hok, h13, hst⟩ := id hX
  obtain ⟨ol, ff, hol, hj0, -⟩ := id hH
  obtain ⟨fsn, hsn0⟩ := hS.obj
  have hi := hok.1
  obtain ⟨⟨v0, v1, v2, v9, v10, v11, v12, v13, v21, v52, v61, v62, v63, v64, v65, v66⟩, hwi, hde⟩ := id hi
  obtain ⟨fst0, q0⟩ := hT.obj
  refine k_aload_n C dX7_downFirst_0 rfl ?_
  refine k_get C (k := 1) inX7 (ci := 7) rfl (by decide) fl_X7_16 dX7_downFirst_1 (by repeat (first | exact hs_eq _ _ _ | refine hs_ne (by omega) ?_ | assumption)) rfl ?_
  refine k_aload_n C dX7_downFirst_4 rfl ?_
  refine k_get C (k := 0) inX7 (ci := 7) rfl (by decide) fl_X7_10 dX7_downFirst_5 (by repeat (first | exact hs_eq _ _ _ | refine hs_ne (by omega) ?_ | assumption)) rfl ?_
  refine k_callV C (n := 1) (as := [_]) (ct_X3_copyFrom l D tc base (rc + 16) (rc + 1) zth zrr _ hT hS hi (by omega)) ml_X7_242 im_X3_copyFrom se_X3_copyFrom ini_X3 co_X3_copyFrom ⟨rfl, by decide, by decide, by decide +kernel⟩ rfl (ci := 3) rfl (by repeat (first | exact hs_eq _ _ _ | refine hs_ne (by omega) ?_ | assumption)) ⟨by decide, by decide⟩ rfl (Nat.le_of_ble_eq_true rfl) ⟨Nat.zero_le _, Nat.zero_le _⟩ dX7_downFirst_8 ?_
  rintro _ hcp ⟨rfl, hSc, hFc⟩
  have hXc := hX.trial hFc hSc
  obtain ⟨fsc, q1⟩ := hSc.obj
  obtain ⟨ztc, grc, x0c, hS2, -, -, -, x5c, -⟩ := id hXc
  refine k_iconst C dX7_downFirst_11 ?_
  refine k_istore_n C dX7_downFirst_12 (by decide) rfl ?_
  have loop13 : ∀ (n : Nat) (kk : Nat) (hkk : AH), (kk : Int) ≤ 1501 → (∀ jj : Nat, jj < kk → zDown (zGo zrr jj) = -1) → XA hkk rc zrr hhi htx st ln → SAt hkk (rc + 16) (zGo zrr kk) → Fr hpp hkk rc 127 → (1501 : Int) - kk < (n : Int) → Wk D tc base 3 p l e (lvR 5) s m args below meth c 0 0 (MQ below (Qx D tc base (fun r h' => r = some (aI (zFd zrr)) ∧ XA h' rc (zrr) (hhi) (htx) (st) (ln) ∧ Fr hpp h' rc 127)) args s 0 0 (fun q => base ≤ q)) 13 [some (aR rc), some (aI kk), none] [] hkk := by
    intro n
    induction n with
    | zero =>
      intro kk hkk hk hnn hXk hSk hFk hmu
      exfalso
      omega
    | succ n ih =>
      intro kk hkk hk hnn hXk hSk hFk hmu
      have hzg := zOk_go hok kk
      obtain ⟨ztk, grk, x0k, hS2k, -⟩ := id hXk
      obtain ⟨fsk, q3⟩ := hSk.obj
      obtain ⟨f1, f2, f3, w1, w2, w3, w4, w5, d1, d2, se, ⟨g0, g1, g2, g3, g4, g5, g6, g7, g8, g9, g10, g11, g12, g13, g14⟩, hsr⟩ := id hSk
      obtain ⟨r1, r2, r3, r4⟩ := id hsr
      refine k_iload_n C dX7_downFirst_13 rfl ?_
      refine k_sipush C dX7_downFirst_14 (by decide +kernel) ?_
      refine k_icmp_gt (tgt := 51) C dX7_downFirst_17 (by decide) ⟨by omega, by omega⟩ ⟨by omega, by omega⟩ (fun c17 => ?_) (fun c17 => ?_)
      · try (exfalso; omega)
        all_goals (
          refine k_iconst C dX7_downFirst_51 ?_
          refine k_iret C hr dX7_downFirst_52 ?_
          first
            | (have hfk := zFdK_all zrr (n := kk) hnn
               have hfd : zFd zrr = zDown (zGo zrr kk) := by
                 unfold zFd
                 rw [zFdK_stay zrr (n := kk) (m := 1500) (by omega) (by rw [hfk]; omega), hfk]
               rw [hfd]
               exact ⟨rfl, hXk, hFk⟩)
            | (have e1 : kk = 1501 := by omega
               subst e1
               have hfk := zFdK_all zrr (n := 1500) (fun jj hj => hnn jj (by omega))
               have hfd : zFd zrr = -1 := by
                 unfold zFd
                 rw [hfk]
                 exact hnn 1500 (by omega)
               rw [hfd]
               exact ⟨rfl, hXk, hFk⟩))
      · try (exfalso; omega)
        all_goals (
          refine k_aload_n C dX7_downFirst_20 rfl ?_
          refine k_get C (k := 1) inX7 (ci := 7) rfl (by decide) fl_X7_16 dX7_downFirst_21 (by repeat (first | exact hs_eq _ _ _ | refine hs_ne (by omega) ?_ | assumption)) rfl ?_
          refine k_get C (k := 0) inX3 (ci := 3) rfl (by decide) fl_X7_49 dX7_downFirst_24 (by repeat (first | exact hs_eq _ _ _ | refine hs_ne (by omega) ?_ | assumption)) rfl ?_
          refine k_callV C (n := 0) (as := []) (ct_X5_firstDown l D tc base (rc + 16 + 1) f1 f2 f3 _ (by repeat (first | exact hs_eq _ _ _ | refine hs_ne (by omega) ?_ | assumption)) (by repeat (first | exact hs_eq _ _ _ | refine hs_ne (by omega) ?_ | assumption)) (by repeat (first | exact hs_eq _ _ _ | refine hs_ne (by omega) ?_ | assumption)) (by repeat (first | exact hs_eq _ _ _ | refine hs_ne (by omega) ?_ | assumption)) (fun jj j0 j1 => by have := zInv_hgt hzg.1.1 j0 (by omega); rw [(r1 jj j0 j1).1]; omega)) ml_X7_268 im_X5_firstDown se_X5_firstDown ini_X5 co_X5_firstDown ⟨rfl, by decide, by decide, by decide +kernel⟩ rfl (ci := 5) rfl (by repeat (first | exact hs_eq _ _ _ | refine hs_ne (by omega) ?_ | assumption)) ⟨by decide, by decide⟩ rfl (Nat.le_of_ble_eq_true rfl) ⟨Nat.zero_le _, Nat.zero_le _⟩ dX7_downFirst_27 ?_
          rintro _ _ ⟨rfl, rfl⟩
          have hdn : (if f1 0 = 0 then (0 : Int) else if f1 1 = 0 then 1 else if f1 2 = 0 then 2 else -1) = zDown (zGo zrr kk) := by
            rw [(r1 0 (by omega) (by omega)).1, (r1 1 (by omega) (by omega)).1, (r1 2 (by omega) (by omega)).1]
            rfl
          rw [hdn]
          have hdr := zDown_rng (zGo zrr kk)
          refine k_istore_n C dX7_downFirst_30 (by decide) rfl ?_
          refine k_iload_n C dX7_downFirst_31 rfl ?_
          refine k_iconst C dX7_downFirst_32 ?_
          refine k_icmp_eq (tgt := 38) C dX7_downFirst_33 (by decide) ⟨by omega, by omega⟩ ⟨by omega, by omega⟩ (fun c33 => ?_) (fun c33 => ?_)
          · try (exfalso; omega)
            all_goals (
              refine k_aload_n C dX7_downFirst_38 rfl ?_
              refine k_get C (k := 1) inX7 (ci := 7) rfl (by decide) fl_X7_16 dX7_downFirst_39 (by repeat (first | exact hs_eq _ _ _ | refine hs_ne (by omega) ?_ | assumption)) rfl ?_
              refine k_callV C (n := 0) (as := []) (ct_X3_passMinute l D tc base (rc + 16) (zGo zrr kk) _ hSk hzg.1.1 (by omega) hzg.1.2) ml_X7_258 im_X3_passMinute se_X3_passMinute ini_X3 co_X3_passMinute ⟨rfl, by decide, by decide, by decide +kernel⟩ rfl (ci := 3) rfl (by repeat (first | exact hs_eq _ _ _ | refine hs_ne (by omega) ?_ | assumption)) ⟨by decide, by decide⟩ rfl (Nat.le_of_ble_eq_true rfl) ⟨Nat.zero_le _, Nat.zero_le _⟩ dX7_downFirst_42 ?_
              rintro _ hpm ⟨rfl, hSp, hFp⟩
              have hXp := hXk.trial hFp hSp
              refine k_iinc C dX7_downFirst_45 rfl (by decide) rfl ?_
              refine k_goto (tgt := 13) C dX7_downFirst_48 (by decide) ?_
              have e2 : ((kk + 1 : Nat) : Int) = (kk : Int) + 1 := by omega
              have q1 := ih (kk + 1) _ (by omega) (fun jj hj => by
                by_cases hjk : jj = kk
                · subst hjk
                  omega
                · exact hnn jj (by omega)) hXp hSp (hFk.tr (hFp.wide (by omega) (by omega))) (by omega)
              exact k_sub q1 (And.intro rfl (And.intro (by rw [e2]) trivial)))
          · try (exfalso; omega)
            all_goals (
              refine k_iload_n C dX7_downFirst_36 rfl ?_
              refine k_iret C hr dX7_downFirst_37 ?_
              first
                | (have hfk := zFdK_all zrr (n := kk) hnn
                   have hfd : zFd zrr = zDown (zGo zrr kk) := by
                     unfold zFd
                     rw [zFdK_stay zrr (n := kk) (m := 1500) (by omega) (by rw [hfk]; omega), hfk]
                   rw [hfd]
                   exact ⟨rfl, hXk, hFk⟩)
                | (have e1 : kk = 1501 := by omega
                   subst e1
                   have hfk := zFdK_all zrr (n := 1500) (fun jj hj => hnn jj (by omega))
                   have hfd : zFd zrr = -1 := by
                     unfold zFd
                     rw [hfk]
                     exact hnn 1500 (by omega)
                   rw [hfd]
                   exact ⟨rfl, hXk, hFk⟩)))
  exact loop13 1502 0 _ (by omega) (fun jj hj => by omega) hXc hSc (hFc.wide (by omega) (by omega)) (by omega)
