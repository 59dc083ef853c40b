set_option maxRecDepth 20000 in
set_option maxHeartbeats 1000000 in
theorem ct_X7_weight (l : Launch) (D : va_G) (tc : Nat → ClassId) (base : Nat) (rc : Nat) (zrr hhi htx : Int → Int) (st ln : Int) (hpp : AH) (hX : XA hpp rc zrr hhi htx st ln) (ww qq : Int) (hw : 0 ≤ ww ∧ ww ≤ 2) (hq : 0 ≤ qq ∧ qq ≤ 2) : CT l D tc base yX7_weight cX7_weight 3 (some .int) 1 [aR rc, aI ww, aI qq] hpp (fun r h' => r = some (aI (zrr (3 * qq + ww))) ∧ hpp = h') := by
  refine CT.of [some (aR rc), some (aI ww), some (aI qq)] (by decide +kernel) rfl (Nat.le_of_ble_eq_true rfl) ?_
  intro p e s m args below meth c C hr hnm
  obtain ⟨zth, gr, x0, hS, hT, hH, hTx, x5, hok, h13, hst⟩ := id hX
  obtain ⟨ol, ff, hol, hj0, -⟩ := id hH
  obtain ⟨fsn, hsn0⟩ := hS.obj
  have hi := hok.1
  obtain ⟨⟨v0, v1, v2, v9, v10, v11, v12, v13, v21, v52, v61, v62, v63, v64, v65, v66⟩, hwi, hde⟩ := id hi
  obtain ⟨f1, f2, f3, w1, w2, w3, w4, w5, d1, d2, se, ⟨g0, g1, g2, g3, g4, g5, g6, g7, g8, g9, g10, g11, g12, g13, g14⟩, hsr⟩ := id hS
  obtain ⟨r1, r2, r3, r4⟩ := id hsr
  have rw3 := r1 ww (by omega) (by omega)
  refine k_iload_n C dX7_weight_0 rfl ?_
  refine k_callS C (n := 1) (as := [_]) (ct_X7_requireWeight l D tc base _ _ ⟨by omega, by omega⟩) ml_X7_37 sm_X7_requireWeight ini_X7 co_X7_requireWeight ⟨by decide, by decide, by decide +kernel⟩ rfl ⟨by decide, by decide⟩ rfl (Nat.le_of_ble_eq_true rfl) ⟨Nat.zero_le _, Nat.zero_le _⟩ dX7_weight_1 ?_
  rintro _ _ ⟨rfl, rfl⟩
  refine k_iload_n C dX7_weight_4 rfl ?_
  refine k_tsw (dt := 71) C [32, 45, 58] dX7_weight_5 ⟨by omega, by omega⟩ (by decide) (by decide) (by decide) (And.intro (fun c5 => ?_) (And.intro (fun c5 => ?_) (And.intro (fun c5 => ?_) trivial))) (fun c5 => ?_)
  · try (exfalso; omega)
    all_goals (
      refine k_aload_n C dX7_weight_32 rfl ?_
      refine k_get C (k := 0) inX7 (ci := 7) rfl (by decide) fl_X7_10 dX7_weight_33 (by repeat (first | exact hs_eq _ _ _ | refine hs_ne (by omega) ?_ | assumption)) rfl ?_
      refine k_get C (k := 0) inX3 (ci := 3) rfl (by decide) fl_X7_49 dX7_weight_36 (by repeat (first | exact hs_eq _ _ _ | refine hs_ne (by omega) ?_ | assumption)) rfl ?_
      refine k_get C (k := 0) inX5 (ci := 5) rfl (by decide) fl_X7_175 dX7_weight_39 (by repeat (first | exact hs_eq _ _ _ | refine hs_ne (by omega) ?_ | assumption)) rfl ?_
      refine k_iload_n C dX7_weight_42 rfl ?_
      refine k_iaload C dX7_weight_43 (by repeat (first | exact hs_eq _ _ _ | refine hs_ne (by omega) ?_ | assumption)) (by omega) (by omega) (by omega) ?_
      refine k_iret C hr dX7_weight_44 ?_
      refine ⟨congrArg (fun xx => some (aI xx)) ?_, rfl⟩
      first
        | (rw [rw3.1, show (3 : Int) * qq + ww = ww by omega])
        | (rw [rw3.2.1, show (3 : Int) * qq + ww = 3 + ww by omega])
        | (rw [rw3.2.2, show (3 : Int) * qq + ww = 6 + ww by omega]))
  · try (exfalso; omega)
    all_goals (
      refine k_aload_n C dX7_weight_45 rfl ?_
      refine k_get C (k := 0) inX7 (ci := 7) rfl (by decide) fl_X7_10 dX7_weight_46 (by repeat (first | exact hs_eq _ _ _ | refine hs_ne (by omega) ?_ | assumption)) rfl ?_
      refine k_get C (k := 0) inX3 (ci := 3) rfl (by decide) fl_X7_49 dX7_weight_49 (by repeat (first | exact hs_eq _ _ _ | refine hs_ne (by omega) ?_ | assumption)) rfl ?_
      refine k_get C (k := 1) inX5 (ci := 5) rfl (by decide) fl_X7_178 dX7_weight_52 (by repeat (first | exact hs_eq _ _ _ | refine hs_ne (by omega) ?_ | assumption)) rfl ?_
      refine k_iload_n C dX7_weight_55 rfl ?_
      refine k_iaload C dX7_weight_56 (by repeat (first | exact hs_eq _ _ _ | refine hs_ne (by omega) ?_ | assumption)) (by omega) (by omega) (by omega) ?_
      refine k_iret C hr dX7_weight_57 ?_
      refine ⟨congrArg (fun xx => some (aI xx)) ?_, rfl⟩
      first
        | (rw [rw3.1, show (3 : Int) * qq + ww = ww by omega])
        | (rw [rw3.2.1, show (3 : Int) * qq + ww = 3 + ww by omega])
        | (rw [rw3.2.2, show (3 : Int) * qq + ww = 6 + ww by omega]))
  · try (exfalso; omega)
    all_goals (
      refine k_aload_n C dX7_weight_58 rfl ?_
      refine k_get C (k := 0) inX7 (ci := 7) rfl (by decide) fl_X7_10 dX7_weight_59 (by repeat (first | exact hs_eq _ _ _ | refine hs_ne (by omega) ?_ | assumption)) rfl ?_
      refine k_get C (k := 0) inX3 (ci := 3) rfl (by decide) fl_X7_49 dX7_weight_62 (by repeat (first | exact hs_eq _ _ _ | refine hs_ne (by omega) ?_ | assumption)) rfl ?_
      refine k_get C (k := 2) inX5 (ci := 5) rfl (by decide) fl_X7_181 dX7_weight_65 (by repeat (first | exact hs_eq _ _ _ | refine hs_ne (by omega) ?_ | assumption)) rfl ?_
      refine k_iload_n C dX7_weight_68 rfl ?_
      refine k_iaload C dX7_weight_69 (by repeat (first | exact hs_eq _ _ _ | refine hs_ne (by omega) ?_ | assumption)) (by omega) (by omega) (by omega) ?_
      refine k_iret C hr dX7_weight_70 ?_
      refine ⟨congrArg (fun xx => some (aI xx)) ?_, rfl⟩
      first
        | (rw [rw3.1, show (3 : Int) * qq + ww = ww by omega])
        | (rw [rw3.2.1, show (3 : Int) * qq + ww = 3 + ww by omega])
        | (rw [rw3.2.2, show (3 : Int) * qq + ww = 6 + ww by omega]))
  · try (exfalso; omega)
    all_goals (
      exfalso
      omega)

set_option maxRecDepth 20000 in
set_option maxHeartbeats 1000000 in
theorem ct_X7_winder (l : Launch) (D : va_G) (tc : Nat → ClassId) (base : Nat) (rc : Nat) (zrr hhi htx : Int → Int) (st ln : Int) (hpp : AH) (hX : XA hpp rc zrr hhi htx st ln) (ww qq : Int) (hw : 0 ≤ ww ∧ ww < zrr 21) (hq : 0 ≤ qq ∧ qq ≤ 5) : CT l D tc base yX7_winder cX7_winder 4 (some .int) 2 [aR rc, aI ww, aI qq] hpp (fun r h' => r = some (aI (zWin zrr ww qq)) ∧ hpp = h') := by
  refine CT.of [some (aR rc), some (aI ww), some (aI qq), none] (by decide +kernel) rfl (Nat.le_of_ble_eq_true rfl) ?_
  intro p e s m args below meth c C hr hnm
  obtain ⟨zth, gr, x0, hS, hT, hH, hTx, x5, hok, h13, hst⟩ := id hX
  obtain ⟨ol, ff, hol, hj0, -⟩ := id hH
  obtain ⟨fsn, hsn0⟩ := hS.obj
  have hi := hok.1
  obtain ⟨⟨v0, v1, v2, v9, v10, v11, v12, v13, v21, v52, v61, v62, v63, v64, v65, v66⟩, hwi, hde⟩ := id hi
  obtain ⟨f1, f2, f3, w1, w2, w3, w4, w5, d1, d2, se, ⟨g0, g1, g2, g3, g4, g5, g6, g7, g8, g9, g10, g11, g12, g13, g14⟩, hsr⟩ := id hS
  obtain ⟨r1, r2, r3, r4⟩ := id hsr
  have rw5 := r2 ww (by omega) (by omega)
  have hww := hwi ww (by omega) (by omega)
  refine k_aload_n C dX7_winder_0 rfl ?_
  refine k_iload_n C dX7_winder_1 rfl ?_
  refine k_callV C (n := 1) (as := [_]) (ct_X7_requireWinder l D tc base rc zrr hhi htx st ln _ hX _ hw) ml_X7_126 im_X7_requireWinder se_X7_requireWinder ini_X7 co_X7_requireWinder ⟨rfl, by decide, by decide, by decide +kernel⟩ rfl (ci := 7) rfl (by repeat (first | exact hs_eq _ _ _ | refine hs_ne (by omega) ?_ | assumption)) ⟨by decide, by decide⟩ rfl (Nat.le_of_ble_eq_true rfl) ⟨Nat.zero_le _, Nat.zero_le _⟩ dX7_winder_2 ?_
  rintro _ _ ⟨rfl, rfl⟩
  refine k_aload_n C dX7_winder_5 rfl ?_
  refine k_get C (k := 0) inX7 (ci := 7) rfl (by decide) fl_X7_10 dX7_winder_6 (by repeat (first | exact hs_eq _ _ _ | refine hs_ne (by omega) ?_ | assumption)) rfl ?_
  refine k_get C (k := 1) inX3 (ci := 3) rfl (by decide) fl_X7_105 dX7_winder_9 (by repeat (first | exact hs_eq _ _ _ | refine hs_ne (by omega) ?_ | assumption)) rfl ?_
  refine k_astore_n C dX7_winder_12 (by decide) rfl ?_
  refine k_iload_n C dX7_winder_13 rfl ?_
  refine k_tsw (dt := 116) C [52, 59, 66, 73, 92, 99] dX7_winder_14 ⟨by omega, by omega⟩ (by decide) (by decide) (by decide) (And.intro (fun c14 => ?_) (And.intro (fun c14 => ?_) (And.intro (fun c14 => ?_) (And.intro (fun c14 => ?_) (And.intro (fun c14 => ?_) (And.intro (fun c14 => ?_) trivial)))))) (fun c14 => ?_)
  · try (exfalso; omega)
    all_goals (
      refine k_aload_n C dX7_winder_52 rfl ?_
      refine k_get C (k := 1) inX6 (ci := 6) rfl (by decide) fl_X7_186 dX7_winder_53 (by repeat (first | exact hs_eq _ _ _ | refine hs_ne (by omega) ?_ | assumption)) rfl ?_
      refine k_iload_n C dX7_winder_56 rfl ?_
      refine k_iaload C dX7_winder_57 (by repeat (first | exact hs_eq _ _ _ | refine hs_ne (by omega) ?_ | assumption)) (by omega) (by omega) (by omega) ?_
      refine k_iret C hr dX7_winder_58 ?_
      refine ⟨congrArg (fun xx => some (aI xx)) ?_, rfl⟩
      unfold zWin
      first
        | (rw [if_neg (by omega), if_neg (by omega), if_neg (by omega), show (22 : Int) + 5 * ww + qq = 22 + 5 * ww by omega]; exact rw5.1)
        | (rw [if_neg (by omega), if_neg (by omega), if_neg (by omega), show (22 : Int) + 5 * ww + qq = 22 + 5 * ww + 1 by omega]; exact rw5.2.1)
        | (rw [if_neg (by omega), if_neg (by omega), if_neg (by omega), show (22 : Int) + 5 * ww + qq = 22 + 5 * ww + 2 by omega]; exact rw5.2.2.1)
        | (obtain rfl : qq = 3 := by omega
           show _ = (if zDue zrr ww then (0 : Int) else zrr (22 + 5 * ww + 3) - zrr 13)
           rw [rw5.2.2.2.1]
           by_cases hdx : zDue zrr ww
           · rw [if_pos hdx]
             split <;> omega
           · rw [if_neg hdx]
             split <;> omega)
        | (rw [if_neg (by omega), if_pos (by omega)]; exact rw5.2.2.2.2)
        | (rw [if_neg (by omega), if_neg (by omega), if_pos (by omega), if_pos hdk])
        | (rw [if_neg (by omega), if_neg (by omega), if_pos (by omega), if_neg hdk]))
  · try (exfalso; omega)
    all_goals (
      refine k_aload_n C dX7_winder_59 rfl ?_
      refine k_get C (k := 2) inX6 (ci := 6) rfl (by decide) fl_X7_189 dX7_winder_60 (by repeat (first | exact hs_eq _ _ _ | refine hs_ne (by omega) ?_ | assumption)) rfl ?_
      refine k_iload_n C dX7_winder_63 rfl ?_
      refine k_iaload C dX7_winder_64 (by repeat (first | exact hs_eq _ _ _ | refine hs_ne (by omega) ?_ | assumption)) (by omega) (by omega) (by omega) ?_
      refine k_iret C hr dX7_winder_65 ?_
      refine ⟨congrArg (fun xx => some (aI xx)) ?_, rfl⟩
      unfold zWin
      first
        | (rw [if_neg (by omega), if_neg (by omega), if_neg (by omega), show (22 : Int) + 5 * ww + qq = 22 + 5 * ww by omega]; exact rw5.1)
        | (rw [if_neg (by omega), if_neg (by omega), if_neg (by omega), show (22 : Int) + 5 * ww + qq = 22 + 5 * ww + 1 by omega]; exact rw5.2.1)
        | (rw [if_neg (by omega), if_neg (by omega), if_neg (by omega), show (22 : Int) + 5 * ww + qq = 22 + 5 * ww + 2 by omega]; exact rw5.2.2.1)
        | (obtain rfl : qq = 3 := by omega
           show _ = (if zDue zrr ww then (0 : Int) else zrr (22 + 5 * ww + 3) - zrr 13)
           rw [rw5.2.2.2.1]
           by_cases hdx : zDue zrr ww
           · rw [if_pos hdx]
             split <;> omega
           · rw [if_neg hdx]
             split <;> omega)
        | (rw [if_neg (by omega), if_pos (by omega)]; exact rw5.2.2.2.2)
        | (rw [if_neg (by omega), if_neg (by omega), if_pos (by omega), if_pos hdk])
        | (rw [if_neg (by omega), if_neg (by omega), if_pos (by omega), if_neg hdk]))
  · try (exfalso; omega)
    all_goals (
      refine k_aload_n C dX7_winder_66 rfl ?_
      refine k_get C (k := 3) inX6 (ci := 6) rfl (by decide) fl_X7_192 dX7_winder_67 (by repeat (first | exact hs_eq _ _ _ | refine hs_ne (by omega) ?_ | assumption)) rfl ?_
      refine k_iload_n C dX7_winder_70 rfl ?_
      refine k_iaload C dX7_winder_71 (by repeat (first | exact hs_eq _ _ _ | refine hs_ne (by omega) ?_ | assumption)) (by omega) (by omega) (by omega) ?_
      refine k_iret C hr dX7_winder_72 ?_
      refine ⟨congrArg (fun xx => some (aI xx)) ?_, rfl⟩
      unfold zWin
      first
        | (rw [if_neg (by omega), if_neg (by omega), if_neg (by omega), show (22 : Int) + 5 * ww + qq = 22 + 5 * ww by omega]; exact rw5.1)
        | (rw [if_neg (by omega), if_neg (by omega), if_neg (by omega), show (22 : Int) + 5 * ww + qq = 22 + 5 * ww + 1 by omega]; exact rw5.2.1)
        | (rw [if_neg (by omega), if_neg (by omega), if_neg (by omega), show (22 : Int) + 5 * ww + qq = 22 + 5 * ww + 2 by omega]; exact rw5.2.2.1)
        | (obtain rfl : qq = 3 := by omega
           show _ = (if zDue zrr ww then (0 : Int) else zrr (22 + 5 * ww + 3) - zrr 13)
           rw [rw5.2.2.2.1]
           by_cases hdx : zDue zrr ww
           · rw [if_pos hdx]
             split <;> omega
           · rw [if_neg hdx]
             split <;> omega)
        | (rw [if_neg (by omega), if_pos (by omega)]; exact rw5.2.2.2.2)
        | (rw [if_neg (by omega), if_neg (by omega), if_pos (by omega), if_pos hdk])
        | (rw [if_neg (by omega), if_neg (by omega), if_pos (by omega), if_neg hdk]))
  · try (exfalso; omega)
    all_goals (
      refine k_iconst C dX7_winder_73 ?_
      refine k_aload_n C dX7_winder_74 rfl ?_
      refine k_get C (k := 4) inX6 (ci := 6) rfl (by decide) fl_X7_195 dX7_winder_75 (by repeat (first | exact hs_eq _ _ _ | refine hs_ne (by omega) ?_ | assumption)) rfl ?_
      refine k_iload_n C dX7_winder_78 rfl ?_
      refine k_iaload C dX7_winder_79 (by repeat (first | exact hs_eq _ _ _ | refine hs_ne (by omega) ?_ | assumption)) (by omega) (by omega) (by omega) ?_
      refine k_aload_n C dX7_winder_80 rfl ?_
      refine k_get C (k := 0) inX7 (ci := 7) rfl (by decide) fl_X7_10 dX7_winder_81 (by repeat (first | exact hs_eq _ _ _ | refine hs_ne (by omega) ?_ | assumption)) rfl ?_
      refine k_get C (k := 4) inX3 (ci := 3) rfl (by decide) fl_X7_119 dX7_winder_84 (by repeat (first | exact hs_eq _ _ _ | refine hs_ne (by omega) ?_ | assumption)) rfl ?_
      refine k_isub C dX7_winder_87 ?_
      refine k_callS C (n := 2) (as := [_, _]) (ct_J9_max_7cf53 l D tc base _ _ _ ⟨by omega, by omega⟩ ⟨by omega, by omega⟩) ml_X7_198 sm_J9_max_7cf53 ini_J9 co_J9_max_7cf53 ⟨by decide, by decide, by decide +kernel⟩ rfl ⟨by decide, by decide⟩ rfl (Nat.le_of_ble_eq_true rfl) ⟨Nat.zero_le _, Nat.zero_le _⟩ dX7_winder_88 ?_
      rintro _ _ ⟨rfl, rfl⟩
      refine k_iret C hr dX7_winder_91 ?_
      refine ⟨congrArg (fun xx => some (aI xx)) ?_, rfl⟩
      unfold zWin
      first
        | (rw [if_neg (by omega), if_neg (by omega), if_neg (by omega), show (22 : Int) + 5 * ww + qq = 22 + 5 * ww by omega]; exact rw5.1)
        | (rw [if_neg (by omega), if_neg (by omega), if_neg (by omega), show (22 : Int) + 5 * ww + qq = 22 + 5 * ww + 1 by omega]; exact rw5.2.1)
        | (rw [if_neg (by omega), if_neg (by omega), if_neg (by omega), show (22 : Int) + 5 * ww + qq = 22 + 5 * ww + 2 by omega]; exact rw5.2.2.1)
        | (obtain rfl : qq = 3 := by omega
           show _ = (if zDue zrr ww then (0 : Int) else zrr (22 + 5 * ww + 3) - zrr 13)
           rw [rw5.2.2.2.1]
           by_cases hdx : zDue zrr ww
           · rw [if_pos hdx]
             split <;> omega
           · rw [if_neg hdx]
             split <;> omega)
        | (rw [if_neg (by omega), if_pos (by omega)]; exact rw5.2.2.2.2)
        | (rw [if_neg (by omega), if_neg (by omega), if_pos (by omega), if_pos hdk])
        | (rw [if_neg (by omega), if_neg (by omega), if_pos (by omega), if_neg hdk]))
  · try (exfalso; omega)
    all_goals (
      refine k_aload_n C dX7_winder_92 rfl ?_
      refine k_get C (k := 5) inX6 (ci := 6) rfl (by decide) fl_X7_201 dX7_winder_93 (by repeat (first | exact hs_eq _ _ _ | refine hs_ne (by omega) ?_ | assumption)) rfl ?_
      refine k_iload_n C dX7_winder_96 rfl ?_
      refine k_iaload C dX7_winder_97 (by repeat (first | exact hs_eq _ _ _ | refine hs_ne (by omega) ?_ | assumption)) (by omega) (by omega) (by omega) ?_
      refine k_iret C hr dX7_winder_98 ?_
      refine ⟨congrArg (fun xx => some (aI xx)) ?_, rfl⟩
      unfold zWin
      first
        | (rw [if_neg (by omega), if_neg (by omega), if_neg (by omega), show (22 : Int) + 5 * ww + qq = 22 + 5 * ww by omega]; exact rw5.1)
        | (rw [if_neg (by omega), if_neg (by omega), if_neg (by omega), show (22 : Int) + 5 * ww + qq = 22 + 5 * ww + 1 by omega]; exact rw5.2.1)
        | (rw [if_neg (by omega), if_neg (by omega), if_neg (by omega), show (22 : Int) + 5 * ww + qq = 22 + 5 * ww + 2 by omega]; exact rw5.2.2.1)
        | (obtain rfl : qq = 3 := by omega
           show _ = (if zDue zrr ww then (0 : Int) else zrr (22 + 5 * ww + 3) - zrr 13)
           rw [rw5.2.2.2.1]
           by_cases hdx : zDue zrr ww
           · rw [if_pos hdx]
             split <;> omega
           · rw [if_neg hdx]
             split <;> omega)
        | (rw [if_neg (by omega), if_pos (by omega)]; exact rw5.2.2.2.2)
        | (rw [if_neg (by omega), if_neg (by omega), if_pos (by omega), if_pos hdk])
        | (rw [if_neg (by omega), if_neg (by omega), if_pos (by omega), if_neg hdk]))
  · try (exfalso; omega)
    all_goals (
      refine k_aload_n C dX7_winder_99 rfl ?_
      refine k_get C (k := 0) inX7 (ci := 7) rfl (by decide) fl_X7_10 dX7_winder_100 (by repeat (first | exact hs_eq _ _ _ | refine hs_ne (by omega) ?_ | assumption)) rfl ?_
      refine k_iload_n C dX7_winder_103 rfl ?_
      refine k_callV C (n := 1) (as := [_]) (ct_X3_isDueAndKeptOut l D tc base (rc + 1) zrr _ hS hi (by omega) ww (by omega) (by omega)) ml_X7_204 im_X3_isDueAndKeptOut se_X3_isDueAndKeptOut ini_X3 co_X3_isDueAndKeptOut ⟨rfl, by decide, by decide, by decide +kernel⟩ rfl (ci := 3) rfl (by repeat (first | exact hs_eq _ _ _ | refine hs_ne (by omega) ?_ | assumption)) ⟨by decide, by decide⟩ rfl (Nat.le_of_ble_eq_true rfl) ⟨Nat.zero_le _, Nat.zero_le _⟩ dX7_winder_104 ?_
      rintro _ _ (⟨rfl, rfl, hdk⟩ | ⟨rfl, rfl, hdk⟩)
      · skip
        refine k_if_eq (tgt := 114) C dX7_winder_107 (by decide) ⟨by omega, by omega⟩ (fun c107 => ?_) (fun c107 => ?_)
        · try (exfalso; omega)
          all_goals (
            refine k_iconst C dX7_winder_114 ?_
            refine k_iret C hr dX7_winder_115 ?_
            refine ⟨congrArg (fun xx => some (aI xx)) ?_, rfl⟩
            unfold zWin
            first
              | (rw [if_neg (by omega), if_neg (by omega), if_neg (by omega), show (22 : Int) + 5 * ww + qq = 22 + 5 * ww by omega]; exact rw5.1)
              | (rw [if_neg (by omega), if_neg (by omega), if_neg (by omega), show (22 : Int) + 5 * ww + qq = 22 + 5 * ww + 1 by omega]; exact rw5.2.1)
              | (rw [if_neg (by omega), if_neg (by omega), if_neg (by omega), show (22 : Int) + 5 * ww + qq = 22 + 5 * ww + 2 by omega]; exact rw5.2.2.1)
              | (obtain rfl : qq = 3 := by omega
                 show _ = (if zDue zrr ww then (0 : Int) else zrr (22 + 5 * ww + 3) - zrr 13)
                 rw [rw5.2.2.2.1]
                 by_cases hdx : zDue zrr ww
                 · rw [if_pos hdx]
                   split <;> omega
                 · rw [if_neg hdx]
                   split <;> omega)
              | (rw [if_neg (by omega), if_pos (by omega)]; exact rw5.2.2.2.2)
              | (rw [if_neg (by omega), if_neg (by omega), if_pos (by omega), if_pos hdk])
              | (rw [if_neg (by omega), if_neg (by omega), if_pos (by omega), if_neg hdk]))
        · try (exfalso; omega)
          all_goals (
            refine k_iconst C dX7_winder_110 ?_
            refine k_goto (tgt := 115) C dX7_winder_111 (by decide) ?_
            refine k_iret C hr dX7_winder_115 ?_
            refine ⟨congrArg (fun xx => some (aI xx)) ?_, rfl⟩
            unfold zWin
            first
              | (rw [if_neg (by omega), if_neg (by omega), if_neg (by omega), show (22 : Int) + 5 * ww + qq = 22 + 5 * ww by omega]; exact rw5.1)
              | (rw [if_neg (by omega), if_neg (by omega), if_neg (by omega), show (22 : Int) + 5 * ww + qq = 22 + 5 * ww + 1 by omega]; exact rw5.2.1)
              | (rw [if_neg (by omega), if_neg (by omega), if_neg (by omega), show (22 : Int) + 5 * ww + qq = 22 + 5 * ww + 2 by omega]; exact rw5.2.2.1)
              | (obtain rfl : qq = 3 := by omega
                 show _ = (if zDue zrr ww then (0 : Int) else zrr (22 + 5 * ww + 3) - zrr 13)
                 rw [rw5.2.2.2.1]
                 by_cases hdx : zDue zrr ww
                 · rw [if_pos hdx]
                   split <;> omega
                 · rw [if_neg hdx]
                   split <;> omega)
              | (rw [if_neg (by omega), if_pos (by omega)]; exact rw5.2.2.2.2)
              | (rw [if_neg (by omega), if_neg (by omega), if_pos (by omega), if_pos hdk])
              | (rw [if_neg (by omega), if_neg (by omega), if_pos (by omega), if_neg hdk]))
      · skip
        refine k_if_eq (tgt := 114) C dX7_winder_107 (by decide) ⟨by omega, by omega⟩ (fun c107 => ?_) (fun c107 => ?_)
        · try (exfalso; omega)
          all_goals (
            refine k_iconst C dX7_winder_114 ?_
            refine k_iret C hr dX7_winder_115 ?_
            refine ⟨congrArg (fun xx => some (aI xx)) ?_, rfl⟩
            unfold zWin
            first
              | (rw [if_neg (by omega), if_neg (by omega), if_neg (by omega), show (22 : Int) + 5 * ww + qq = 22 + 5 * ww by omega]; exact rw5.1)
              | (rw [if_neg (by omega), if_neg (by omega), if_neg (by omega), show (22 : Int) + 5 * ww + qq = 22 + 5 * ww + 1 by omega]; exact rw5.2.1)
              | (rw [if_neg (by omega), if_neg (by omega), if_neg (by omega), show (22 : Int) + 5 * ww + qq = 22 + 5 * ww + 2 by omega]; exact rw5.2.2.1)
              | (obtain rfl : qq = 3 := by omega
                 show _ = (if zDue zrr ww then (0 : Int) else zrr (22 + 5 * ww + 3) - zrr 13)
                 rw [rw5.2.2.2.1]
                 by_cases hdx : zDue zrr ww
                 · rw [if_pos hdx]
                   split <;> omega
                 · rw [if_neg hdx]
                   split <;> omega)
              | (rw [if_neg (by omega), if_pos (by omega)]; exact rw5.2.2.2.2)
              | (rw [if_neg (by omega), if_neg (by omega), if_pos (by omega), if_pos hdk])
              | (rw [if_neg (by omega), if_neg (by omega), if_pos (by omega), if_neg hdk]))
        · try (exfalso; omega)
          all_goals (
            refine k_iconst C dX7_winder_110 ?_
            refine k_goto (tgt := 115) C dX7_winder_111 (by decide) ?_
            refine k_iret C hr dX7_winder_115 ?_
            refine ⟨congrArg (fun xx => some (aI xx)) ?_, rfl⟩
            unfold zWin
            first
              | (rw [if_neg (by omega), if_neg (by omega), if_neg (by omega), show (22 : Int) + 5 * ww + qq = 22 + 5 * ww by omega]; exact rw5.1)
              | (rw [if_neg (by omega), if_neg (by omega), if_neg (by omega), show (22 : Int) + 5 * ww + qq = 22 + 5 * ww + 1 by omega]; exact rw5.2.1)
              | (rw [if_neg (by omega), if_neg (by omega), if_neg (by omega), show (22 : Int) + 5 * ww + qq = 22 + 5 * ww + 2 by omega]; exact rw5.2.2.1)
              | (obtain rfl : qq = 3 := by omega
                 show _ = (if zDue zrr ww then (0 : Int) else zrr (22 + 5 * ww + 3) - zrr 13)
                 rw [rw5.2.2.2.1]
                 by_cases hdx : zDue zrr ww
                 · rw [if_pos hdx]
                   split <;> omega
                 · rw [if_neg hdx]
                   split <;> omega)
              | (rw [if_neg (by omega), if_pos (by omega)]; exact rw5.2.2.2.2)
              | (rw [if_neg (by omega), if_neg (by omega), if_pos (by omega), if_pos hdk])
              | (rw [if_neg (by omega), if_neg (by omega), if_pos (by omega), if_neg hdk])))
  · try (exfalso; omega)
    all_goals (
      exfalso
      omega)

set_option maxRecDepth 20000 in
set_option maxHeartbeats 1000000 in
theorem ct_X7_debt (l : Launch) (D : va_G) (tc : Nat → ClassId) (base : Nat) (rc : Nat) (zrr hhi htx : Int → Int) (st ln : Int) (hpp : AH) (hX : XA hpp rc zrr hhi htx st ln) (ww qq : Int) (hw : 0 ≤ ww ∧ ww < zrr 52) (hq : 0 ≤ qq ∧ qq ≤ 1) : CT l D tc base yX7_debt cX7_debt 3 (some .int) 0 [aR rc, aI ww, aI qq] hpp (fun r h' => r = some (aI (zrr (53 + 2 * ww + qq))) ∧ hpp = h') := by
  refine CT.of [some (aR rc), some (aI ww), some (aI qq)] (by decide +kernel) rfl (Nat.le_of_ble_eq_true rfl) ?_
  intro p e s m args below meth c C hr hnm
  obtain ⟨zth, gr, x0, hS, hT, hH, hTx, x5, hok, h13, hst⟩ := id hX
  obtain ⟨ol, ff, hol, hj0, -⟩ := id hH
  obtain ⟨fsn, hsn0⟩ := hS.obj
  have hi := hok.1
  obtain ⟨⟨v0, v1, v2, v9, v10, v11, v12, v13, v21, v52, v61, v62, v63, v64, v65, v66⟩, hwi, hde⟩ := id hi
  obtain ⟨f1, f2, f3, w1, w2, w3, w4, w5, d1, d2, se, ⟨g0, g1, g2, g3, g4, g5, g6, g7, g8, g9, g10, g11, g12, g13, g14⟩, hsr⟩ := id hS
  obtain ⟨r1, r2, r3, r4⟩ := id hsr
  have rw2 := r3 ww (by omega) (by omega)
  refine k_iload_n C dX7_debt_0 rfl ?_
  refine k_if_lt (tgt := 18) C dX7_debt_1 (by decide) ⟨by omega, by omega⟩ (fun c1 => ?_) (fun c1 => ?_)
  · try (exfalso; omega)
    all_goals (
      exfalso
      omega)
  · try (exfalso; omega)
    all_goals (
      refine k_iload_n C dX7_debt_4 rfl ?_
      refine k_aload_n C dX7_debt_5 rfl ?_
      refine k_get C (k := 0) inX7 (ci := 7) rfl (by decide) fl_X7_10 dX7_debt_6 (by repeat (first | exact hs_eq _ _ _ | refine hs_ne (by omega) ?_ | assumption)) rfl ?_
      refine k_get C (k := 2) inX3 (ci := 3) rfl (by decide) fl_X7_89 dX7_debt_9 (by repeat (first | exact hs_eq _ _ _ | refine hs_ne (by omega) ?_ | assumption)) rfl ?_
      refine k_get C (k := 0) inX0 (ci := 0) rfl (by decide) fl_X7_99 dX7_debt_12 (by repeat (first | exact hs_eq _ _ _ | refine hs_ne (by omega) ?_ | assumption)) rfl ?_
      refine k_icmp_lt (tgt := 28) C dX7_debt_15 (by decide) ⟨by omega, by omega⟩ ⟨by omega, by omega⟩ (fun c15 => ?_) (fun c15 => ?_)
      · try (exfalso; omega)
        all_goals (
          refine k_iload_n C dX7_debt_28 rfl ?_
          refine k_lsw (t0 := 56) (t1 := 69) (dt := 82) C dX7_debt_29 ⟨by omega, by omega⟩ (by decide) (by decide) (by decide) (fun c29 => ?_) (fun c29 => ?_) (fun c29 => ?_)
          · try (exfalso; omega)
            all_goals (
              refine k_aload_n C dX7_debt_56 rfl ?_
              refine k_get C (k := 0) inX7 (ci := 7) rfl (by decide) fl_X7_10 dX7_debt_57 (by repeat (first | exact hs_eq _ _ _ | refine hs_ne (by omega) ?_ | assumption)) rfl ?_
              refine k_get C (k := 2) inX3 (ci := 3) rfl (by decide) fl_X7_89 dX7_debt_60 (by repeat (first | exact hs_eq _ _ _ | refine hs_ne (by omega) ?_ | assumption)) rfl ?_
              refine k_get C (k := 1) inX0 (ci := 0) rfl (by decide) fl_X7_213 dX7_debt_63 (by repeat (first | exact hs_eq _ _ _ | refine hs_ne (by omega) ?_ | assumption)) rfl ?_
              refine k_iload_n C dX7_debt_66 rfl ?_
              refine k_iaload C dX7_debt_67 (by repeat (first | exact hs_eq _ _ _ | refine hs_ne (by omega) ?_ | assumption)) (by omega) (by omega) (by omega) ?_
              refine k_iret C hr dX7_debt_68 ?_
              first
                | (exfalso; omega)
                | (refine ⟨congrArg (fun xx => some (aI xx)) ?_, rfl⟩
                   subst qq
                   first
                     | (rw [rw2.1, show (53 : Int) + 2 * ww + 0 = 53 + 2 * ww by omega])
                     | (rw [rw2.2])))
          · try (exfalso; omega)
            all_goals (
              refine k_aload_n C dX7_debt_69 rfl ?_
              refine k_get C (k := 0) inX7 (ci := 7) rfl (by decide) fl_X7_10 dX7_debt_70 (by repeat (first | exact hs_eq _ _ _ | refine hs_ne (by omega) ?_ | assumption)) rfl ?_
              refine k_get C (k := 2) inX3 (ci := 3) rfl (by decide) fl_X7_89 dX7_debt_73 (by repeat (first | exact hs_eq _ _ _ | refine hs_ne (by omega) ?_ | assumption)) rfl ?_
              refine k_get C (k := 2) inX0 (ci := 0) rfl (by decide) fl_X7_216 dX7_debt_76 (by repeat (first | exact hs_eq _ _ _ | refine hs_ne (by omega) ?_ | assumption)) rfl ?_
              refine k_iload_n C dX7_debt_79 rfl ?_
              refine k_iaload C dX7_debt_80 (by repeat (first | exact hs_eq _ _ _ | refine hs_ne (by omega) ?_ | assumption)) (by omega) (by omega) (by omega) ?_
              refine k_iret C hr dX7_debt_81 ?_
              first
                | (exfalso; omega)
                | (refine ⟨congrArg (fun xx => some (aI xx)) ?_, rfl⟩
                   subst qq
                   first
                     | (rw [rw2.1, show (53 : Int) + 2 * ww + 0 = 53 + 2 * ww by omega])
                     | (rw [rw2.2])))
          · try (exfalso; omega)
            all_goals (
              exfalso
              omega))
      · try (exfalso; omega)
        all_goals (
          exfalso
          omega))

set_option maxRecDepth 20000 in
set_option maxHeartbeats 1000000 in
theorem ct_X7_count (l : Launch) (D : va_G) (tc : Nat → ClassId) (base : Nat) (rc : Nat) (zrr hhi htx : Int → Int) (st ln : Int) (hpp : AH) (hX : XA hpp rc zrr hhi htx st ln) (qq : Int) (hq : 0 ≤ qq ∧ qq ≤ 17) : CT l D tc base yX7_count cX7_count 2 (some .int) 2 [aR rc, aI qq] hpp (fun r h' => r = some (aI (zCnt zrr st qq)) ∧ hpp = h') := by
  refine CT.of [some (aR rc), some (aI qq)] (by decide +kernel) rfl (Nat.le_of_ble_eq_true rfl) ?_
  intro p e s m args below meth c C hr hnm
  obtain ⟨zth, gr, x0, hS, hT, hH, hTx, x5, hok, h13, hst⟩ := id hX
  obtain ⟨ol, ff, hol, hj0, -⟩ := id hH
  obtain ⟨fsn, hsn0⟩ := hS.obj
  have hi := hok.1
  obtain ⟨⟨v0, v1, v2, v9, v10, v11, v12, v13, v21, v52, v61, v62, v63, v64, v65, v66⟩, hwi, hde⟩ := id hi
  obtain ⟨f1, f2, f3, w1, w2, w3, w4, w5, d1, d2, se, ⟨g0, g1, g2, g3, g4, g5, g6, g7, g8, g9, g10, g11, g12, g13, g14⟩, hsr⟩ := id hS
  obtain ⟨r1, r2, r3, r4⟩ := id hsr
  obtain ⟨ol, ff, hol, j0, -⟩ := id hH
  refine k_iload_n C dX7_count_0 rfl ?_
  refine k_tsw (dt := 263) C [88, 96, 104, 112, 120, 128, 139, 150, 158, 166, 174, 182, 190, 198, 206, 217, 239, 255] dX7_count_1 ⟨by omega, by omega⟩ (by decide) (by decide) (by decide) (And.intro (fun c1 => ?_) (And.intro (fun c1 => ?_) (And.intro (fun c1 => ?_) (And.intro (fun c1 => ?_) (And.intro (fun c1 => ?_) (And.intro (fun c1 => ?_) (And.intro (fun c1 => ?_) (And.intro (fun c1 => ?_) (And.intro (fun c1 => ?_) (And.intro (fun c1 => ?_) (And.intro (fun c1 => ?_) (And.intro (fun c1 => ?_) (And.intro (fun c1 => ?_) (And.intro (fun c1 => ?_) (And.intro (fun c1 => ?_) (And.intro (fun c1 => ?_) (And.intro (fun c1 => ?_) (And.intro (fun c1 => ?_) trivial)))))))))))))))))) (fun c1 => ?_)
  · try (exfalso; omega)
    all_goals (
      refine k_aload_n C dX7_count_88 rfl ?_
      refine k_get C (k := 0) inX7 (ci := 7) rfl (by decide) fl_X7_10 dX7_count_89 (by repeat (first | exact hs_eq _ _ _ | refine hs_ne (by omega) ?_ | assumption)) rfl ?_
      refine k_get C (k := 4) inX3 (ci := 3) rfl (by decide) fl_X7_119 dX7_count_92 (by repeat (first | exact hs_eq _ _ _ | refine hs_ne (by omega) ?_ | assumption)) rfl ?_
      refine k_iret C hr dX7_count_95 ?_
      refine ⟨congrArg (fun xx => some (aI xx)) ?_, rfl⟩
      subst qq
      first
        | rfl
        | (show _ = (zrr 13 + 720 - zrr 10) % 720; omega)
        | (show _ = (if zSil zrr then (1 : Int) else 0); rw [if_pos hsl])
        | (show _ = (if zSil zrr then (1 : Int) else 0); rw [if_neg hsl]))
  · try (exfalso; omega)
    all_goals (
      refine k_aload_n C dX7_count_96 rfl ?_
      refine k_get C (k := 0) inX7 (ci := 7) rfl (by decide) fl_X7_10 dX7_count_97 (by repeat (first | exact hs_eq _ _ _ | refine hs_ne (by omega) ?_ | assumption)) rfl ?_
      refine k_get C (k := 5) inX3 (ci := 3) rfl (by decide) fl_X7_83 dX7_count_100 (by repeat (first | exact hs_eq _ _ _ | refine hs_ne (by omega) ?_ | assumption)) rfl ?_
      refine k_iret C hr dX7_count_103 ?_
      refine ⟨congrArg (fun xx => some (aI xx)) ?_, rfl⟩
      subst qq
      first
        | rfl
        | (show _ = (zrr 13 + 720 - zrr 10) % 720; omega)
        | (show _ = (if zSil zrr then (1 : Int) else 0); rw [if_pos hsl])
        | (show _ = (if zSil zrr then (1 : Int) else 0); rw [if_neg hsl]))
  · try (exfalso; omega)
    all_goals (
      refine k_aload_n C dX7_count_104 rfl ?_
      refine k_get C (k := 0) inX7 (ci := 7) rfl (by decide) fl_X7_10 dX7_count_105 (by repeat (first | exact hs_eq _ _ _ | refine hs_ne (by omega) ?_ | assumption)) rfl ?_
      refine k_get C (k := 6) inX3 (ci := 3) rfl (by decide) fl_X7_71 dX7_count_108 (by repeat (first | exact hs_eq _ _ _ | refine hs_ne (by omega) ?_ | assumption)) rfl ?_
      refine k_iret C hr dX7_count_111 ?_
      refine ⟨congrArg (fun xx => some (aI xx)) ?_, rfl⟩
      subst qq
      first
        | rfl
        | (show _ = (zrr 13 + 720 - zrr 10) % 720; omega)
        | (show _ = (if zSil zrr then (1 : Int) else 0); rw [if_pos hsl])
        | (show _ = (if zSil zrr then (1 : Int) else 0); rw [if_neg hsl]))
  · try (exfalso; omega)
    all_goals (
      refine k_aload_n C dX7_count_112 rfl ?_
      refine k_get C (k := 0) inX7 (ci := 7) rfl (by decide) fl_X7_10 dX7_count_113 (by repeat (first | exact hs_eq _ _ _ | refine hs_ne (by omega) ?_ | assumption)) rfl ?_
      refine k_get C (k := 7) inX3 (ci := 3) rfl (by decide) fl_X7_80 dX7_count_116 (by repeat (first | exact hs_eq _ _ _ | refine hs_ne (by omega) ?_ | assumption)) rfl ?_
      refine k_iret C hr dX7_count_119 ?_
      refine ⟨congrArg (fun xx => some (aI xx)) ?_, rfl⟩
      subst qq
      first
        | rfl
        | (show _ = (zrr 13 + 720 - zrr 10) % 720; omega)
        | (show _ = (if zSil zrr then (1 : Int) else 0); rw [if_pos hsl])
        | (show _ = (if zSil zrr then (1 : Int) else 0); rw [if_neg hsl]))
  · try (exfalso; omega)
    all_goals (
      refine k_aload_n C dX7_count_120 rfl ?_
      refine k_get C (k := 0) inX7 (ci := 7) rfl (by decide) fl_X7_10 dX7_count_121 (by repeat (first | exact hs_eq _ _ _ | refine hs_ne (by omega) ?_ | assumption)) rfl ?_
      refine k_get C (k := 8) inX3 (ci := 3) rfl (by decide) fl_X7_86 dX7_count_124 (by repeat (first | exact hs_eq _ _ _ | refine hs_ne (by omega) ?_ | assumption)) rfl ?_
      refine k_iret C hr dX7_count_127 ?_
      refine ⟨congrArg (fun xx => some (aI xx)) ?_, rfl⟩
      subst qq
      first
        | rfl
        | (show _ = (zrr 13 + 720 - zrr 10) % 720; omega)
        | (show _ = (if zSil zrr then (1 : Int) else 0); rw [if_pos hsl])
        | (show _ = (if zSil zrr then (1 : Int) else 0); rw [if_neg hsl]))
  · try (exfalso; omega)
    all_goals (
      refine k_aload_n C dX7_count_128 rfl ?_
      refine k_get C (k := 0) inX7 (ci := 7) rfl (by decide) fl_X7_10 dX7_count_129 (by repeat (first | exact hs_eq _ _ _ | refine hs_ne (by omega) ?_ | assumption)) rfl ?_
      refine k_get C (k := 2) inX3 (ci := 3) rfl (by decide) fl_X7_89 dX7_count_132 (by repeat (first | exact hs_eq _ _ _ | refine hs_ne (by omega) ?_ | assumption)) rfl ?_
      refine k_get C (k := 0) inX0 (ci := 0) rfl (by decide) fl_X7_99 dX7_count_135 (by repeat (first | exact hs_eq _ _ _ | refine hs_ne (by omega) ?_ | assumption)) rfl ?_
      refine k_iret C hr dX7_count_138 ?_
      refine ⟨congrArg (fun xx => some (aI xx)) ?_, rfl⟩
      subst qq
      first
        | rfl
        | (show _ = (zrr 13 + 720 - zrr 10) % 720; omega)
        | (show _ = (if zSil zrr then (1 : Int) else 0); rw [if_pos hsl])
        | (show _ = (if zSil zrr then (1 : Int) else 0); rw [if_neg hsl]))
  · try (exfalso; omega)
    all_goals (
      refine k_aload_n C dX7_count_139 rfl ?_
      refine k_get C (k := 0) inX7 (ci := 7) rfl (by decide) fl_X7_10 dX7_count_140 (by repeat (first | exact hs_eq _ _ _ | refine hs_ne (by omega) ?_ | assumption)) rfl ?_
      refine k_get C (k := 2) inX3 (ci := 3) rfl (by decide) fl_X7_89 dX7_count_143 (by repeat (first | exact hs_eq _ _ _ | refine hs_ne (by omega) ?_ | assumption)) rfl ?_
      refine k_callV C (n := 0) (as := []) (ct_X0_owed l D tc base _ (rc + 1 + 11) d1 d2 (zrr 52) (by repeat (first | exact hs_eq _ _ _ | refine hs_ne (by omega) ?_ | assumption)) (by repeat (first | exact hs_eq _ _ _ | refine hs_ne (by omega) ?_ | assumption)) (by repeat (first | exact hs_eq _ _ _ | refine hs_ne (by omega) ?_ | assumption)) (zrr 52).toNat (by omega) (by omega)) ml_X7_93 im_X0_owed se_X0_owed ini_X0 co_X0_owed ⟨rfl, by decide, by decide, by decide +kernel⟩ rfl (ci := 0) rfl (by repeat (first | exact hs_eq _ _ _ | refine hs_ne (by omega) ?_ | assumption)) ⟨by decide, by decide⟩ rfl (Nat.le_of_ble_eq_true rfl) ⟨Nat.zero_le _, Nat.zero_le _⟩ dX7_count_146 ?_
      rintro _ _ ⟨rfl, rfl⟩
      have hsm : sN d2 (zrr 52).toNat = zOwed zrr := sN_owed (fun k h0 h1 => (r3 k h0 (by omega)).2)
      rw [hsm]
      refine k_iret C hr dX7_count_149 ?_
      refine ⟨congrArg (fun xx => some (aI xx)) ?_, rfl⟩
      subst qq
      first
        | rfl
        | (show _ = (zrr 13 + 720 - zrr 10) % 720; omega)
        | (show _ = (if zSil zrr then (1 : Int) else 0); rw [if_pos hsl])
        | (show _ = (if zSil zrr then (1 : Int) else 0); rw [if_neg hsl]))
  · try (exfalso; omega)
    all_goals (
      refine k_aload_n C dX7_count_150 rfl ?_
      refine k_get C (k := 0) inX7 (ci := 7) rfl (by decide) fl_X7_10 dX7_count_151 (by repeat (first | exact hs_eq _ _ _ | refine hs_ne (by omega) ?_ | assumption)) rfl ?_
      refine k_get C (k := 9) inX3 (ci := 3) rfl (by decide) fl_X7_134 dX7_count_154 (by repeat (first | exact hs_eq _ _ _ | refine hs_ne (by omega) ?_ | assumption)) rfl ?_
      refine k_iret C hr dX7_count_157 ?_
      refine ⟨congrArg (fun xx => some (aI xx)) ?_, rfl⟩
      subst qq
      first
        | rfl
        | (show _ = (zrr 13 + 720 - zrr 10) % 720; omega)
        | (show _ = (if zSil zrr then (1 : Int) else 0); rw [if_pos hsl])
        | (show _ = (if zSil zrr then (1 : Int) else 0); rw [if_neg hsl]))
  · try (exfalso; omega)
    all_goals (
      refine k_aload_n C dX7_count_158 rfl ?_
      refine k_get C (k := 0) inX7 (ci := 7) rfl (by decide) fl_X7_10 dX7_count_159 (by repeat (first | exact hs_eq _ _ _ | refine hs_ne (by omega) ?_ | assumption)) rfl ?_
      refine k_get C (k := 10) inX3 (ci := 3) rfl (by decide) fl_X7_102 dX7_count_162 (by repeat (first | exact hs_eq _ _ _ | refine hs_ne (by omega) ?_ | assumption)) rfl ?_
      refine k_iret C hr dX7_count_165 ?_
      refine ⟨congrArg (fun xx => some (aI xx)) ?_, rfl⟩
      subst qq
      first
        | rfl
        | (show _ = (zrr 13 + 720 - zrr 10) % 720; omega)
        | (show _ = (if zSil zrr then (1 : Int) else 0); rw [if_pos hsl])
        | (show _ = (if zSil zrr then (1 : Int) else 0); rw [if_neg hsl]))
  · try (exfalso; omega)
    all_goals (
      refine k_aload_n C dX7_count_166 rfl ?_
      refine k_get C (k := 0) inX7 (ci := 7) rfl (by decide) fl_X7_10 dX7_count_167 (by repeat (first | exact hs_eq _ _ _ | refine hs_ne (by omega) ?_ | assumption)) rfl ?_
      refine k_get C (k := 11) inX3 (ci := 3) rfl (by decide) fl_X7_219 dX7_count_170 (by repeat (first | exact hs_eq _ _ _ | refine hs_ne (by omega) ?_ | assumption)) rfl ?_
      refine k_iret C hr dX7_count_173 ?_
      refine ⟨congrArg (fun xx => some (aI xx)) ?_, rfl⟩
      subst qq
      first
        | rfl
        | (show _ = (zrr 13 + 720 - zrr 10) % 720; omega)
        | (show _ = (if zSil zrr then (1 : Int) else 0); rw [if_pos hsl])
        | (show _ = (if zSil zrr then (1 : Int) else 0); rw [if_neg hsl]))
  · try (exfalso; omega)
    all_goals (
      refine k_aload_n C dX7_count_174 rfl ?_
      refine k_get C (k := 0) inX7 (ci := 7) rfl (by decide) fl_X7_10 dX7_count_175 (by repeat (first | exact hs_eq _ _ _ | refine hs_ne (by omega) ?_ | assumption)) rfl ?_
      refine k_get C (k := 12) inX3 (ci := 3) rfl (by decide) fl_X7_222 dX7_count_178 (by repeat (first | exact hs_eq _ _ _ | refine hs_ne (by omega) ?_ | assumption)) rfl ?_
      refine k_iret C hr dX7_count_181 ?_
      refine ⟨congrArg (fun xx => some (aI xx)) ?_, rfl⟩
      subst qq
      first
        | rfl
        | (show _ = (zrr 13 + 720 - zrr 10) % 720; omega)
        | (show _ = (if zSil zrr then (1 : Int) else 0); rw [if_pos hsl])
        | (show _ = (if zSil zrr then (1 : Int) else 0); rw [if_neg hsl]))
  · try (exfalso; omega)
    all_goals (
      refine k_aload_n C dX7_count_182 rfl ?_
      refine k_get C (k := 0) inX7 (ci := 7) rfl (by decide) fl_X7_10 dX7_count_183 (by repeat (first | exact hs_eq _ _ _ | refine hs_ne (by omega) ?_ | assumption)) rfl ?_
      refine k_get C (k := 13) inX3 (ci := 3) rfl (by decide) fl_X7_225 dX7_count_186 (by repeat (first | exact hs_eq _ _ _ | refine hs_ne (by omega) ?_ | assumption)) rfl ?_
      refine k_iret C hr dX7_count_189 ?_
      refine ⟨congrArg (fun xx => some (aI xx)) ?_, rfl⟩
      subst qq
      first
        | rfl
        | (show _ = (zrr 13 + 720 - zrr 10) % 720; omega)
        | (show _ = (if zSil zrr then (1 : Int) else 0); rw [if_pos hsl])
        | (show _ = (if zSil zrr then (1 : Int) else 0); rw [if_neg hsl]))
  · try (exfalso; omega)
    all_goals (
      refine k_aload_n C dX7_count_190 rfl ?_
      refine k_get C (k := 0) inX7 (ci := 7) rfl (by decide) fl_X7_10 dX7_count_191 (by repeat (first | exact hs_eq _ _ _ | refine hs_ne (by omega) ?_ | assumption)) rfl ?_
      refine k_get C (k := 14) inX3 (ci := 3) rfl (by decide) fl_X7_228 dX7_count_194 (by repeat (first | exact hs_eq _ _ _ | refine hs_ne (by omega) ?_ | assumption)) rfl ?_
      refine k_iret C hr dX7_count_197 ?_
      refine ⟨congrArg (fun xx => some (aI xx)) ?_, rfl⟩
      subst qq
      first
        | rfl
        | (show _ = (zrr 13 + 720 - zrr 10) % 720; omega)
        | (show _ = (if zSil zrr then (1 : Int) else 0); rw [if_pos hsl])
        | (show _ = (if zSil zrr then (1 : Int) else 0); rw [if_neg hsl]))
  · try (exfalso; omega)
    all_goals (
      refine k_aload_n C dX7_count_198 rfl ?_
      refine k_get C (k := 0) inX7 (ci := 7) rfl (by decide) fl_X7_10 dX7_count_199 (by repeat (first | exact hs_eq _ _ _ | refine hs_ne (by omega) ?_ | assumption)) rfl ?_
      refine k_get C (k := 15) inX3 (ci := 3) rfl (by decide) fl_X7_231 dX7_count_202 (by repeat (first | exact hs_eq _ _ _ | refine hs_ne (by omega) ?_ | assumption)) rfl ?_
      refine k_iret C hr dX7_count_205 ?_
      refine ⟨congrArg (fun xx => some (aI xx)) ?_, rfl⟩
      subst qq
      first
        | rfl
        | (show _ = (zrr 13 + 720 - zrr 10) % 720; omega)
        | (show _ = (if zSil zrr then (1 : Int) else 0); rw [if_pos hsl])
        | (show _ = (if zSil zrr then (1 : Int) else 0); rw [if_neg hsl]))
  · try (exfalso; omega)
    all_goals (
      refine k_aload_n C dX7_count_206 rfl ?_
      refine k_get C (k := 0) inX7 (ci := 7) rfl (by decide) fl_X7_10 dX7_count_207 (by repeat (first | exact hs_eq _ _ _ | refine hs_ne (by omega) ?_ | assumption)) rfl ?_
      refine k_get C (k := 1) inX3 (ci := 3) rfl (by decide) fl_X7_105 dX7_count_210 (by repeat (first | exact hs_eq _ _ _ | refine hs_ne (by omega) ?_ | assumption)) rfl ?_
      refine k_get C (k := 0) inX6 (ci := 6) rfl (by decide) fl_X7_109 dX7_count_213 (by repeat (first | exact hs_eq _ _ _ | refine hs_ne (by omega) ?_ | assumption)) rfl ?_
      refine k_iret C hr dX7_count_216 ?_
      refine ⟨congrArg (fun xx => some (aI xx)) ?_, rfl⟩
      subst qq
      first
        | rfl
        | (show _ = (zrr 13 + 720 - zrr 10) % 720; omega)
        | (show _ = (if zSil zrr then (1 : Int) else 0); rw [if_pos hsl])
        | (show _ = (if zSil zrr then (1 : Int) else 0); rw [if_neg hsl]))
  · try (exfalso; omega)
    all_goals (
      refine k_aload_n C dX7_count_217 rfl ?_
      refine k_get C (k := 0) inX7 (ci := 7) rfl (by decide) fl_X7_10 dX7_count_218 (by repeat (first | exact hs_eq _ _ _ | refine hs_ne (by omega) ?_ | assumption)) rfl ?_
      refine k_get C (k := 4) inX3 (ci := 3) rfl (by decide) fl_X7_119 dX7_count_221 (by repeat (first | exact hs_eq _ _ _ | refine hs_ne (by omega) ?_ | assumption)) rfl ?_
      refine k_aload_n C dX7_count_224 rfl ?_
      refine k_get C (k := 0) inX7 (ci := 7) rfl (by decide) fl_X7_10 dX7_count_225 (by repeat (first | exact hs_eq _ _ _ | refine hs_ne (by omega) ?_ | assumption)) rfl ?_
      refine k_get C (k := 5) inX3 (ci := 3) rfl (by decide) fl_X7_83 dX7_count_228 (by repeat (first | exact hs_eq _ _ _ | refine hs_ne (by omega) ?_ | assumption)) rfl ?_
      refine k_isub C dX7_count_231 ?_
      refine k_sipush C dX7_count_232 (by decide +kernel) ?_
      refine k_callS C (n := 2) (as := [_, _]) (ct_J9_floorMod_7cf53 l D tc base _ _ _ ⟨by omega, by omega⟩ (Or.inr (Or.inl rfl))) ml_X7_234 sm_J9_floorMod_7cf53 ini_J9 co_J9_floorMod_7cf53 ⟨by decide, by decide, by decide +kernel⟩ rfl ⟨by decide, by decide⟩ rfl (Nat.le_of_ble_eq_true rfl) ⟨Nat.zero_le _, Nat.zero_le _⟩ dX7_count_235 ?_
      rintro _ _ ⟨rfl, rfl⟩
      refine k_iret C hr dX7_count_238 ?_
      refine ⟨congrArg (fun xx => some (aI xx)) ?_, rfl⟩
      subst qq
      first
        | rfl
        | (show _ = (zrr 13 + 720 - zrr 10) % 720; omega)
        | (show _ = (if zSil zrr then (1 : Int) else 0); rw [if_pos hsl])
        | (show _ = (if zSil zrr then (1 : Int) else 0); rw [if_neg hsl]))
  · try (exfalso; omega)
    all_goals (
      refine k_aload_n C dX7_count_239 rfl ?_
      refine k_get C (k := 0) inX7 (ci := 7) rfl (by decide) fl_X7_10 dX7_count_240 (by repeat (first | exact hs_eq _ _ _ | refine hs_ne (by omega) ?_ | assumption)) rfl ?_
      refine k_callV C (n := 0) (as := []) (ct_X3_isSilent l D tc base (rc + 1) zrr _ hS hi) ml_X7_237 im_X3_isSilent se_X3_isSilent ini_X3 co_X3_isSilent ⟨rfl, by decide, by decide, by decide +kernel⟩ rfl (ci := 3) rfl (by repeat (first | exact hs_eq _ _ _ | refine hs_ne (by omega) ?_ | assumption)) ⟨by decide, by decide⟩ rfl (Nat.le_of_ble_eq_true rfl) ⟨Nat.zero_le _, Nat.zero_le _⟩ dX7_count_243 ?_
      rintro _ _ (⟨rfl, rfl, hsl⟩ | ⟨rfl, rfl, hsl⟩)
      · skip
        refine k_if_eq (tgt := 253) C dX7_count_246 (by decide) ⟨by omega, by omega⟩ (fun c246 => ?_) (fun c246 => ?_)
        · try (exfalso; omega)
          all_goals (
            refine k_iconst C dX7_count_253 ?_
            refine k_iret C hr dX7_count_254 ?_
            refine ⟨congrArg (fun xx => some (aI xx)) ?_, rfl⟩
            subst qq
            first
              | rfl
              | (show _ = (zrr 13 + 720 - zrr 10) % 720; omega)
              | (show _ = (if zSil zrr then (1 : Int) else 0); rw [if_pos hsl])
              | (show _ = (if zSil zrr then (1 : Int) else 0); rw [if_neg hsl]))
        · try (exfalso; omega)
          all_goals (
            refine k_iconst C dX7_count_249 ?_
            refine k_goto (tgt := 254) C dX7_count_250 (by decide) ?_
            refine k_iret C hr dX7_count_254 ?_
            refine ⟨congrArg (fun xx => some (aI xx)) ?_, rfl⟩
            subst qq
            first
              | rfl
              | (show _ = (zrr 13 + 720 - zrr 10) % 720; omega)
              | (show _ = (if zSil zrr then (1 : Int) else 0); rw [if_pos hsl])
              | (show _ = (if zSil zrr then (1 : Int) else 0); rw [if_neg hsl]))
      · skip
        refine k_if_eq (tgt := 253) C dX7_count_246 (by decide) ⟨by omega, by omega⟩ (fun c246 => ?_) (fun c246 => ?_)
        · try (exfalso; omega)
          all_goals (
            refine k_iconst C dX7_count_253 ?_
            refine k_iret C hr dX7_count_254 ?_
            refine ⟨congrArg (fun xx => some (aI xx)) ?_, rfl⟩
            subst qq
            first
              | rfl
              | (show _ = (zrr 13 + 720 - zrr 10) % 720; omega)
              | (show _ = (if zSil zrr then (1 : Int) else 0); rw [if_pos hsl])
              | (show _ = (if zSil zrr then (1 : Int) else 0); rw [if_neg hsl]))
        · try (exfalso; omega)
          all_goals (
            refine k_iconst C dX7_count_249 ?_
            refine k_goto (tgt := 254) C dX7_count_250 (by decide) ?_
            refine k_iret C hr dX7_count_254 ?_
            refine ⟨congrArg (fun xx => some (aI xx)) ?_, rfl⟩
            subst qq
            first
              | rfl
              | (show _ = (zrr 13 + 720 - zrr 10) % 720; omega)
              | (show _ = (if zSil zrr then (1 : Int) else 0); rw [if_pos hsl])
              | (show _ = (if zSil zrr then (1 : Int) else 0); rw [if_neg hsl])))
  · try (exfalso; omega)
    all_goals (
      refine k_aload_n C dX7_count_255 rfl ?_
      refine k_get C (k := 2) inX7 (ci := 7) rfl (by decide) fl_X7_22 dX7_count_256 (by repeat (first | exact hs_eq _ _ _ | refine hs_ne (by omega) ?_ | assumption)) rfl ?_
      refine k_get C (k := 0) inX1 (ci := 1) rfl (by decide) fl_X7_169 dX7_count_259 (by repeat (first | exact hs_eq _ _ _ | refine hs_ne (by omega) ?_ | assumption)) rfl ?_
      refine k_iret C hr dX7_count_262 ?_
      refine ⟨congrArg (fun xx => some (aI xx)) ?_, rfl⟩
      subst qq
      first
        | rfl
        | (show _ = (zrr 13 + 720 - zrr 10) % 720; omega)
        | (show _ = (if zSil zrr then (1 : Int) else 0); rw [if_pos hsl])
        | (show _ = (if zSil zrr then (1 : Int) else 0); rw [if_neg hsl]))
  · try (exfalso; omega)
    all_goals (
      exfalso
      omega)

set_option maxRecDepth 20000 in
set_option maxHeartbeats 1000000 in
theorem ct_X7_setting (l : Launch) (D : va_G) (tc : Nat → ClassId) (base : Nat) (rc : Nat) (zrr hhi htx : Int → Int) (st ln : Int) (hpp : AH) (hX : XA hpp rc zrr hhi htx st ln) (ww : Int) (hw : 0 ≤ ww ∧ ww ≤ 5) : CT l D tc base yX7_setting cX7_setting 2 (some .int) 1 [aR rc, aI ww] hpp (fun r h' => r = some (aI (zrr (61 + ww))) ∧ hpp = h') := by
  refine CT.of [some (aR rc), some (aI ww)] (by decide +kernel) rfl (Nat.le_of_ble_eq_true rfl) ?_
  intro p e s m args below meth c C hr hnm
  obtain ⟨zth, gr, x0, hS, hT, hH, hTx, x5, hok, h13, hst⟩ := id hX
  obtain ⟨ol, ff, hol, hj0, -⟩ := id hH
  obtain ⟨fsn, hsn0⟩ := hS.obj
  have hi := hok.1
  obtain ⟨⟨v0, v1, v2, v9, v10, v11, v12, v13, v21, v52, v61, v62, v63, v64, v65, v66⟩, hwi, hde⟩ := id hi
  obtain ⟨f1, f2, f3, w1, w2, w3, w4, w5, d1, d2, se, ⟨g0, g1, g2, g3, g4, g5, g6, g7, g8, g9, g10, g11, g12, g13, g14⟩, hsr⟩ := id hS
  obtain ⟨r1, r2, r3, r4⟩ := id hsr
  refine k_iload_n C dX7_setting_0 rfl ?_
  refine k_callS C (n := 1) (as := [_]) (ct_X7_requireSetting l D tc base _ _ ⟨by omega, by omega⟩) ml_X7_59 sm_X7_requireSetting ini_X7 co_X7_requireSetting ⟨by decide, by decide, by decide +kernel⟩ rfl ⟨by decide, by decide⟩ rfl (Nat.le_of_ble_eq_true rfl) ⟨Nat.zero_le _, Nat.zero_le _⟩ dX7_setting_1 ?_
  rintro _ _ ⟨rfl, rfl⟩
  refine k_aload_n C dX7_setting_4 rfl ?_
  refine k_get C (k := 0) inX7 (ci := 7) rfl (by decide) fl_X7_10 dX7_setting_5 (by repeat (first | exact hs_eq _ _ _ | refine hs_ne (by omega) ?_ | assumption)) rfl ?_
  refine k_get C (k := 3) inX3 (ci := 3) rfl (by decide) fl_X7_68 dX7_setting_8 (by repeat (first | exact hs_eq _ _ _ | refine hs_ne (by omega) ?_ | assumption)) rfl ?_
  refine k_iload_n C dX7_setting_11 rfl ?_
  refine k_iaload C dX7_setting_12 (by repeat (first | exact hs_eq _ _ _ | refine hs_ne (by omega) ?_ | assumption)) (by omega) (by omega) (by omega) ?_
  refine k_iret C hr dX7_setting_13 ?_
  exact ⟨congrArg (fun xx => some (aI xx)) (r4 ww (by omega) (by omega)), rfl⟩

