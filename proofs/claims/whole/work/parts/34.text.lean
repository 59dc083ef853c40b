set_option maxRecDepth 20000 in
set_option maxHeartbeats 1000000 in
theorem ct_X2_reads (l : Launch) (D : va_G) (tc : Nat → ClassId) (base : Nat) (qq : Nat) (re du : Int) (hro : Int → Int) (hpp : AH) (hRd : RdA hpp qq re du hro) (ww : Int) (hw : 33 ≤ ww ∧ ww ≤ 126) (kk : Nat) (hkk : kk ≤ 60) (hpi : pInv re du hro kk) : CT l D tc base yX2_reads cX2_reads 2 (some .boolean) 2 [aR qq, aI ww] hpp (fun r h' => (r = some (aI 1) ∧ pOk ww re du hro ∧ RdA h' qq (pStep ww re du hro).1 (pStep ww re du hro).2.1 (pStep ww re du hro).2.2 ∧ Fr hpp h' qq 1) ∨ (r = some (aI 0) ∧ ¬ pOk ww re du hro ∧ hpp = h')) := by
  refine CT.of [some (aR qq), some (aI ww)] (by decide +kernel) rfl (Nat.le_of_ble_eq_true rfl) ?_
  intro p e s m args below meth c C hr hnm
  obtain ⟨wr, tr, pr, g0, hrel⟩ := id hRd
  obtain ⟨p1, p2, p3, -⟩ := id hpi
  have hpv1 : du = 1 → pV ww re du hro = 10 * hro (3 * re + 1) + ww - 48 := fun hh => by unfold pV; rw [hh]
  have hpv2 : du = 2 → pV ww re du hro = 10 * hro (3 * re + 2) + ww - 48 := fun hh => by unfold pV; rw [hh]
  refine k_aload_n C dX2_reads_0 rfl ?_
  refine k_get C (k := 0) inX2 (ci := 2) rfl (by decide) fl_X2_11 dX2_reads_1 (by repeat (first | exact hs_eq _ _ _ | refine hs_ne (by omega) ?_ | assumption)) rfl ?_
  refine k_lsw (t0 := 32) (t1 := 38) (dt := 44) C dX2_reads_4 ⟨by omega, by omega⟩ (by decide) (by decide) (by decide) (fun c4 => ?_) (fun c4 => ?_) (fun c4 => ?_)
  · try (exfalso; omega)
    all_goals (
      have hd0 : du = 0 := by omega
      refine k_aload_n C dX2_reads_32 rfl ?_
      refine k_iload_n C dX2_reads_33 rfl ?_
      refine k_callV C (n := 1) (as := [_]) (ct_X2_readsWeight l D tc base qq _ _ _ _ _ (by repeat (first | exact hs_eq _ _ _ | refine hs_ne (by omega) ?_ | assumption)) _ hw) ml_X2_30 im_X2_readsWeight se_X2_readsWeight ini_X2 co_X2_readsWeight ⟨rfl, by decide, by decide, by decide +kernel⟩ rfl (ci := 2) rfl (by repeat (first | exact hs_eq _ _ _ | refine hs_ne (by omega) ?_ | assumption)) ⟨by decide, by decide⟩ rfl (Nat.le_of_ble_eq_true rfl) ⟨Nat.zero_le _, Nat.zero_le _⟩ dX2_reads_34 ?_
      rintro _ _ (⟨rfl, hc, rfl⟩ | ⟨rfl, hc, rfl⟩)
      · skip
        refine k_zret C hr dX2_reads_37 (by omega) ?_
        first
          | exact Or.inr ⟨rfl, by unfold pOk; omega, rfl⟩
          | (refine Or.inl ⟨rfl, Or.inl ⟨hd0, hc⟩, ?_, fun aaa haa => by repeat (first | rfl | refine hs_ne (by omega) ?_)⟩
             simp only [pStep, if_pos hd0]
             exact ⟨_, _, _, hs_eq _ _ _, fun _ => by simp (disch := omega) only [iu_ne, iu_eq]; exact ⟨trivial, trivial, trivial⟩⟩)
          | (have h47 : ww = 47 := by omega
             have hdu1 : du = 1 := hd1
             refine Or.inl ⟨rfl, by unfold pOk; omega, ?_, fun aaa haa => by repeat (first | rfl | refine hs_ne (by omega) ?_)⟩
             simp only [pStep, if_neg (show ¬ du = 0 by omega), if_pos h47]
             exact ⟨_, _, _, hs_eq _ _ _, fun _ => hr1⟩)
          | (have h44 : ww = 44 := by omega
             have hdu2 : du = 2 := hd2
             refine Or.inl ⟨rfl, by unfold pOk; omega, ?_, fun aaa haa => by repeat (first | rfl | refine hs_ne (by omega) ?_)⟩
             simp only [pStep, if_neg (show ¬ du = 0 by omega), if_neg (show ¬ ww = 47 by omega), if_pos h44]
             exact ⟨_, _, _, hs_eq _ _ _, fun hh => absurd rfl hh⟩)
          | (have hdu1 : du = 1 := hd1
             have hv := hpv1 hd1
             refine Or.inl ⟨rfl, by unfold pOk; omega, ?_, fun aaa haa => by repeat (first | rfl | refine hs_ne (by omega) ?_)⟩
             simp only [pStep, if_neg (show ¬ du = 0 by omega), if_neg (show ¬ ww = 47 by omega), if_neg (show ¬ ww = 44 by omega)]
             rw [hv, ← hr1.2.1]
             subst hdu1
             exact ⟨_, _, _, hs_eq _ _ _, fun _ => by simp (disch := omega) only [iu_ne, iu_eq]; exact ⟨hr1.1, trivial, hr1.2.2⟩⟩)
          | (have hdu2 : du = 2 := hd2
             have hv := hpv2 hd2
             refine Or.inl ⟨rfl, by unfold pOk; omega, ?_, fun aaa haa => by repeat (first | rfl | refine hs_ne (by omega) ?_)⟩
             simp only [pStep, if_neg (show ¬ du = 0 by omega), if_neg (show ¬ ww = 47 by omega), if_neg (show ¬ ww = 44 by omega)]
             rw [hv, ← hr1.2.2]
             subst hdu2
             exact ⟨_, _, _, hs_eq _ _ _, fun _ => by simp (disch := omega) only [iu_ne, iu_eq]; exact ⟨hr1.1, hr1.2.1, trivial⟩⟩)
      · skip
        refine k_zret C hr dX2_reads_37 (by omega) ?_
        first
          | exact Or.inr ⟨rfl, by unfold pOk; omega, rfl⟩
          | (refine Or.inl ⟨rfl, Or.inl ⟨hd0, hc⟩, ?_, fun aaa haa => by repeat (first | rfl | refine hs_ne (by omega) ?_)⟩
             simp only [pStep, if_pos hd0]
             exact ⟨_, _, _, hs_eq _ _ _, fun _ => by simp (disch := omega) only [iu_ne, iu_eq]; exact ⟨trivial, trivial, trivial⟩⟩)
          | (have h47 : ww = 47 := by omega
             have hdu1 : du = 1 := hd1
             refine Or.inl ⟨rfl, by unfold pOk; omega, ?_, fun aaa haa => by repeat (first | rfl | refine hs_ne (by omega) ?_)⟩
             simp only [pStep, if_neg (show ¬ du = 0 by omega), if_pos h47]
             exact ⟨_, _, _, hs_eq _ _ _, fun _ => hr1⟩)
          | (have h44 : ww = 44 := by omega
             have hdu2 : du = 2 := hd2
             refine Or.inl ⟨rfl, by unfold pOk; omega, ?_, fun aaa haa => by repeat (first | rfl | refine hs_ne (by omega) ?_)⟩
             simp only [pStep, if_neg (show ¬ du = 0 by omega), if_neg (show ¬ ww = 47 by omega), if_pos h44]
             exact ⟨_, _, _, hs_eq _ _ _, fun hh => absurd rfl hh⟩)
          | (have hdu1 : du = 1 := hd1
             have hv := hpv1 hd1
             refine Or.inl ⟨rfl, by unfold pOk; omega, ?_, fun aaa haa => by repeat (first | rfl | refine hs_ne (by omega) ?_)⟩
             simp only [pStep, if_neg (show ¬ du = 0 by omega), if_neg (show ¬ ww = 47 by omega), if_neg (show ¬ ww = 44 by omega)]
             rw [hv, ← hr1.2.1]
             subst hdu1
             exact ⟨_, _, _, hs_eq _ _ _, fun _ => by simp (disch := omega) only [iu_ne, iu_eq]; exact ⟨hr1.1, trivial, hr1.2.2⟩⟩)
          | (have hdu2 : du = 2 := hd2
             have hv := hpv2 hd2
             refine Or.inl ⟨rfl, by unfold pOk; omega, ?_, fun aaa haa => by repeat (first | rfl | refine hs_ne (by omega) ?_)⟩
             simp only [pStep, if_neg (show ¬ du = 0 by omega), if_neg (show ¬ ww = 47 by omega), if_neg (show ¬ ww = 44 by omega)]
             rw [hv, ← hr1.2.2]
             subst hdu2
             exact ⟨_, _, _, hs_eq _ _ _, fun _ => by simp (disch := omega) only [iu_ne, iu_eq]; exact ⟨hr1.1, hr1.2.1, trivial⟩⟩))
  · try (exfalso; omega)
    all_goals (
      have hd1 : du = 1 := by omega
      have hr1 := hrel (by omega)
      have hp2 := p2 (by omega)
      refine k_aload_n C dX2_reads_38 rfl ?_
      refine k_iload_n C dX2_reads_39 rfl ?_
      refine k_callV C (n := 1) (as := [_]) (ct_X2_readsTurns l D tc base qq _ _ _ _ _ (by repeat (first | exact hs_eq _ _ _ | refine hs_ne (by omega) ?_ | assumption)) _ hw (by omega)) ml_X2_34 im_X2_readsTurns se_X2_readsTurns ini_X2 co_X2_readsTurns ⟨rfl, by decide, by decide, by decide +kernel⟩ rfl (ci := 2) rfl (by repeat (first | exact hs_eq _ _ _ | refine hs_ne (by omega) ?_ | assumption)) ⟨by decide, by decide⟩ rfl (Nat.le_of_ble_eq_true rfl) ⟨Nat.zero_le _, Nat.zero_le _⟩ dX2_reads_40 ?_
      rintro _ _ (⟨rfl, hc, rfl⟩ | ⟨rfl, hc, rfl⟩ | ⟨rfl, hc, hc2, rfl⟩)
      · skip
        refine k_zret C hr dX2_reads_43 (by omega) ?_
        first
          | exact Or.inr ⟨rfl, by unfold pOk; omega, rfl⟩
          | (refine Or.inl ⟨rfl, Or.inl ⟨hd0, hc⟩, ?_, fun aaa haa => by repeat (first | rfl | refine hs_ne (by omega) ?_)⟩
             simp only [pStep, if_pos hd0]
             exact ⟨_, _, _, hs_eq _ _ _, fun _ => by simp (disch := omega) only [iu_ne, iu_eq]; exact ⟨trivial, trivial, trivial⟩⟩)
          | (have h47 : ww = 47 := by omega
             have hdu1 : du = 1 := hd1
             refine Or.inl ⟨rfl, by unfold pOk; omega, ?_, fun aaa haa => by repeat (first | rfl | refine hs_ne (by omega) ?_)⟩
             simp only [pStep, if_neg (show ¬ du = 0 by omega), if_pos h47]
             exact ⟨_, _, _, hs_eq _ _ _, fun _ => hr1⟩)
          | (have h44 : ww = 44 := by omega
             have hdu2 : du = 2 := hd2
             refine Or.inl ⟨rfl, by unfold pOk; omega, ?_, fun aaa haa => by repeat (first | rfl | refine hs_ne (by omega) ?_)⟩
             simp only [pStep, if_neg (show ¬ du = 0 by omega), if_neg (show ¬ ww = 47 by omega), if_pos h44]
             exact ⟨_, _, _, hs_eq _ _ _, fun hh => absurd rfl hh⟩)
          | (have hdu1 : du = 1 := hd1
             have hv := hpv1 hd1
             refine Or.inl ⟨rfl, by unfold pOk; omega, ?_, fun aaa haa => by repeat (first | rfl | refine hs_ne (by omega) ?_)⟩
             simp only [pStep, if_neg (show ¬ du = 0 by omega), if_neg (show ¬ ww = 47 by omega), if_neg (show ¬ ww = 44 by omega)]
             rw [hv, ← hr1.2.1]
             subst hdu1
             exact ⟨_, _, _, hs_eq _ _ _, fun _ => by simp (disch := omega) only [iu_ne, iu_eq]; exact ⟨hr1.1, trivial, hr1.2.2⟩⟩)
          | (have hdu2 : du = 2 := hd2
             have hv := hpv2 hd2
             refine Or.inl ⟨rfl, by unfold pOk; omega, ?_, fun aaa haa => by repeat (first | rfl | refine hs_ne (by omega) ?_)⟩
             simp only [pStep, if_neg (show ¬ du = 0 by omega), if_neg (show ¬ ww = 47 by omega), if_neg (show ¬ ww = 44 by omega)]
             rw [hv, ← hr1.2.2]
             subst hdu2
             exact ⟨_, _, _, hs_eq _ _ _, fun _ => by simp (disch := omega) only [iu_ne, iu_eq]; exact ⟨hr1.1, hr1.2.1, trivial⟩⟩)
      · skip
        refine k_zret C hr dX2_reads_43 (by omega) ?_
        first
          | exact Or.inr ⟨rfl, by unfold pOk; omega, rfl⟩
          | (refine Or.inl ⟨rfl, Or.inl ⟨hd0, hc⟩, ?_, fun aaa haa => by repeat (first | rfl | refine hs_ne (by omega) ?_)⟩
             simp only [pStep, if_pos hd0]
             exact ⟨_, _, _, hs_eq _ _ _, fun _ => by simp (disch := omega) only [iu_ne, iu_eq]; exact ⟨trivial, trivial, trivial⟩⟩)
          | (have h47 : ww = 47 := by omega
             have hdu1 : du = 1 := hd1
             refine Or.inl ⟨rfl, by unfold pOk; omega, ?_, fun aaa haa => by repeat (first | rfl | refine hs_ne (by omega) ?_)⟩
             simp only [pStep, if_neg (show ¬ du = 0 by omega), if_pos h47]
             exact ⟨_, _, _, hs_eq _ _ _, fun _ => hr1⟩)
          | (have h44 : ww = 44 := by omega
             have hdu2 : du = 2 := hd2
             refine Or.inl ⟨rfl, by unfold pOk; omega, ?_, fun aaa haa => by repeat (first | rfl | refine hs_ne (by omega) ?_)⟩
             simp only [pStep, if_neg (show ¬ du = 0 by omega), if_neg (show ¬ ww = 47 by omega), if_pos h44]
             exact ⟨_, _, _, hs_eq _ _ _, fun hh => absurd rfl hh⟩)
          | (have hdu1 : du = 1 := hd1
             have hv := hpv1 hd1
             refine Or.inl ⟨rfl, by unfold pOk; omega, ?_, fun aaa haa => by repeat (first | rfl | refine hs_ne (by omega) ?_)⟩
             simp only [pStep, if_neg (show ¬ du = 0 by omega), if_neg (show ¬ ww = 47 by omega), if_neg (show ¬ ww = 44 by omega)]
             rw [hv, ← hr1.2.1]
             subst hdu1
             exact ⟨_, _, _, hs_eq _ _ _, fun _ => by simp (disch := omega) only [iu_ne, iu_eq]; exact ⟨hr1.1, trivial, hr1.2.2⟩⟩)
          | (have hdu2 : du = 2 := hd2
             have hv := hpv2 hd2
             refine Or.inl ⟨rfl, by unfold pOk; omega, ?_, fun aaa haa => by repeat (first | rfl | refine hs_ne (by omega) ?_)⟩
             simp only [pStep, if_neg (show ¬ du = 0 by omega), if_neg (show ¬ ww = 47 by omega), if_neg (show ¬ ww = 44 by omega)]
             rw [hv, ← hr1.2.2]
             subst hdu2
             exact ⟨_, _, _, hs_eq _ _ _, fun _ => by simp (disch := omega) only [iu_ne, iu_eq]; exact ⟨hr1.1, hr1.2.1, trivial⟩⟩)
      · skip
        refine k_zret C hr dX2_reads_43 (by omega) ?_
        first
          | exact Or.inr ⟨rfl, by unfold pOk; omega, rfl⟩
          | (refine Or.inl ⟨rfl, Or.inl ⟨hd0, hc⟩, ?_, fun aaa haa => by repeat (first | rfl | refine hs_ne (by omega) ?_)⟩
             simp only [pStep, if_pos hd0]
             exact ⟨_, _, _, hs_eq _ _ _, fun _ => by simp (disch := omega) only [iu_ne, iu_eq]; exact ⟨trivial, trivial, trivial⟩⟩)
          | (have h47 : ww = 47 := by omega
             have hdu1 : du = 1 := hd1
             refine Or.inl ⟨rfl, by unfold pOk; omega, ?_, fun aaa haa => by repeat (first | rfl | refine hs_ne (by omega) ?_)⟩
             simp only [pStep, if_neg (show ¬ du = 0 by omega), if_pos h47]
             exact ⟨_, _, _, hs_eq _ _ _, fun _ => hr1⟩)
          | (have h44 : ww = 44 := by omega
             have hdu2 : du = 2 := hd2
             refine Or.inl ⟨rfl, by unfold pOk; omega, ?_, fun aaa haa => by repeat (first | rfl | refine hs_ne (by omega) ?_)⟩
             simp only [pStep, if_neg (show ¬ du = 0 by omega), if_neg (show ¬ ww = 47 by omega), if_pos h44]
             exact ⟨_, _, _, hs_eq _ _ _, fun hh => absurd rfl hh⟩)
          | (have hdu1 : du = 1 := hd1
             have hv := hpv1 hd1
             refine Or.inl ⟨rfl, by unfold pOk; omega, ?_, fun aaa haa => by repeat (first | rfl | refine hs_ne (by omega) ?_)⟩
             simp only [pStep, if_neg (show ¬ du = 0 by omega), if_neg (show ¬ ww = 47 by omega), if_neg (show ¬ ww = 44 by omega)]
             rw [hv, ← hr1.2.1]
             subst hdu1
             exact ⟨_, _, _, hs_eq _ _ _, fun _ => by simp (disch := omega) only [iu_ne, iu_eq]; exact ⟨hr1.1, trivial, hr1.2.2⟩⟩)
          | (have hdu2 : du = 2 := hd2
             have hv := hpv2 hd2
             refine Or.inl ⟨rfl, by unfold pOk; omega, ?_, fun aaa haa => by repeat (first | rfl | refine hs_ne (by omega) ?_)⟩
             simp only [pStep, if_neg (show ¬ du = 0 by omega), if_neg (show ¬ ww = 47 by omega), if_neg (show ¬ ww = 44 by omega)]
             rw [hv, ← hr1.2.2]
             subst hdu2
             exact ⟨_, _, _, hs_eq _ _ _, fun _ => by simp (disch := omega) only [iu_ne, iu_eq]; exact ⟨hr1.1, hr1.2.1, trivial⟩⟩))
  · try (exfalso; omega)
    all_goals (
      have hd2 : du = 2 := by omega
      have hr1 := hrel (by omega)
      have hp2 := p2 (by omega)
      refine k_aload_n C dX2_reads_44 rfl ?_
      refine k_iload_n C dX2_reads_45 rfl ?_
      refine k_callV C (n := 1) (as := [_]) (ct_X2_readsPeriod l D tc base qq _ _ _ _ _ (by repeat (first | exact hs_eq _ _ _ | refine hs_ne (by omega) ?_ | assumption)) _ hw (by omega)) ml_X2_37 im_X2_readsPeriod se_X2_readsPeriod ini_X2 co_X2_readsPeriod ⟨rfl, by decide, by decide, by decide +kernel⟩ rfl (ci := 2) rfl (by repeat (first | exact hs_eq _ _ _ | refine hs_ne (by omega) ?_ | assumption)) ⟨by decide, by decide⟩ rfl (Nat.le_of_ble_eq_true rfl) ⟨Nat.zero_le _, Nat.zero_le _⟩ dX2_reads_46 ?_
      rintro _ _ (⟨rfl, hc, rfl⟩ | ⟨rfl, hc, rfl⟩ | ⟨rfl, hc, hc2, rfl⟩)
      · skip
        refine k_zret C hr dX2_reads_49 (by omega) ?_
        first
          | exact Or.inr ⟨rfl, by unfold pOk; omega, rfl⟩
          | (refine Or.inl ⟨rfl, Or.inl ⟨hd0, hc⟩, ?_, fun aaa haa => by repeat (first | rfl | refine hs_ne (by omega) ?_)⟩
             simp only [pStep, if_pos hd0]
             exact ⟨_, _, _, hs_eq _ _ _, fun _ => by simp (disch := omega) only [iu_ne, iu_eq]; exact ⟨trivial, trivial, trivial⟩⟩)
          | (have h47 : ww = 47 := by omega
             have hdu1 : du = 1 := hd1
             refine Or.inl ⟨rfl, by unfold pOk; omega, ?_, fun aaa haa => by repeat (first | rfl | refine hs_ne (by omega) ?_)⟩
             simp only [pStep, if_neg (show ¬ du = 0 by omega), if_pos h47]
             exact ⟨_, _, _, hs_eq _ _ _, fun _ => hr1⟩)
          | (have h44 : ww = 44 := by omega
             have hdu2 : du = 2 := hd2
             refine Or.inl ⟨rfl, by unfold pOk; omega, ?_, fun aaa haa => by repeat (first | rfl | refine hs_ne (by omega) ?_)⟩
             simp only [pStep, if_neg (show ¬ du = 0 by omega), if_neg (show ¬ ww = 47 by omega), if_pos h44]
             exact ⟨_, _, _, hs_eq _ _ _, fun hh => absurd rfl hh⟩)
          | (have hdu1 : du = 1 := hd1
             have hv := hpv1 hd1
             refine Or.inl ⟨rfl, by unfold pOk; omega, ?_, fun aaa haa => by repeat (first | rfl | refine hs_ne (by omega) ?_)⟩
             simp only [pStep, if_neg (show ¬ du = 0 by omega), if_neg (show ¬ ww = 47 by omega), if_neg (show ¬ ww = 44 by omega)]
             rw [hv, ← hr1.2.1]
             subst hdu1
             exact ⟨_, _, _, hs_eq _ _ _, fun _ => by simp (disch := omega) only [iu_ne, iu_eq]; exact ⟨hr1.1, trivial, hr1.2.2⟩⟩)
          | (have hdu2 : du = 2 := hd2
             have hv := hpv2 hd2
             refine Or.inl ⟨rfl, by unfold pOk; omega, ?_, fun aaa haa => by repeat (first | rfl | refine hs_ne (by omega) ?_)⟩
             simp only [pStep, if_neg (show ¬ du = 0 by omega), if_neg (show ¬ ww = 47 by omega), if_neg (show ¬ ww = 44 by omega)]
             rw [hv, ← hr1.2.2]
             subst hdu2
             exact ⟨_, _, _, hs_eq _ _ _, fun _ => by simp (disch := omega) only [iu_ne, iu_eq]; exact ⟨hr1.1, hr1.2.1, trivial⟩⟩)
      · skip
        refine k_zret C hr dX2_reads_49 (by omega) ?_
        first
          | exact Or.inr ⟨rfl, by unfold pOk; omega, rfl⟩
          | (refine Or.inl ⟨rfl, Or.inl ⟨hd0, hc⟩, ?_, fun aaa haa => by repeat (first | rfl | refine hs_ne (by omega) ?_)⟩
             simp only [pStep, if_pos hd0]
             exact ⟨_, _, _, hs_eq _ _ _, fun _ => by simp (disch := omega) only [iu_ne, iu_eq]; exact ⟨trivial, trivial, trivial⟩⟩)
          | (have h47 : ww = 47 := by omega
             have hdu1 : du = 1 := hd1
             refine Or.inl ⟨rfl, by unfold pOk; omega, ?_, fun aaa haa => by repeat (first | rfl | refine hs_ne (by omega) ?_)⟩
             simp only [pStep, if_neg (show ¬ du = 0 by omega), if_pos h47]
             exact ⟨_, _, _, hs_eq _ _ _, fun _ => hr1⟩)
          | (have h44 : ww = 44 := by omega
             have hdu2 : du = 2 := hd2
             refine Or.inl ⟨rfl, by unfold pOk; omega, ?_, fun aaa haa => by repeat (first | rfl | refine hs_ne (by omega) ?_)⟩
             simp only [pStep, if_neg (show ¬ du = 0 by omega), if_neg (show ¬ ww = 47 by omega), if_pos h44]
             exact ⟨_, _, _, hs_eq _ _ _, fun hh => absurd rfl hh⟩)
          | (have hdu1 : du = 1 := hd1
             have hv := hpv1 hd1
             refine Or.inl ⟨rfl, by unfold pOk; omega, ?_, fun aaa haa => by repeat (first | rfl | refine hs_ne (by omega) ?_)⟩
             simp only [pStep, if_neg (show ¬ du = 0 by omega), if_neg (show ¬ ww = 47 by omega), if_neg (show ¬ ww = 44 by omega)]
             rw [hv, ← hr1.2.1]
             subst hdu1
             exact ⟨_, _, _, hs_eq _ _ _, fun _ => by simp (disch := omega) only [iu_ne, iu_eq]; exact ⟨hr1.1, trivial, hr1.2.2⟩⟩)
          | (have hdu2 : du = 2 := hd2
             have hv := hpv2 hd2
             refine Or.inl ⟨rfl, by unfold pOk; omega, ?_, fun aaa haa => by repeat (first | rfl | refine hs_ne (by omega) ?_)⟩
             simp only [pStep, if_neg (show ¬ du = 0 by omega), if_neg (show ¬ ww = 47 by omega), if_neg (show ¬ ww = 44 by omega)]
             rw [hv, ← hr1.2.2]
             subst hdu2
             exact ⟨_, _, _, hs_eq _ _ _, fun _ => by simp (disch := omega) only [iu_ne, iu_eq]; exact ⟨hr1.1, hr1.2.1, trivial⟩⟩)
      · skip
        refine k_zret C hr dX2_reads_49 (by omega) ?_
        first
          | exact Or.inr ⟨rfl, by unfold pOk; omega, rfl⟩
          | (refine Or.inl ⟨rfl, Or.inl ⟨hd0, hc⟩, ?_, fun aaa haa => by repeat (first | rfl | refine hs_ne (by omega) ?_)⟩
             simp only [pStep, if_pos hd0]
             exact ⟨_, _, _, hs_eq _ _ _, fun _ => by simp (disch := omega) only [iu_ne, iu_eq]; exact ⟨trivial, trivial, trivial⟩⟩)
          | (have h47 : ww = 47 := by omega
             have hdu1 : du = 1 := hd1
             refine Or.inl ⟨rfl, by unfold pOk; omega, ?_, fun aaa haa => by repeat (first | rfl | refine hs_ne (by omega) ?_)⟩
             simp only [pStep, if_neg (show ¬ du = 0 by omega), if_pos h47]
             exact ⟨_, _, _, hs_eq _ _ _, fun _ => hr1⟩)
          | (have h44 : ww = 44 := by omega
             have hdu2 : du = 2 := hd2
             refine Or.inl ⟨rfl, by unfold pOk; omega, ?_, fun aaa haa => by repeat (first | rfl | refine hs_ne (by omega) ?_)⟩
             simp only [pStep, if_neg (show ¬ du = 0 by omega), if_neg (show ¬ ww = 47 by omega), if_pos h44]
             exact ⟨_, _, _, hs_eq _ _ _, fun hh => absurd rfl hh⟩)
          | (have hdu1 : du = 1 := hd1
             have hv := hpv1 hd1
             refine Or.inl ⟨rfl, by unfold pOk; omega, ?_, fun aaa haa => by repeat (first | rfl | refine hs_ne (by omega) ?_)⟩
             simp only [pStep, if_neg (show ¬ du = 0 by omega), if_neg (show ¬ ww = 47 by omega), if_neg (show ¬ ww = 44 by omega)]
             rw [hv, ← hr1.2.1]
             subst hdu1
             exact ⟨_, _, _, hs_eq _ _ _, fun _ => by simp (disch := omega) only [iu_ne, iu_eq]; exact ⟨hr1.1, trivial, hr1.2.2⟩⟩)
          | (have hdu2 : du = 2 := hd2
             have hv := hpv2 hd2
             refine Or.inl ⟨rfl, by unfold pOk; omega, ?_, fun aaa haa => by repeat (first | rfl | refine hs_ne (by omega) ?_)⟩
             simp only [pStep, if_neg (show ¬ du = 0 by omega), if_neg (show ¬ ww = 47 by omega), if_neg (show ¬ ww = 44 by omega)]
             rw [hv, ← hr1.2.2]
             subst hdu2
             exact ⟨_, _, _, hs_eq _ _ _, fun _ => by simp (disch := omega) only [iu_ne, iu_eq]; exact ⟨hr1.1, hr1.2.1, trivial⟩⟩))

set_option maxRecDepth 20000 in
set_option maxHeartbeats 1000000 in
theorem ct_X4_readToError (l : Launch) (D : va_G) (tc : Nat → ClassId) (base : Nat) (tt : Nat) (ln : Int) (htx : Int → Int) (hpp : AH) (hT : TxA hpp tt ln htx) (hro : Int → Int) : CT l D tc base yX4_readToError cX4_readToError 2 (some .int) 3 [aR tt] hpp (fun r h' => ∃ nn : Nat, r = some (aI nn) ∧ nn ≤ ln ∧ pFine htx hro nn ∧ (((nn : Int) = ln ∧ RdA h' (tt + 2) (pS htx hro nn).1 (pS htx hro nn).2.1 (pS htx hro nn).2.2) ∨ ((nn : Int) < ln ∧ ¬ pOk (htx nn) (pS htx hro nn).1 (pS htx hro nn).2.1 (pS htx hro nn).2.2 ∧ ∃ a b c d : Int, h' (tt + 2) = some (eO 2 [aI a, aI b, aI c, aI d]))) ∧ Fr hpp h' (tt + 2) 1) := by
  refine CT.of [some (aR tt), none] (by decide +kernel) rfl (Nat.le_of_ble_eq_true rfl) ?_
  intro p e s m args below meth c C hr hnm
  obtain ⟨sg, g0, g1, hln, hsg, ra, rb, rc, rd, g2⟩ := id hT
  refine k_aload_n C dX4_readToError_0 rfl ?_
  refine k_get C (k := 2) inX4 (ci := 4) rfl (by decide) fl_X4_18 dX4_readToError_1 (by repeat (first | exact hs_eq _ _ _ | refine hs_ne (by omega) ?_ | assumption)) rfl ?_
  refine k_callV C (n := 0) (as := []) (ct_X2_begin l D tc base (tt + 2) _ _ _ _ _ (by repeat (first | exact hs_eq _ _ _ | refine hs_ne (by omega) ?_ | assumption))) ml_X4_26 im_X2_begin se_X2_begin ini_X2 co_X2_begin ⟨rfl, by decide, by decide, by decide +kernel⟩ rfl (ci := 2) rfl (by repeat (first | exact hs_eq _ _ _ | refine hs_ne (by omega) ?_ | assumption)) ⟨by decide, by decide⟩ rfl (Nat.le_of_ble_eq_true rfl) ⟨Nat.zero_le _, Nat.zero_le _⟩ dX4_readToError_4 ?_
  rintro _ _ ⟨rfl, rfl⟩
  refine k_iconst C dX4_readToError_7 ?_
  refine k_istore_n C dX4_readToError_8 (by decide) rfl ?_
  have loop9 : ∀ (n : Nat) (kk : Nat) (hkk : AH), (kk : Int) ≤ ln → pFine htx hro kk → RdA hkk (tt + 2) (pS htx hro kk).1 (pS htx hro kk).2.1 (pS htx hro kk).2.2 → Fr hpp hkk (tt + 2) 1 → ln - kk < (n : Int) → Wk D tc base 2 p l e (lvR 3) s m args below meth c 0 0 (MQ below (Qx D tc base (fun r h' => ∃ nn : Nat, r = some (aI nn) ∧ nn ≤ ln ∧ pFine htx hro nn ∧ (((nn : Int) = ln ∧ RdA h' (tt + 2) (pS htx hro nn).1 (pS htx hro nn).2.1 (pS htx hro nn).2.2) ∨ ((nn : Int) < ln ∧ ¬ pOk (htx nn) (pS htx hro nn).1 (pS htx hro nn).2.1 (pS htx hro nn).2.2 ∧ ∃ a b c d : Int, h' (tt + 2) = some (eO 2 [aI a, aI b, aI c, aI d]))) ∧ Fr hpp h' (tt + 2) 1)) args s 0 0 (fun q => base ≤ q)) 9 [some (aR tt), some (aI kk)] [] hkk := by
    intro n
    induction n with
    | zero =>
      intro kk hkk hk hpf hRk hFk hmu
      exfalso
      omega
    | succ n ih =>
      intro kk hkk hk hpf hRk hFk hmu
      have hpi := pInv_run hpf
      have k0 := (hFk tt (by omega)).trans g0
      have k1 := (hFk (tt + 1) (by omega)).trans g1
      obtain ⟨xa, xb, xc, k2, -⟩ := id hRk
      refine k_iload_n C dX4_readToError_9 rfl ?_
      refine k_aload_n C dX4_readToError_10 rfl ?_
      refine k_get C (k := 0) inX4 (ci := 4) rfl (by decide) fl_X4_22 dX4_readToError_11 (by repeat (first | exact hs_eq _ _ _ | refine hs_ne (by omega) ?_ | assumption)) rfl ?_
      refine k_icmp_ge (tgt := 47) C dX4_readToError_14 (by decide) ⟨by omega, by omega⟩ ⟨by omega, by omega⟩ (fun c14 => ?_) (fun c14 => ?_)
      · try (exfalso; omega)
        all_goals (
          refine k_aload_n C dX4_readToError_47 rfl ?_
          refine k_get C (k := 0) inX4 (ci := 4) rfl (by decide) fl_X4_22 dX4_readToError_48 (by repeat (first | exact hs_eq _ _ _ | refine hs_ne (by omega) ?_ | assumption)) rfl ?_
          refine k_iret C hr dX4_readToError_51 ?_
          first
            | exact ⟨kk, congrArg (fun qq => some (aI qq)) (by omega), hk, hpf, Or.inl ⟨by omega, hRk⟩, hFk⟩
            | exact ⟨kk, rfl, hk, hpf, Or.inr ⟨by omega, hok, _, _, _, _, k2⟩, hFk⟩)
      · try (exfalso; omega)
        all_goals (
          refine k_iload_n C dX4_readToError_17 rfl ?_
          refine k_bipush C dX4_readToError_18 (by decide +kernel) ?_
          refine k_icmp_ge (tgt := 47) C dX4_readToError_20 (by decide) ⟨by omega, by omega⟩ ⟨by omega, by omega⟩ (fun c20 => ?_) (fun c20 => ?_)
          · try (exfalso; omega)
            all_goals (
              refine k_aload_n C dX4_readToError_47 rfl ?_
              refine k_get C (k := 0) inX4 (ci := 4) rfl (by decide) fl_X4_22 dX4_readToError_48 (by repeat (first | exact hs_eq _ _ _ | refine hs_ne (by omega) ?_ | assumption)) rfl ?_
              refine k_iret C hr dX4_readToError_51 ?_
              first
                | exact ⟨kk, congrArg (fun qq => some (aI qq)) (by omega), hk, hpf, Or.inl ⟨by omega, hRk⟩, hFk⟩
                | exact ⟨kk, rfl, hk, hpf, Or.inr ⟨by omega, hok, _, _, _, _, k2⟩, hFk⟩)
          · try (exfalso; omega)
            all_goals (
              refine k_aload_n C dX4_readToError_23 rfl ?_
              refine k_get C (k := 2) inX4 (ci := 4) rfl (by decide) fl_X4_18 dX4_readToError_24 (by repeat (first | exact hs_eq _ _ _ | refine hs_ne (by omega) ?_ | assumption)) rfl ?_
              refine k_aload_n C dX4_readToError_27 rfl ?_
              refine k_get C (k := 1) inX4 (ci := 4) rfl (by decide) fl_X4_9 dX4_readToError_28 (by repeat (first | exact hs_eq _ _ _ | refine hs_ne (by omega) ?_ | assumption)) rfl ?_
              refine k_iload_n C dX4_readToError_31 rfl ?_
              refine k_caload C dX4_readToError_32 (by repeat (first | exact hs_eq _ _ _ | refine hs_ne (by omega) ?_ | assumption)) (by omega) (by omega) (by omega) ?_
              have hcs := (hsg kk (by omega) (by omega)).2
              rw [(hsg kk (by omega) (by omega)).1]
              refine k_callV C (n := 1) (as := [_]) (ct_X2_reads l D tc base (tt + 2) _ _ _ _ hRk _ hcs kk (by omega) hpi) ml_X4_29 im_X2_reads se_X2_reads ini_X2 co_X2_reads ⟨rfl, by decide, by decide, by decide +kernel⟩ rfl (ci := 2) rfl (by repeat (first | exact hs_eq _ _ _ | refine hs_ne (by omega) ?_ | assumption)) ⟨by decide, by decide⟩ rfl (Nat.le_of_ble_eq_true rfl) ⟨Nat.zero_le _, Nat.zero_le _⟩ dX4_readToError_33 ?_
              rintro _ _ (⟨rfl, hok, hR2, hF2⟩ | ⟨rfl, hok, rfl⟩)
              · skip
                refine k_if_ne (tgt := 41) C dX4_readToError_36 (by decide) ⟨by omega, by omega⟩ (fun c36 => ?_) (fun c36 => ?_)
                · try (exfalso; omega)
                  all_goals (
                    refine k_iinc C dX4_readToError_41 rfl (by decide) rfl ?_
                    refine k_goto (tgt := 9) C dX4_readToError_44 (by decide) ?_
                    have e2 : ((kk + 1 : Nat) : Int) = (kk : Int) + 1 := by omega
                    have q1 := ih (kk + 1) _ (by omega) (fun j hj => by
                      by_cases hjk : j = kk
                      · subst hjk
                        exact hok
                      · exact hpf j (by omega)) hR2 (hFk.tr hF2) (by omega)
                    rw [e2] at q1
                    exact q1)
                · try (exfalso; omega)
                  all_goals (
                    refine k_iload_n C dX4_readToError_39 rfl ?_
                    refine k_iret C hr dX4_readToError_40 ?_
                    first
                      | exact ⟨kk, congrArg (fun qq => some (aI qq)) (by omega), hk, hpf, Or.inl ⟨by omega, hRk⟩, hFk⟩
                      | exact ⟨kk, rfl, hk, hpf, Or.inr ⟨by omega, hok, _, _, _, _, k2⟩, hFk⟩)
              · skip
                refine k_if_ne (tgt := 41) C dX4_readToError_36 (by decide) ⟨by omega, by omega⟩ (fun c36 => ?_) (fun c36 => ?_)
                · try (exfalso; omega)
                  all_goals (
                    refine k_iinc C dX4_readToError_41 rfl (by decide) rfl ?_
                    refine k_goto (tgt := 9) C dX4_readToError_44 (by decide) ?_
                    have e2 : ((kk + 1 : Nat) : Int) = (kk : Int) + 1 := by omega
                    have q1 := ih (kk + 1) _ (by omega) (fun j hj => by
                      by_cases hjk : j = kk
                      · subst hjk
                        exact hok
                      · exact hpf j (by omega)) hR2 (hFk.tr hF2) (by omega)
                    rw [e2] at q1
                    exact q1)
                · try (exfalso; omega)
                  all_goals (
                    refine k_iload_n C dX4_readToError_39 rfl ?_
                    refine k_iret C hr dX4_readToError_40 ?_
                    first
                      | exact ⟨kk, congrArg (fun qq => some (aI qq)) (by omega), hk, hpf, Or.inl ⟨by omega, hRk⟩, hFk⟩
                      | exact ⟨kk, rfl, hk, hpf, Or.inr ⟨by omega, hok, _, _, _, _, k2⟩, hFk⟩)))
  exact loop9 (ln + 1).toNat 0 _ (by omega) (fun k hk => by omega) ⟨rb, rc, rd, hs_eq _ _ _, fun hh => absurd rfl hh⟩ (fun aaa haa => by repeat (first | rfl | refine hs_ne (by omega) ?_)) (by omega)

set_option maxRecDepth 20000 in
set_option maxHeartbeats 1000000 in
theorem ct_X4_separators (l : Launch) (D : va_G) (tc : Nat → ClassId) (base : Nat) (tt : Nat) (ln : Int) (htx : Int → Int) (hpp : AH) (hT : TxA hpp tt ln htx) : CT l D tc base yX4_separators cX4_separators 3 (some .int) 0 [aR tt] hpp (fun r h' => r = some (aI (cN htx ln.toNat)) ∧ hpp = h') := by
  refine CT.of [some (aR tt), none, none] (by decide +kernel) rfl (Nat.le_of_ble_eq_true rfl) ?_
  intro p e s m args below meth c C hr hnm
  obtain ⟨sg, g0, g1, hln, hsg, ra, rb, rc, rd, g2⟩ := id hT
  refine k_iconst C dX4_separators_0 ?_
  refine k_istore_n C dX4_separators_1 (by decide) rfl ?_
  refine k_iconst C dX4_separators_2 ?_
  refine k_istore_n C dX4_separators_3 (by decide) rfl ?_
  have loop4 : ∀ (n : Nat) (kk : Nat), (kk : Int) ≤ ln → ln - kk < (n : Int) → Wk D tc base 3 p l e (lvR 0) s m args below meth c 0 0 (MQ below (Qx D tc base (fun r h' => r = some (aI (cN htx ln.toNat)) ∧ hpp = h')) args s 0 0 (fun q => base ≤ q)) 4 [some (aR tt), some (aI (cN htx kk)), some (aI kk)] [] hpp := by
    intro n
    induction n with
    | zero =>
      intro kk hk hmu
      exfalso
      omega
    | succ n ih =>
      intro kk hk hmu
      refine k_iload_n C dX4_separators_4 rfl ?_
      refine k_aload_n C dX4_separators_5 rfl ?_
      refine k_get C (k := 0) inX4 (ci := 4) rfl (by decide) fl_X4_22 dX4_separators_6 (by repeat (first | exact hs_eq _ _ _ | refine hs_ne (by omega) ?_ | assumption)) rfl ?_
      refine k_icmp_ge (tgt := 38) C dX4_separators_9 (by decide) ⟨by omega, by omega⟩ ⟨by omega, by omega⟩ (fun c9 => ?_) (fun c9 => ?_)
      · try (exfalso; omega)
        all_goals (
          refine k_iload_n C dX4_separators_38 rfl ?_
          refine k_iret C hr dX4_separators_39 ?_
          refine ⟨?_, rfl⟩
          have e1 : ln.toNat = kk := by omega
          rw [e1])
      · try (exfalso; omega)
        all_goals (
          refine k_iload_n C dX4_separators_12 rfl ?_
          refine k_bipush C dX4_separators_13 (by decide +kernel) ?_
          refine k_icmp_ge (tgt := 38) C dX4_separators_15 (by decide) ⟨by omega, by omega⟩ ⟨by omega, by omega⟩ (fun c15 => ?_) (fun c15 => ?_)
          · try (exfalso; omega)
            all_goals (
              refine k_iload_n C dX4_separators_38 rfl ?_
              refine k_iret C hr dX4_separators_39 ?_
              refine ⟨?_, rfl⟩
              have e1 : ln.toNat = kk := by omega
              rw [e1])
          · try (exfalso; omega)
            all_goals (
              refine k_aload_n C dX4_separators_18 rfl ?_
              refine k_get C (k := 1) inX4 (ci := 4) rfl (by decide) fl_X4_9 dX4_separators_19 (by repeat (first | exact hs_eq _ _ _ | refine hs_ne (by omega) ?_ | assumption)) rfl ?_
              refine k_iload_n C dX4_separators_22 rfl ?_
              have hcs := hsg kk (by omega) (by omega)
              refine k_caload C dX4_separators_23 (by repeat (first | exact hs_eq _ _ _ | refine hs_ne (by omega) ?_ | assumption)) (by omega) (by omega) (by omega) ?_
              refine k_bipush C dX4_separators_24 (by decide +kernel) ?_
              refine k_icmp_ne (tgt := 32) C dX4_separators_26 (by decide) ⟨by omega, by omega⟩ ⟨by omega, by omega⟩ (fun c26 => ?_) (fun c26 => ?_)
              · try (exfalso; omega)
                all_goals (
                  refine k_iinc C dX4_separators_32 rfl (by decide) rfl ?_
                  refine k_goto (tgt := 4) C dX4_separators_35 (by decide) ?_
                  have e2 : ((kk + 1 : Nat) : Int) = (kk : Int) + 1 := by omega
                  have q1 := ih (kk + 1) (by omega) (by omega)
                  first
                    | (have e1 : cN htx (kk + 1) = cN htx kk + 1 := by
                         show cN htx kk + (if htx kk = 44 then 1 else 0) = _
                         rw [if_pos (by omega)]
                       rw [e1, e2] at q1
                       exact q1)
                    | (have e1 : cN htx (kk + 1) = cN htx kk + 0 := by
                         show cN htx kk + (if htx kk = 44 then 1 else 0) = _
                         rw [if_neg (by omega)]
                       rw [e1, Int.add_zero, e2] at q1
                       exact q1))
              · try (exfalso; omega)
                all_goals (
                  refine k_iinc C dX4_separators_29 rfl (by decide) rfl ?_
                  refine k_iinc C dX4_separators_32 rfl (by decide) rfl ?_
                  refine k_goto (tgt := 4) C dX4_separators_35 (by decide) ?_
                  have e2 : ((kk + 1 : Nat) : Int) = (kk : Int) + 1 := by omega
                  have q1 := ih (kk + 1) (by omega) (by omega)
                  first
                    | (have e1 : cN htx (kk + 1) = cN htx kk + 1 := by
                         show cN htx kk + (if htx kk = 44 then 1 else 0) = _
                         rw [if_pos (by omega)]
                       rw [e1, e2] at q1
                       exact q1)
                    | (have e1 : cN htx (kk + 1) = cN htx kk + 0 := by
                         show cN htx kk + (if htx kk = 44 then 1 else 0) = _
                         rw [if_neg (by omega)]
                       rw [e1, Int.add_zero, e2] at q1
                       exact q1))))
  exact loop4 (ln + 1).toNat 0 (by omega) (by omega)

set_option maxRecDepth 20000 in
set_option maxHeartbeats 1000000 in
theorem ct_X4_add (l : Launch) (D : va_G) (tc : Nat → ClassId) (base : Nat) (tt : Nat) (ln : Int) (htx : Int → Int) (hpp : AH) (hT : TxA hpp tt ln htx) (ww : Int) (hw : 33 ≤ ww ∧ ww ≤ 126) (hl : ln < 60) : CT l D tc base yX4_add cX4_add 2 none 0 [aR tt, aI ww] hpp (fun r h' => r = none ∧ TxA h' tt (ln + 1) (iu htx ln ww) ∧ Fr hpp h' tt 3) := by
  refine CT.of [some (aR tt), some (aI ww)] (by decide +kernel) rfl (Nat.le_of_ble_eq_true rfl) ?_
  intro p e s m args below meth c C hr hnm
  obtain ⟨sg, g0, g1, hln, hsg, ra, rb, rc, rd, g2⟩ := id hT
  refine k_aload_n C dX4_add_0 rfl ?_
  refine k_get C (k := 0) inX4 (ci := 4) rfl (by decide) fl_X4_22 dX4_add_1 (by repeat (first | exact hs_eq _ _ _ | refine hs_ne (by omega) ?_ | assumption)) rfl ?_
  refine k_if_lt (tgt := 16) C dX4_add_4 (by decide) ⟨by omega, by omega⟩ (fun c4 => ?_) (fun c4 => ?_)
  · try (exfalso; omega)
    all_goals (
      refine k_vret C hr dX4_add_16 ?_
      first
        | (exfalso; omega)
        | (refine ⟨rfl, ⟨iu sg ln ww, (by repeat (first | exact hs_eq _ _ _ | refine hs_ne (by omega) ?_ | assumption)), (by repeat (first | exact hs_eq _ _ _ | refine hs_ne (by omega) ?_ | assumption)), ⟨by omega, by omega⟩, fun k h0 h1 => ?_, ra, rb, rc, rd, (by repeat (first | exact hs_eq _ _ _ | refine hs_ne (by omega) ?_ | assumption))⟩, fun aaa haa => by repeat (first | rfl | refine hs_ne (by omega) ?_)⟩
           by_cases hk : k = ln
           · subst hk
             rw [iu_eq, iu_eq]
             exact ⟨rfl, hw⟩
           · rw [iu_ne hk, iu_ne hk]
             exact hsg k h0 (by omega)))
  · try (exfalso; omega)
    all_goals (
      refine k_aload_n C dX4_add_7 rfl ?_
      refine k_get C (k := 0) inX4 (ci := 4) rfl (by decide) fl_X4_22 dX4_add_8 (by repeat (first | exact hs_eq _ _ _ | refine hs_ne (by omega) ?_ | assumption)) rfl ?_
      refine k_bipush C dX4_add_11 (by decide +kernel) ?_
      refine k_icmp_lt (tgt := 17) C dX4_add_13 (by decide) ⟨by omega, by omega⟩ ⟨by omega, by omega⟩ (fun c13 => ?_) (fun c13 => ?_)
      · try (exfalso; omega)
        all_goals (
          refine k_aload_n C dX4_add_17 rfl ?_
          refine k_get C (k := 1) inX4 (ci := 4) rfl (by decide) fl_X4_9 dX4_add_18 (by repeat (first | exact hs_eq _ _ _ | refine hs_ne (by omega) ?_ | assumption)) rfl ?_
          refine k_aload_n C dX4_add_21 rfl ?_
          refine k_get C (k := 0) inX4 (ci := 4) rfl (by decide) fl_X4_22 dX4_add_22 (by repeat (first | exact hs_eq _ _ _ | refine hs_ne (by omega) ?_ | assumption)) rfl ?_
          refine k_iload_n C dX4_add_25 rfl ?_
          refine k_castore C dX4_add_26 (by repeat (first | exact hs_eq _ _ _ | refine hs_ne (by omega) ?_ | assumption)) (by omega) (by omega) (by omega) (by omega) (by omega) ?_
          refine k_aload_n C dX4_add_27 rfl ?_
          refine k_dup C dX4_add_28 rfl ?_
          refine k_get C (k := 0) inX4 (ci := 4) rfl (by decide) fl_X4_22 dX4_add_29 (by repeat (first | exact hs_eq _ _ _ | refine hs_ne (by omega) ?_ | assumption)) rfl ?_
          refine k_iconst C dX4_add_32 ?_
          refine k_iadd C dX4_add_33 ?_
          refine k_put C (k := 0) inX4 tyX4_ok nmX4 (ci := 4) rfl (by decide) fl_X4_22 rfl (Nat.le_of_ble_eq_true rfl) dX4_add_34 (by repeat (first | exact hs_eq _ _ _ | refine hs_ne (by omega) ?_ | assumption)) ?_
          refine k_vret C hr dX4_add_37 ?_
          first
            | (exfalso; omega)
            | (refine ⟨rfl, ⟨iu sg ln ww, (by repeat (first | exact hs_eq _ _ _ | refine hs_ne (by omega) ?_ | assumption)), (by repeat (first | exact hs_eq _ _ _ | refine hs_ne (by omega) ?_ | assumption)), ⟨by omega, by omega⟩, fun k h0 h1 => ?_, ra, rb, rc, rd, (by repeat (first | exact hs_eq _ _ _ | refine hs_ne (by omega) ?_ | assumption))⟩, fun aaa haa => by repeat (first | rfl | refine hs_ne (by omega) ?_)⟩
               by_cases hk : k = ln
               · subst hk
                 rw [iu_eq, iu_eq]
                 exact ⟨rfl, hw⟩
               · rw [iu_ne hk, iu_ne hk]
                 exact hsg k h0 (by omega)))
      · try (exfalso; omega)
        all_goals (
          refine k_vret C hr dX4_add_16 ?_
          first
            | (exfalso; omega)
            | (refine ⟨rfl, ⟨iu sg ln ww, (by repeat (first | exact hs_eq _ _ _ | refine hs_ne (by omega) ?_ | assumption)), (by repeat (first | exact hs_eq _ _ _ | refine hs_ne (by omega) ?_ | assumption)), ⟨by omega, by omega⟩, fun k h0 h1 => ?_, ra, rb, rc, rd, (by repeat (first | exact hs_eq _ _ _ | refine hs_ne (by omega) ?_ | assumption))⟩, fun aaa haa => by repeat (first | rfl | refine hs_ne (by omega) ?_)⟩
               by_cases hk : k = ln
               · subst hk
                 rw [iu_eq, iu_eq]
                 exact ⟨rfl, hw⟩
               · rw [iu_ne hk, iu_ne hk]
                 exact hsg k h0 (by omega))))
