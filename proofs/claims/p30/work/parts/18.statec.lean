set_option maxRecDepth 20000 in
set_option maxHeartbeats 1000000 in
theorem ct_X3_moveHands (l : Launch) (D : va_G) (tc : Nat → ClassId) (base : Nat) (oo : Nat) (zrr : RZ) (hpp : AH) (hS : SAt hpp oo zrr) (hi : zInv zrr) (hm : zrr 13 ≤ 100000) (ha : zrr 18 + zrr 19 ≤ zrr 13) : CT l D tc base yX3_moveHands cX3_moveHands 1 (some .boolean) 1 [aR oo] hpp (fun r h' => (r = some (aI 1) ∧ SAt h' oo (zThree zrr) ∧ Fr hpp h' oo 15 ∧ zHow zrr = 0) ∨ (r = some (aI 0) ∧ SAt h' oo (zThree zrr) ∧ Fr hpp h' oo 15 ∧ ¬ zHow zrr = 0)) := by
  refine CT.of [some (aR oo)] (by decide +kernel) rfl (Nat.le_of_ble_eq_true rfl) ?_
  intro p e s m args below meth c C hr hnm
  obtain ⟨f1, f2, f3, w1, w2, w3, w4, w5, d1, d2, se, ⟨g0, g1, g2, g3, g4, g5, g6, g7, g8, g9, g10, g11, g12, g13, g14⟩, hsr⟩ := id hS
  obtain ⟨r1, r2, r3, r4⟩ := id hsr
  obtain ⟨⟨v0, v1, v2, v9, v10, v11, v12, v13, v21, v52, v61, v62, v63, v64, v65, v66⟩, hwi, hde⟩ := id hi
  have s0 : se 0 = zrr 61 := r4 0 (by omega) (by omega)
  have s1 : se 1 = zrr 62 := r4 1 (by omega) (by omega)
  have s2 : se 2 = zrr 63 := r4 2 (by omega) (by omega)
  have s3 : se 3 = zrr 64 := r4 3 (by omega) (by omega)
  have s4 : se 4 = zrr 65 := r4 4 (by omega) (by omega)
  have s5 : se 5 = zrr 66 := r4 5 (by omega) (by omega)
  refine k_aload_n C dX3_moveHands_0 rfl ?_
  refine k_get C (k := 6) inX3 (ci := 3) rfl (by decide) fl_X3_45 dX3_moveHands_1 (by repeat (first | exact hs_eq _ _ _ | refine hs_ne (by omega) ?_ | assumption)) rfl ?_
  refine k_if_ne (tgt := 19) C dX3_moveHands_4 (by decide) ⟨by omega, by omega⟩ (fun c4 => ?_) (fun c4 => ?_)
  · try (exfalso; omega)
    all_goals (
      refine k_aload_n C dX3_moveHands_19 rfl ?_
      refine k_dup C dX3_moveHands_20 rfl ?_
      refine k_get C (k := 6) inX3 (ci := 3) rfl (by decide) fl_X3_45 dX3_moveHands_21 (by repeat (first | exact hs_eq _ _ _ | refine hs_ne (by omega) ?_ | assumption)) rfl ?_
      refine k_iconst C dX3_moveHands_24 ?_
      refine k_isub C dX3_moveHands_25 ?_
      refine k_put C (k := 6) inX3 tyX3_ok nmX3 (ci := 3) rfl (by decide) fl_X3_45 rfl (Nat.le_of_ble_eq_true rfl) dX3_moveHands_26 (by repeat (first | exact hs_eq _ _ _ | refine hs_ne (by omega) ?_ | assumption)) ?_
      refine k_aload_n C dX3_moveHands_29 rfl ?_
      refine k_callV C (n := 0) (as := []) (ct_X3_isSlippery l D tc base oo _ _ _ _ _ _ _ _ _ _ _ _ _ _ _ _ _ (by repeat (first | exact hs_eq _ _ _ | refine hs_ne (by omega) ?_ | assumption)) se rfl (by repeat (first | exact hs_eq _ _ _ | refine hs_ne (by omega) ?_ | assumption)) ⟨by omega, by omega⟩ ⟨by omega, by omega⟩ ⟨by omega, by omega⟩) ml_X3_165 im_X3_isSlippery se_X3_isSlippery ini_X3 co_X3_isSlippery ⟨rfl, by decide, by decide, by decide +kernel⟩ rfl (ci := 3) rfl (by repeat (first | exact hs_eq _ _ _ | refine hs_ne (by omega) ?_ | assumption)) ⟨by decide, by decide⟩ rfl (Nat.le_of_ble_eq_true rfl) ⟨Nat.zero_le _, Nat.zero_le _⟩ dX3_moveHands_30 ?_
      rintro _ _ (⟨rfl, rfl, hq⟩ | ⟨rfl, rfl, hq⟩)
      · skip
        refine k_if_eq (tgt := 42) C dX3_moveHands_33 (by decide) ⟨by omega, by omega⟩ (fun c33 => ?_) (fun c33 => ?_)
        · try (exfalso; omega)
          all_goals (
            refine k_aload_n C dX3_moveHands_42 rfl ?_
            refine k_aload_n C dX3_moveHands_43 rfl ?_
            refine k_get C (k := 5) inX3 (ci := 3) rfl (by decide) fl_X3_62 dX3_moveHands_44 (by repeat (first | exact hs_eq _ _ _ | refine hs_ne (by omega) ?_ | assumption)) rfl ?_
            refine k_iconst C dX3_moveHands_47 ?_
            refine k_iadd C dX3_moveHands_48 ?_
            refine k_sipush C dX3_moveHands_49 (by decide +kernel) ?_
            refine k_irem C dX3_moveHands_52 (by omega) (by omega) (by omega) (by omega) ?_
            refine k_put C (k := 5) inX3 tyX3_ok nmX3 (ci := 3) rfl (by decide) fl_X3_62 rfl (Nat.le_of_ble_eq_true rfl) dX3_moveHands_53 (by repeat (first | exact hs_eq _ _ _ | refine hs_ne (by omega) ?_ | assumption)) ?_
            refine k_iconst C dX3_moveHands_56 ?_
            refine k_zret C hr dX3_moveHands_57 (by omega) ?_
            first
              | (have hz : zThree zrr = iu zrr 19 (zrr 19 + 1) := if_pos (by omega)
                 refine Or.inr ⟨rfl, ?_, fun aaa haa => by repeat (first | rfl | refine hs_ne (by omega) ?_), by rw [zHow, if_pos (by omega)]; omega⟩
                 rw [hz]
                 refine ⟨f1, f2, f3, w1, w2, w3, w4, w5, d1, d2, se, ⟨by (try simp (disch := omega) only [iu_ne, iu_eq, zWind_ne, zTake_ne, zChim_ne, zChim_16]); repeat (first | exact hs_eq _ _ _ | refine hs_ne (by omega) ?_ | assumption), (by repeat (first | exact hs_eq _ _ _ | refine hs_ne (by omega) ?_ | assumption)), (by repeat (first | exact hs_eq _ _ _ | refine hs_ne (by omega) ?_ | assumption)), (by repeat (first | exact hs_eq _ _ _ | refine hs_ne (by omega) ?_ | assumption)), (by repeat (first | exact hs_eq _ _ _ | refine hs_ne (by omega) ?_ | assumption)), by (try simp (disch := omega) only [iu_ne, iu_eq, zWind_ne, zTake_ne, zChim_ne, zChim_16]); repeat (first | exact hs_eq _ _ _ | refine hs_ne (by omega) ?_ | assumption), (by repeat (first | exact hs_eq _ _ _ | refine hs_ne (by omega) ?_ | assumption)), (by repeat (first | exact hs_eq _ _ _ | refine hs_ne (by omega) ?_ | assumption)), (by repeat (first | exact hs_eq _ _ _ | refine hs_ne (by omega) ?_ | assumption)), (by repeat (first | exact hs_eq _ _ _ | refine hs_ne (by omega) ?_ | assumption)), (by repeat (first | exact hs_eq _ _ _ | refine hs_ne (by omega) ?_ | assumption)), by (try simp (disch := omega) only [iu_ne, iu_eq, zWind_ne, zTake_ne, zChim_ne, zChim_16]); repeat (first | exact hs_eq _ _ _ | refine hs_ne (by omega) ?_ | assumption), (by repeat (first | exact hs_eq _ _ _ | refine hs_ne (by omega) ?_ | assumption)), (by repeat (first | exact hs_eq _ _ _ | refine hs_ne (by omega) ?_ | assumption)), (by repeat (first | exact hs_eq _ _ _ | refine hs_ne (by omega) ?_ | assumption))⟩, ?_⟩
                 exact hsr.free (by omega))
              | (have hz : zThree zrr = iu (iu (iu zrr 9 (zrr 9 - 1)) 18 (zrr 18 + 1)) 12 (zrr 12 + if (zrr 18 + 1) % 5 = 0 ∧ zrr 12 < 20 then 1 else 0) := by rw [zThree, if_neg (by omega), if_pos (by omega)]
                 refine Or.inr ⟨rfl, ?_, fun aaa haa => by repeat (first | rfl | refine hs_ne (by omega) ?_), by rw [zHow, if_neg (by omega), if_pos (by omega)]; omega⟩
                 rw [hz]
                 refine ⟨f1, f2, f3, w1, w2, w3, w4, w5, d1, d2, se, ⟨by (try simp (disch := omega) only [iu_ne, iu_eq, zWind_ne, zTake_ne, zChim_ne, zChim_16]); repeat (first | exact hs_eq _ _ _ | refine hs_ne (by omega) ?_ | assumption), (by repeat (first | exact hs_eq _ _ _ | refine hs_ne (by omega) ?_ | assumption)), (by repeat (first | exact hs_eq _ _ _ | refine hs_ne (by omega) ?_ | assumption)), (by repeat (first | exact hs_eq _ _ _ | refine hs_ne (by omega) ?_ | assumption)), (by repeat (first | exact hs_eq _ _ _ | refine hs_ne (by omega) ?_ | assumption)), by (try simp (disch := omega) only [iu_ne, iu_eq, zWind_ne, zTake_ne, zChim_ne, zChim_16]); repeat (first | exact hs_eq _ _ _ | refine hs_ne (by omega) ?_ | assumption), (by repeat (first | exact hs_eq _ _ _ | refine hs_ne (by omega) ?_ | assumption)), (by repeat (first | exact hs_eq _ _ _ | refine hs_ne (by omega) ?_ | assumption)), (by repeat (first | exact hs_eq _ _ _ | refine hs_ne (by omega) ?_ | assumption)), (by repeat (first | exact hs_eq _ _ _ | refine hs_ne (by omega) ?_ | assumption)), (by repeat (first | exact hs_eq _ _ _ | refine hs_ne (by omega) ?_ | assumption)), by (try simp (disch := omega) only [iu_ne, iu_eq, zWind_ne, zTake_ne, zChim_ne, zChim_16]); repeat (first | exact hs_eq _ _ _ | refine hs_ne (by omega) ?_ | assumption), (by repeat (first | exact hs_eq _ _ _ | refine hs_ne (by omega) ?_ | assumption)), (by repeat (first | exact hs_eq _ _ _ | refine hs_ne (by omega) ?_ | assumption)), (by repeat (first | exact hs_eq _ _ _ | refine hs_ne (by omega) ?_ | assumption))⟩, ?_⟩
                 exact ((hsr.free (by omega)).free (by omega)).free (by omega))
              | (have hz : zThree zrr = iu (iu zrr 9 (zrr 9 - 1)) 10 ((zrr 10 + 1) % 720) := by rw [zThree, if_neg (by omega), if_neg (by omega)]
                 refine Or.inl ⟨rfl, ?_, fun aaa haa => by repeat (first | rfl | refine hs_ne (by omega) ?_), by rw [zHow, if_neg (by omega), if_neg (by omega)]⟩
                 rw [hz]
                 refine ⟨f1, f2, f3, w1, w2, w3, w4, w5, d1, d2, se, ⟨by (try simp (disch := omega) only [iu_ne, iu_eq, zWind_ne, zTake_ne, zChim_ne, zChim_16]); repeat (first | exact hs_eq _ _ _ | refine hs_ne (by omega) ?_ | assumption), (by repeat (first | exact hs_eq _ _ _ | refine hs_ne (by omega) ?_ | assumption)), (by repeat (first | exact hs_eq _ _ _ | refine hs_ne (by omega) ?_ | assumption)), (by repeat (first | exact hs_eq _ _ _ | refine hs_ne (by omega) ?_ | assumption)), (by repeat (first | exact hs_eq _ _ _ | refine hs_ne (by omega) ?_ | assumption)), by (try simp (disch := omega) only [iu_ne, iu_eq, zWind_ne, zTake_ne, zChim_ne, zChim_16]); repeat (first | exact hs_eq _ _ _ | refine hs_ne (by omega) ?_ | assumption), (by repeat (first | exact hs_eq _ _ _ | refine hs_ne (by omega) ?_ | assumption)), (by repeat (first | exact hs_eq _ _ _ | refine hs_ne (by omega) ?_ | assumption)), (by repeat (first | exact hs_eq _ _ _ | refine hs_ne (by omega) ?_ | assumption)), (by repeat (first | exact hs_eq _ _ _ | refine hs_ne (by omega) ?_ | assumption)), (by repeat (first | exact hs_eq _ _ _ | refine hs_ne (by omega) ?_ | assumption)), by (try simp (disch := omega) only [iu_ne, iu_eq, zWind_ne, zTake_ne, zChim_ne, zChim_16]); repeat (first | exact hs_eq _ _ _ | refine hs_ne (by omega) ?_ | assumption), (by repeat (first | exact hs_eq _ _ _ | refine hs_ne (by omega) ?_ | assumption)), (by repeat (first | exact hs_eq _ _ _ | refine hs_ne (by omega) ?_ | assumption)), (by repeat (first | exact hs_eq _ _ _ | refine hs_ne (by omega) ?_ | assumption))⟩, ?_⟩
                 exact (hsr.free (by omega)).free (by omega)))
        · try (exfalso; omega)
          all_goals (
            refine k_aload_n C dX3_moveHands_36 rfl ?_
            refine k_callV C (n := 0) (as := []) (ct_X3_slip l D tc base oo _ _ _ _ _ _ _ _ _ _ _ _ _ _ _ _ _ (by repeat (first | exact hs_eq _ _ _ | refine hs_ne (by omega) ?_ | assumption)) ⟨by omega, by omega⟩ ⟨by omega, by omega⟩) ml_X3_168 im_X3_slip se_X3_slip ini_X3 co_X3_slip ⟨rfl, by decide, by decide, by decide +kernel⟩ rfl (ci := 3) rfl (by repeat (first | exact hs_eq _ _ _ | refine hs_ne (by omega) ?_ | assumption)) ⟨by decide, by decide⟩ rfl (Nat.le_of_ble_eq_true rfl) ⟨Nat.zero_le _, Nat.zero_le _⟩ dX3_moveHands_37 ?_
            rintro _ _ ⟨rfl, rfl⟩
            refine k_iconst C dX3_moveHands_40 ?_
            refine k_zret C hr dX3_moveHands_41 (by omega) ?_
            first
              | (have hz : zThree zrr = iu zrr 19 (zrr 19 + 1) := if_pos (by omega)
                 refine Or.inr ⟨rfl, ?_, fun aaa haa => by repeat (first | rfl | refine hs_ne (by omega) ?_), by rw [zHow, if_pos (by omega)]; omega⟩
                 rw [hz]
                 refine ⟨f1, f2, f3, w1, w2, w3, w4, w5, d1, d2, se, ⟨by (try simp (disch := omega) only [iu_ne, iu_eq, zWind_ne, zTake_ne, zChim_ne, zChim_16]); repeat (first | exact hs_eq _ _ _ | refine hs_ne (by omega) ?_ | assumption), (by repeat (first | exact hs_eq _ _ _ | refine hs_ne (by omega) ?_ | assumption)), (by repeat (first | exact hs_eq _ _ _ | refine hs_ne (by omega) ?_ | assumption)), (by repeat (first | exact hs_eq _ _ _ | refine hs_ne (by omega) ?_ | assumption)), (by repeat (first | exact hs_eq _ _ _ | refine hs_ne (by omega) ?_ | assumption)), by (try simp (disch := omega) only [iu_ne, iu_eq, zWind_ne, zTake_ne, zChim_ne, zChim_16]); repeat (first | exact hs_eq _ _ _ | refine hs_ne (by omega) ?_ | assumption), (by repeat (first | exact hs_eq _ _ _ | refine hs_ne (by omega) ?_ | assumption)), (by repeat (first | exact hs_eq _ _ _ | refine hs_ne (by omega) ?_ | assumption)), (by repeat (first | exact hs_eq _ _ _ | refine hs_ne (by omega) ?_ | assumption)), (by repeat (first | exact hs_eq _ _ _ | refine hs_ne (by omega) ?_ | assumption)), (by repeat (first | exact hs_eq _ _ _ | refine hs_ne (by omega) ?_ | assumption)), by (try simp (disch := omega) only [iu_ne, iu_eq, zWind_ne, zTake_ne, zChim_ne, zChim_16]); repeat (first | exact hs_eq _ _ _ | refine hs_ne (by omega) ?_ | assumption), (by repeat (first | exact hs_eq _ _ _ | refine hs_ne (by omega) ?_ | assumption)), (by repeat (first | exact hs_eq _ _ _ | refine hs_ne (by omega) ?_ | assumption)), (by repeat (first | exact hs_eq _ _ _ | refine hs_ne (by omega) ?_ | assumption))⟩, ?_⟩
                 exact hsr.free (by omega))
              | (have hz : zThree zrr = iu (iu (iu zrr 9 (zrr 9 - 1)) 18 (zrr 18 + 1)) 12 (zrr 12 + if (zrr 18 + 1) % 5 = 0 ∧ zrr 12 < 20 then 1 else 0) := by rw [zThree, if_neg (by omega), if_pos (by omega)]
                 refine Or.inr ⟨rfl, ?_, fun aaa haa => by repeat (first | rfl | refine hs_ne (by omega) ?_), by rw [zHow, if_neg (by omega), if_pos (by omega)]; omega⟩
                 rw [hz]
                 refine ⟨f1, f2, f3, w1, w2, w3, w4, w5, d1, d2, se, ⟨by (try simp (disch := omega) only [iu_ne, iu_eq, zWind_ne, zTake_ne, zChim_ne, zChim_16]); repeat (first | exact hs_eq _ _ _ | refine hs_ne (by omega) ?_ | assumption), (by repeat (first | exact hs_eq _ _ _ | refine hs_ne (by omega) ?_ | assumption)), (by repeat (first | exact hs_eq _ _ _ | refine hs_ne (by omega) ?_ | assumption)), (by repeat (first | exact hs_eq _ _ _ | refine hs_ne (by omega) ?_ | assumption)), (by repeat (first | exact hs_eq _ _ _ | refine hs_ne (by omega) ?_ | assumption)), by (try simp (disch := omega) only [iu_ne, iu_eq, zWind_ne, zTake_ne, zChim_ne, zChim_16]); repeat (first | exact hs_eq _ _ _ | refine hs_ne (by omega) ?_ | assumption), (by repeat (first | exact hs_eq _ _ _ | refine hs_ne (by omega) ?_ | assumption)), (by repeat (first | exact hs_eq _ _ _ | refine hs_ne (by omega) ?_ | assumption)), (by repeat (first | exact hs_eq _ _ _ | refine hs_ne (by omega) ?_ | assumption)), (by repeat (first | exact hs_eq _ _ _ | refine hs_ne (by omega) ?_ | assumption)), (by repeat (first | exact hs_eq _ _ _ | refine hs_ne (by omega) ?_ | assumption)), by (try simp (disch := omega) only [iu_ne, iu_eq, zWind_ne, zTake_ne, zChim_ne, zChim_16]); repeat (first | exact hs_eq _ _ _ | refine hs_ne (by omega) ?_ | assumption), (by repeat (first | exact hs_eq _ _ _ | refine hs_ne (by omega) ?_ | assumption)), (by repeat (first | exact hs_eq _ _ _ | refine hs_ne (by omega) ?_ | assumption)), (by repeat (first | exact hs_eq _ _ _ | refine hs_ne (by omega) ?_ | assumption))⟩, ?_⟩
                 exact ((hsr.free (by omega)).free (by omega)).free (by omega))
              | (have hz : zThree zrr = iu (iu zrr 9 (zrr 9 - 1)) 10 ((zrr 10 + 1) % 720) := by rw [zThree, if_neg (by omega), if_neg (by omega)]
                 refine Or.inl ⟨rfl, ?_, fun aaa haa => by repeat (first | rfl | refine hs_ne (by omega) ?_), by rw [zHow, if_neg (by omega), if_neg (by omega)]⟩
                 rw [hz]
                 refine ⟨f1, f2, f3, w1, w2, w3, w4, w5, d1, d2, se, ⟨by (try simp (disch := omega) only [iu_ne, iu_eq, zWind_ne, zTake_ne, zChim_ne, zChim_16]); repeat (first | exact hs_eq _ _ _ | refine hs_ne (by omega) ?_ | assumption), (by repeat (first | exact hs_eq _ _ _ | refine hs_ne (by omega) ?_ | assumption)), (by repeat (first | exact hs_eq _ _ _ | refine hs_ne (by omega) ?_ | assumption)), (by repeat (first | exact hs_eq _ _ _ | refine hs_ne (by omega) ?_ | assumption)), (by repeat (first | exact hs_eq _ _ _ | refine hs_ne (by omega) ?_ | assumption)), by (try simp (disch := omega) only [iu_ne, iu_eq, zWind_ne, zTake_ne, zChim_ne, zChim_16]); repeat (first | exact hs_eq _ _ _ | refine hs_ne (by omega) ?_ | assumption), (by repeat (first | exact hs_eq _ _ _ | refine hs_ne (by omega) ?_ | assumption)), (by repeat (first | exact hs_eq _ _ _ | refine hs_ne (by omega) ?_ | assumption)), (by repeat (first | exact hs_eq _ _ _ | refine hs_ne (by omega) ?_ | assumption)), (by repeat (first | exact hs_eq _ _ _ | refine hs_ne (by omega) ?_ | assumption)), (by repeat (first | exact hs_eq _ _ _ | refine hs_ne (by omega) ?_ | assumption)), by (try simp (disch := omega) only [iu_ne, iu_eq, zWind_ne, zTake_ne, zChim_ne, zChim_16]); repeat (first | exact hs_eq _ _ _ | refine hs_ne (by omega) ?_ | assumption), (by repeat (first | exact hs_eq _ _ _ | refine hs_ne (by omega) ?_ | assumption)), (by repeat (first | exact hs_eq _ _ _ | refine hs_ne (by omega) ?_ | assumption)), (by repeat (first | exact hs_eq _ _ _ | refine hs_ne (by omega) ?_ | assumption))⟩, ?_⟩
                 exact (hsr.free (by omega)).free (by omega)))
      · skip
        refine k_if_eq (tgt := 42) C dX3_moveHands_33 (by decide) ⟨by omega, by omega⟩ (fun c33 => ?_) (fun c33 => ?_)
        · try (exfalso; omega)
          all_goals (
            refine k_aload_n C dX3_moveHands_42 rfl ?_
            refine k_aload_n C dX3_moveHands_43 rfl ?_
            refine k_get C (k := 5) inX3 (ci := 3) rfl (by decide) fl_X3_62 dX3_moveHands_44 (by repeat (first | exact hs_eq _ _ _ | refine hs_ne (by omega) ?_ | assumption)) rfl ?_
            refine k_iconst C dX3_moveHands_47 ?_
            refine k_iadd C dX3_moveHands_48 ?_
            refine k_sipush C dX3_moveHands_49 (by decide +kernel) ?_
            refine k_irem C dX3_moveHands_52 (by omega) (by omega) (by omega) (by omega) ?_
            refine k_put C (k := 5) inX3 tyX3_ok nmX3 (ci := 3) rfl (by decide) fl_X3_62 rfl (Nat.le_of_ble_eq_true rfl) dX3_moveHands_53 (by repeat (first | exact hs_eq _ _ _ | refine hs_ne (by omega) ?_ | assumption)) ?_
            refine k_iconst C dX3_moveHands_56 ?_
            refine k_zret C hr dX3_moveHands_57 (by omega) ?_
            first
              | (have hz : zThree zrr = iu zrr 19 (zrr 19 + 1) := if_pos (by omega)
                 refine Or.inr ⟨rfl, ?_, fun aaa haa => by repeat (first | rfl | refine hs_ne (by omega) ?_), by rw [zHow, if_pos (by omega)]; omega⟩
                 rw [hz]
                 refine ⟨f1, f2, f3, w1, w2, w3, w4, w5, d1, d2, se, ⟨by (try simp (disch := omega) only [iu_ne, iu_eq, zWind_ne, zTake_ne, zChim_ne, zChim_16]); repeat (first | exact hs_eq _ _ _ | refine hs_ne (by omega) ?_ | assumption), (by repeat (first | exact hs_eq _ _ _ | refine hs_ne (by omega) ?_ | assumption)), (by repeat (first | exact hs_eq _ _ _ | refine hs_ne (by omega) ?_ | assumption)), (by repeat (first | exact hs_eq _ _ _ | refine hs_ne (by omega) ?_ | assumption)), (by repeat (first | exact hs_eq _ _ _ | refine hs_ne (by omega) ?_ | assumption)), by (try simp (disch := omega) only [iu_ne, iu_eq, zWind_ne, zTake_ne, zChim_ne, zChim_16]); repeat (first | exact hs_eq _ _ _ | refine hs_ne (by omega) ?_ | assumption), (by repeat (first | exact hs_eq _ _ _ | refine hs_ne (by omega) ?_ | assumption)), (by repeat (first | exact hs_eq _ _ _ | refine hs_ne (by omega) ?_ | assumption)), (by repeat (first | exact hs_eq _ _ _ | refine hs_ne (by omega) ?_ | assumption)), (by repeat (first | exact hs_eq _ _ _ | refine hs_ne (by omega) ?_ | assumption)), (by repeat (first | exact hs_eq _ _ _ | refine hs_ne (by omega) ?_ | assumption)), by (try simp (disch := omega) only [iu_ne, iu_eq, zWind_ne, zTake_ne, zChim_ne, zChim_16]); repeat (first | exact hs_eq _ _ _ | refine hs_ne (by omega) ?_ | assumption), (by repeat (first | exact hs_eq _ _ _ | refine hs_ne (by omega) ?_ | assumption)), (by repeat (first | exact hs_eq _ _ _ | refine hs_ne (by omega) ?_ | assumption)), (by repeat (first | exact hs_eq _ _ _ | refine hs_ne (by omega) ?_ | assumption))⟩, ?_⟩
                 exact hsr.free (by omega))
              | (have hz : zThree zrr = iu (iu (iu zrr 9 (zrr 9 - 1)) 18 (zrr 18 + 1)) 12 (zrr 12 + if (zrr 18 + 1) % 5 = 0 ∧ zrr 12 < 20 then 1 else 0) := by rw [zThree, if_neg (by omega), if_pos (by omega)]
                 refine Or.inr ⟨rfl, ?_, fun aaa haa => by repeat (first | rfl | refine hs_ne (by omega) ?_), by rw [zHow, if_neg (by omega), if_pos (by omega)]; omega⟩
                 rw [hz]
                 refine ⟨f1, f2, f3, w1, w2, w3, w4, w5, d1, d2, se, ⟨by (try simp (disch := omega) only [iu_ne, iu_eq, zWind_ne, zTake_ne, zChim_ne, zChim_16]); repeat (first | exact hs_eq _ _ _ | refine hs_ne (by omega) ?_ | assumption), (by repeat (first | exact hs_eq _ _ _ | refine hs_ne (by omega) ?_ | assumption)), (by repeat (first | exact hs_eq _ _ _ | refine hs_ne (by omega) ?_ | assumption)), (by repeat (first | exact hs_eq _ _ _ | refine hs_ne (by omega) ?_ | assumption)), (by repeat (first | exact hs_eq _ _ _ | refine hs_ne (by omega) ?_ | assumption)), by (try simp (disch := omega) only [iu_ne, iu_eq, zWind_ne, zTake_ne, zChim_ne, zChim_16]); repeat (first | exact hs_eq _ _ _ | refine hs_ne (by omega) ?_ | assumption), (by repeat (first | exact hs_eq _ _ _ | refine hs_ne (by omega) ?_ | assumption)), (by repeat (first | exact hs_eq _ _ _ | refine hs_ne (by omega) ?_ | assumption)), (by repeat (first | exact hs_eq _ _ _ | refine hs_ne (by omega) ?_ | assumption)), (by repeat (first | exact hs_eq _ _ _ | refine hs_ne (by omega) ?_ | assumption)), (by repeat (first | exact hs_eq _ _ _ | refine hs_ne (by omega) ?_ | assumption)), by (try simp (disch := omega) only [iu_ne, iu_eq, zWind_ne, zTake_ne, zChim_ne, zChim_16]); repeat (first | exact hs_eq _ _ _ | refine hs_ne (by omega) ?_ | assumption), (by repeat (first | exact hs_eq _ _ _ | refine hs_ne (by omega) ?_ | assumption)), (by repeat (first | exact hs_eq _ _ _ | refine hs_ne (by omega) ?_ | assumption)), (by repeat (first | exact hs_eq _ _ _ | refine hs_ne (by omega) ?_ | assumption))⟩, ?_⟩
                 exact ((hsr.free (by omega)).free (by omega)).free (by omega))
              | (have hz : zThree zrr = iu (iu zrr 9 (zrr 9 - 1)) 10 ((zrr 10 + 1) % 720) := by rw [zThree, if_neg (by omega), if_neg (by omega)]
                 refine Or.inl ⟨rfl, ?_, fun aaa haa => by repeat (first | rfl | refine hs_ne (by omega) ?_), by rw [zHow, if_neg (by omega), if_neg (by omega)]⟩
                 rw [hz]
                 refine ⟨f1, f2, f3, w1, w2, w3, w4, w5, d1, d2, se, ⟨by (try simp (disch := omega) only [iu_ne, iu_eq, zWind_ne, zTake_ne, zChim_ne, zChim_16]); repeat (first | exact hs_eq _ _ _ | refine hs_ne (by omega) ?_ | assumption), (by repeat (first | exact hs_eq _ _ _ | refine hs_ne (by omega) ?_ | assumption)), (by repeat (first | exact hs_eq _ _ _ | refine hs_ne (by omega) ?_ | assumption)), (by repeat (first | exact hs_eq _ _ _ | refine hs_ne (by omega) ?_ | assumption)), (by repeat (first | exact hs_eq _ _ _ | refine hs_ne (by omega) ?_ | assumption)), by (try simp (disch := omega) only [iu_ne, iu_eq, zWind_ne, zTake_ne, zChim_ne, zChim_16]); repeat (first | exact hs_eq _ _ _ | refine hs_ne (by omega) ?_ | assumption), (by repeat (first | exact hs_eq _ _ _ | refine hs_ne (by omega) ?_ | assumption)), (by repeat (first | exact hs_eq _ _ _ | refine hs_ne (by omega) ?_ | assumption)), (by repeat (first | exact hs_eq _ _ _ | refine hs_ne (by omega) ?_ | assumption)), (by repeat (first | exact hs_eq _ _ _ | refine hs_ne (by omega) ?_ | assumption)), (by repeat (first | exact hs_eq _ _ _ | refine hs_ne (by omega) ?_ | assumption)), by (try simp (disch := omega) only [iu_ne, iu_eq, zWind_ne, zTake_ne, zChim_ne, zChim_16]); repeat (first | exact hs_eq _ _ _ | refine hs_ne (by omega) ?_ | assumption), (by repeat (first | exact hs_eq _ _ _ | refine hs_ne (by omega) ?_ | assumption)), (by repeat (first | exact hs_eq _ _ _ | refine hs_ne (by omega) ?_ | assumption)), (by repeat (first | exact hs_eq _ _ _ | refine hs_ne (by omega) ?_ | assumption))⟩, ?_⟩
                 exact (hsr.free (by omega)).free (by omega)))
        · try (exfalso; omega)
          all_goals (
            refine k_aload_n C dX3_moveHands_36 rfl ?_
            refine k_callV C (n := 0) (as := []) (ct_X3_slip l D tc base oo _ _ _ _ _ _ _ _ _ _ _ _ _ _ _ _ _ (by repeat (first | exact hs_eq _ _ _ | refine hs_ne (by omega) ?_ | assumption)) ⟨by omega, by omega⟩ ⟨by omega, by omega⟩) ml_X3_168 im_X3_slip se_X3_slip ini_X3 co_X3_slip ⟨rfl, by decide, by decide, by decide +kernel⟩ rfl (ci := 3) rfl (by repeat (first | exact hs_eq _ _ _ | refine hs_ne (by omega) ?_ | assumption)) ⟨by decide, by decide⟩ rfl (Nat.le_of_ble_eq_true rfl) ⟨Nat.zero_le _, Nat.zero_le _⟩ dX3_moveHands_37 ?_
            rintro _ _ ⟨rfl, rfl⟩
            refine k_iconst C dX3_moveHands_40 ?_
            refine k_zret C hr dX3_moveHands_41 (by omega) ?_
            first
              | (have hz : zThree zrr = iu zrr 19 (zrr 19 + 1) := if_pos (by omega)
                 refine Or.inr ⟨rfl, ?_, fun aaa haa => by repeat (first | rfl | refine hs_ne (by omega) ?_), by rw [zHow, if_pos (by omega)]; omega⟩
                 rw [hz]
                 refine ⟨f1, f2, f3, w1, w2, w3, w4, w5, d1, d2, se, ⟨by (try simp (disch := omega) only [iu_ne, iu_eq, zWind_ne, zTake_ne, zChim_ne, zChim_16]); repeat (first | exact hs_eq _ _ _ | refine hs_ne (by omega) ?_ | assumption), (by repeat (first | exact hs_eq _ _ _ | refine hs_ne (by omega) ?_ | assumption)), (by repeat (first | exact hs_eq _ _ _ | refine hs_ne (by omega) ?_ | assumption)), (by repeat (first | exact hs_eq _ _ _ | refine hs_ne (by omega) ?_ | assumption)), (by repeat (first | exact hs_eq _ _ _ | refine hs_ne (by omega) ?_ | assumption)), by (try simp (disch := omega) only [iu_ne, iu_eq, zWind_ne, zTake_ne, zChim_ne, zChim_16]); repeat (first | exact hs_eq _ _ _ | refine hs_ne (by omega) ?_ | assumption), (by repeat (first | exact hs_eq _ _ _ | refine hs_ne (by omega) ?_ | assumption)), (by repeat (first | exact hs_eq _ _ _ | refine hs_ne (by omega) ?_ | assumption)), (by repeat (first | exact hs_eq _ _ _ | refine hs_ne (by omega) ?_ | assumption)), (by repeat (first | exact hs_eq _ _ _ | refine hs_ne (by omega) ?_ | assumption)), (by repeat (first | exact hs_eq _ _ _ | refine hs_ne (by omega) ?_ | assumption)), by (try simp (disch := omega) only [iu_ne, iu_eq, zWind_ne, zTake_ne, zChim_ne, zChim_16]); repeat (first | exact hs_eq _ _ _ | refine hs_ne (by omega) ?_ | assumption), (by repeat (first | exact hs_eq _ _ _ | refine hs_ne (by omega) ?_ | assumption)), (by repeat (first | exact hs_eq _ _ _ | refine hs_ne (by omega) ?_ | assumption)), (by repeat (first | exact hs_eq _ _ _ | refine hs_ne (by omega) ?_ | assumption))⟩, ?_⟩
                 exact hsr.free (by omega))
              | (have hz : zThree zrr = iu (iu (iu zrr 9 (zrr 9 - 1)) 18 (zrr 18 + 1)) 12 (zrr 12 + if (zrr 18 + 1) % 5 = 0 ∧ zrr 12 < 20 then 1 else 0) := by rw [zThree, if_neg (by omega), if_pos (by omega)]
                 refine Or.inr ⟨rfl, ?_, fun aaa haa => by repeat (first | rfl | refine hs_ne (by omega) ?_), by rw [zHow, if_neg (by omega), if_pos (by omega)]; omega⟩
                 rw [hz]
                 refine ⟨f1, f2, f3, w1, w2, w3, w4, w5, d1, d2, se, ⟨by (try simp (disch := omega) only [iu_ne, iu_eq, zWind_ne, zTake_ne, zChim_ne, zChim_16]); repeat (first | exact hs_eq _ _ _ | refine hs_ne (by omega) ?_ | assumption), (by repeat (first | exact hs_eq _ _ _ | refine hs_ne (by omega) ?_ | assumption)), (by repeat (first | exact hs_eq _ _ _ | refine hs_ne (by omega) ?_ | assumption)), (by repeat (first | exact hs_eq _ _ _ | refine hs_ne (by omega) ?_ | assumption)), (by repeat (first | exact hs_eq _ _ _ | refine hs_ne (by omega) ?_ | assumption)), by (try simp (disch := omega) only [iu_ne, iu_eq, zWind_ne, zTake_ne, zChim_ne, zChim_16]); repeat (first | exact hs_eq _ _ _ | refine hs_ne (by omega) ?_ | assumption), (by repeat (first | exact hs_eq _ _ _ | refine hs_ne (by omega) ?_ | assumption)), (by repeat (first | exact hs_eq _ _ _ | refine hs_ne (by omega) ?_ | assumption)), (by repeat (first | exact hs_eq _ _ _ | refine hs_ne (by omega) ?_ | assumption)), (by repeat (first | exact hs_eq _ _ _ | refine hs_ne (by omega) ?_ | assumption)), (by repeat (first | exact hs_eq _ _ _ | refine hs_ne (by omega) ?_ | assumption)), by (try simp (disch := omega) only [iu_ne, iu_eq, zWind_ne, zTake_ne, zChim_ne, zChim_16]); repeat (first | exact hs_eq _ _ _ | refine hs_ne (by omega) ?_ | assumption), (by repeat (first | exact hs_eq _ _ _ | refine hs_ne (by omega) ?_ | assumption)), (by repeat (first | exact hs_eq _ _ _ | refine hs_ne (by omega) ?_ | assumption)), (by repeat (first | exact hs_eq _ _ _ | refine hs_ne (by omega) ?_ | assumption))⟩, ?_⟩
                 exact ((hsr.free (by omega)).free (by omega)).free (by omega))
              | (have hz : zThree zrr = iu (iu zrr 9 (zrr 9 - 1)) 10 ((zrr 10 + 1) % 720) := by rw [zThree, if_neg (by omega), if_neg (by omega)]
                 refine Or.inl ⟨rfl, ?_, fun aaa haa => by repeat (first | rfl | refine hs_ne (by omega) ?_), by rw [zHow, if_neg (by omega), if_neg (by omega)]⟩
                 rw [hz]
                 refine ⟨f1, f2, f3, w1, w2, w3, w4, w5, d1, d2, se, ⟨by (try simp (disch := omega) only [iu_ne, iu_eq, zWind_ne, zTake_ne, zChim_ne, zChim_16]); repeat (first | exact hs_eq _ _ _ | refine hs_ne (by omega) ?_ | assumption), (by repeat (first | exact hs_eq _ _ _ | refine hs_ne (by omega) ?_ | assumption)), (by repeat (first | exact hs_eq _ _ _ | refine hs_ne (by omega) ?_ | assumption)), (by repeat (first | exact hs_eq _ _ _ | refine hs_ne (by omega) ?_ | assumption)), (by repeat (first | exact hs_eq _ _ _ | refine hs_ne (by omega) ?_ | assumption)), by (try simp (disch := omega) only [iu_ne, iu_eq, zWind_ne, zTake_ne, zChim_ne, zChim_16]); repeat (first | exact hs_eq _ _ _ | refine hs_ne (by omega) ?_ | assumption), (by repeat (first | exact hs_eq _ _ _ | refine hs_ne (by omega) ?_ | assumption)), (by repeat (first | exact hs_eq _ _ _ | refine hs_ne (by omega) ?_ | assumption)), (by repeat (first | exact hs_eq _ _ _ | refine hs_ne (by omega) ?_ | assumption)), (by repeat (first | exact hs_eq _ _ _ | refine hs_ne (by omega) ?_ | assumption)), (by repeat (first | exact hs_eq _ _ _ | refine hs_ne (by omega) ?_ | assumption)), by (try simp (disch := omega) only [iu_ne, iu_eq, zWind_ne, zTake_ne, zChim_ne, zChim_16]); repeat (first | exact hs_eq _ _ _ | refine hs_ne (by omega) ?_ | assumption), (by repeat (first | exact hs_eq _ _ _ | refine hs_ne (by omega) ?_ | assumption)), (by repeat (first | exact hs_eq _ _ _ | refine hs_ne (by omega) ?_ | assumption)), (by repeat (first | exact hs_eq _ _ _ | refine hs_ne (by omega) ?_ | assumption))⟩, ?_⟩
                 exact (hsr.free (by omega)).free (by omega))))
  · try (exfalso; omega)
    all_goals (
      refine k_aload_n C dX3_moveHands_7 rfl ?_
      refine k_dup C dX3_moveHands_8 rfl ?_
      refine k_get C (k := 14) inX3 (ci := 3) rfl (by decide) fl_X3_86 dX3_moveHands_9 (by repeat (first | exact hs_eq _ _ _ | refine hs_ne (by omega) ?_ | assumption)) rfl ?_
      refine k_iconst C dX3_moveHands_12 ?_
      refine k_iadd C dX3_moveHands_13 ?_
      refine k_put C (k := 14) inX3 tyX3_ok nmX3 (ci := 3) rfl (by decide) fl_X3_86 rfl (Nat.le_of_ble_eq_true rfl) dX3_moveHands_14 (by repeat (first | exact hs_eq _ _ _ | refine hs_ne (by omega) ?_ | assumption)) ?_
      refine k_iconst C dX3_moveHands_17 ?_
      refine k_zret C hr dX3_moveHands_18 (by omega) ?_
      first
        | (have hz : zThree zrr = iu zrr 19 (zrr 19 + 1) := if_pos (by omega)
           refine Or.inr ⟨rfl, ?_, fun aaa haa => by repeat (first | rfl | refine hs_ne (by omega) ?_), by rw [zHow, if_pos (by omega)]; omega⟩
           rw [hz]
           refine ⟨f1, f2, f3, w1, w2, w3, w4, w5, d1, d2, se, ⟨by (try simp (disch := omega) only [iu_ne, iu_eq, zWind_ne, zTake_ne, zChim_ne, zChim_16]); repeat (first | exact hs_eq _ _ _ | refine hs_ne (by omega) ?_ | assumption), (by repeat (first | exact hs_eq _ _ _ | refine hs_ne (by omega) ?_ | assumption)), (by repeat (first | exact hs_eq _ _ _ | refine hs_ne (by omega) ?_ | assumption)), (by repeat (first | exact hs_eq _ _ _ | refine hs_ne (by omega) ?_ | assumption)), (by repeat (first | exact hs_eq _ _ _ | refine hs_ne (by omega) ?_ | assumption)), by (try simp (disch := omega) only [iu_ne, iu_eq, zWind_ne, zTake_ne, zChim_ne, zChim_16]); repeat (first | exact hs_eq _ _ _ | refine hs_ne (by omega) ?_ | assumption), (by repeat (first | exact hs_eq _ _ _ | refine hs_ne (by omega) ?_ | assumption)), (by repeat (first | exact hs_eq _ _ _ | refine hs_ne (by omega) ?_ | assumption)), (by repeat (first | exact hs_eq _ _ _ | refine hs_ne (by omega) ?_ | assumption)), (by repeat (first | exact hs_eq _ _ _ | refine hs_ne (by omega) ?_ | assumption)), (by repeat (first | exact hs_eq _ _ _ | refine hs_ne (by omega) ?_ | assumption)), by (try simp (disch := omega) only [iu_ne, iu_eq, zWind_ne, zTake_ne, zChim_ne, zChim_16]); repeat (first | exact hs_eq _ _ _ | refine hs_ne (by omega) ?_ | assumption), (by repeat (first | exact hs_eq _ _ _ | refine hs_ne (by omega) ?_ | assumption)), (by repeat (first | exact hs_eq _ _ _ | refine hs_ne (by omega) ?_ | assumption)), (by repeat (first | exact hs_eq _ _ _ | refine hs_ne (by omega) ?_ | assumption))⟩, ?_⟩
           exact hsr.free (by omega))
        | (have hz : zThree zrr = iu (iu (iu zrr 9 (zrr 9 - 1)) 18 (zrr 18 + 1)) 12 (zrr 12 + if (zrr 18 + 1) % 5 = 0 ∧ zrr 12 < 20 then 1 else 0) := by rw [zThree, if_neg (by omega), if_pos (by omega)]
           refine Or.inr ⟨rfl, ?_, fun aaa haa => by repeat (first | rfl | refine hs_ne (by omega) ?_), by rw [zHow, if_neg (by omega), if_pos (by omega)]; omega⟩
           rw [hz]
           refine ⟨f1, f2, f3, w1, w2, w3, w4, w5, d1, d2, se, ⟨by (try simp (disch := omega) only [iu_ne, iu_eq, zWind_ne, zTake_ne, zChim_ne, zChim_16]); repeat (first | exact hs_eq _ _ _ | refine hs_ne (by omega) ?_ | assumption), (by repeat (first | exact hs_eq _ _ _ | refine hs_ne (by omega) ?_ | assumption)), (by repeat (first | exact hs_eq _ _ _ | refine hs_ne (by omega) ?_ | assumption)), (by repeat (first | exact hs_eq _ _ _ | refine hs_ne (by omega) ?_ | assumption)), (by repeat (first | exact hs_eq _ _ _ | refine hs_ne (by omega) ?_ | assumption)), by (try simp (disch := omega) only [iu_ne, iu_eq, zWind_ne, zTake_ne, zChim_ne, zChim_16]); repeat (first | exact hs_eq _ _ _ | refine hs_ne (by omega) ?_ | assumption), (by repeat (first | exact hs_eq _ _ _ | refine hs_ne (by omega) ?_ | assumption)), (by repeat (first | exact hs_eq _ _ _ | refine hs_ne (by omega) ?_ | assumption)), (by repeat (first | exact hs_eq _ _ _ | refine hs_ne (by omega) ?_ | assumption)), (by repeat (first | exact hs_eq _ _ _ | refine hs_ne (by omega) ?_ | assumption)), (by repeat (first | exact hs_eq _ _ _ | refine hs_ne (by omega) ?_ | assumption)), by (try simp (disch := omega) only [iu_ne, iu_eq, zWind_ne, zTake_ne, zChim_ne, zChim_16]); repeat (first | exact hs_eq _ _ _ | refine hs_ne (by omega) ?_ | assumption), (by repeat (first | exact hs_eq _ _ _ | refine hs_ne (by omega) ?_ | assumption)), (by repeat (first | exact hs_eq _ _ _ | refine hs_ne (by omega) ?_ | assumption)), (by repeat (first | exact hs_eq _ _ _ | refine hs_ne (by omega) ?_ | assumption))⟩, ?_⟩
           exact ((hsr.free (by omega)).free (by omega)).free (by omega))
        | (have hz : zThree zrr = iu (iu zrr 9 (zrr 9 - 1)) 10 ((zrr 10 + 1) % 720) := by rw [zThree, if_neg (by omega), if_neg (by omega)]
           refine Or.inl ⟨rfl, ?_, fun aaa haa => by repeat (first | rfl | refine hs_ne (by omega) ?_), by rw [zHow, if_neg (by omega), if_neg (by omega)]⟩
           rw [hz]
           refine ⟨f1, f2, f3, w1, w2, w3, w4, w5, d1, d2, se, ⟨by (try simp (disch := omega) only [iu_ne, iu_eq, zWind_ne, zTake_ne, zChim_ne, zChim_16]); repeat (first | exact hs_eq _ _ _ | refine hs_ne (by omega) ?_ | assumption), (by repeat (first | exact hs_eq _ _ _ | refine hs_ne (by omega) ?_ | assumption)), (by repeat (first | exact hs_eq _ _ _ | refine hs_ne (by omega) ?_ | assumption)), (by repeat (first | exact hs_eq _ _ _ | refine hs_ne (by omega) ?_ | assumption)), (by repeat (first | exact hs_eq _ _ _ | refine hs_ne (by omega) ?_ | assumption)), by (try simp (disch := omega) only [iu_ne, iu_eq, zWind_ne, zTake_ne, zChim_ne, zChim_16]); repeat (first | exact hs_eq _ _ _ | refine hs_ne (by omega) ?_ | assumption), (by repeat (first | exact hs_eq _ _ _ | refine hs_ne (by omega) ?_ | assumption)), (by repeat (first | exact hs_eq _ _ _ | refine hs_ne (by omega) ?_ | assumption)), (by repeat (first | exact hs_eq _ _ _ | refine hs_ne (by omega) ?_ | assumption)), (by repeat (first | exact hs_eq _ _ _ | refine hs_ne (by omega) ?_ | assumption)), (by repeat (first | exact hs_eq _ _ _ | refine hs_ne (by omega) ?_ | assumption)), by (try simp (disch := omega) only [iu_ne, iu_eq, zWind_ne, zTake_ne, zChim_ne, zChim_16]); repeat (first | exact hs_eq _ _ _ | refine hs_ne (by omega) ?_ | assumption), (by repeat (first | exact hs_eq _ _ _ | refine hs_ne (by omega) ?_ | assumption)), (by repeat (first | exact hs_eq _ _ _ | refine hs_ne (by omega) ?_ | assumption)), (by repeat (first | exact hs_eq _ _ _ | refine hs_ne (by omega) ?_ | assumption))⟩, ?_⟩
           exact (hsr.free (by omega)).free (by omega)))

set_option maxRecDepth 20000 in
set_option maxHeartbeats 1000000 in
theorem ct_X3_chime (l : Launch) (D : va_G) (tc : Nat → ClassId) (base : Nat) (oo : Nat) (zrr : RZ) (hpp : AH) (hS : SAt hpp oo zrr) (hi : zInv zrr) : CT l D tc base yX3_chime cX3_chime 4 none 2 [aR oo] hpp (fun r h' => r = none ∧ SAt h' oo (zFour zrr) ∧ Fr hpp h' oo 15) := by
  refine CT.of [some (aR oo), none, none, none] (by decide +kernel) rfl (Nat.le_of_ble_eq_true rfl) ?_
  intro p e s m args below meth c C hr hnm
  obtain ⟨f1, f2, f3, w1, w2, w3, w4, w5, d1, d2, se, ⟨g0, g1, g2, g3, g4, g5, g6, g7, g8, g9, g10, g11, g12, g13, g14⟩, hsr⟩ := id hS
  obtain ⟨r1, r2, r3, r4⟩ := id hsr
  obtain ⟨⟨v0, v1, v2, v9, v10, v11, v12, v13, v21, v52, v61, v62, v63, v64, v65, v66⟩, hwi, hde⟩ := id hi
  have t0 : f1 0 = zrr 0 := (r1 0 (by omega) (by omega)).1
  have t1 : f1 1 = zrr 1 := (r1 1 (by omega) (by omega)).1
  have t2 : f1 2 = zrr 2 := (r1 2 (by omega) (by omega)).1
  refine k_aload_n C dX3_chime_0 rfl ?_
  refine k_get C (k := 5) inX3 (ci := 3) rfl (by decide) fl_X3_62 dX3_chime_1 (by repeat (first | exact hs_eq _ _ _ | refine hs_ne (by omega) ?_ | assumption)) rfl ?_
  refine k_bipush C dX3_chime_4 (by decide +kernel) ?_
  refine k_irem C dX3_chime_6 (by omega) (by omega) (by omega) (by omega) ?_
  refine k_if_ne (tgt := 17) C dX3_chime_7 (by decide) ⟨by omega, by omega⟩ (fun c7 => ?_) (fun c7 => ?_)
  · try (exfalso; omega)
    all_goals (
      refine k_vret C hr dX3_chime_17 ?_
      first
        | exact ⟨rfl, by rw [zFour, if_neg (by omega)]; exact hS, Fr.rf _ _ _⟩
        | (have hp : zPhr zrr = 4 := by unfold zPhr; rw [if_pos (by omega)]
           have hz : zFour zrr = iu (iu (zTake zrr 2 (mnI 4 (zrr 2 / 2) * 2)) 16 (zrr 16 + mnI 4 (zrr 2 / 2))) 17 (zrr 17 + (4 - mnI 4 (zrr 2 / 2))) := by rw [zFour, if_pos (by omega), hp, zChim_take]
           refine ⟨rfl, ?_, fun aaa haa => by repeat (first | rfl | refine hs_ne (by omega) ?_)⟩
           rw [hz]
           refine ⟨_, _, f3, w1, w2, w3, w4, w5, d1, d2, se, ⟨by (try simp (disch := omega) only [iu_ne, iu_eq, zWind_ne, zTake_ne, zChim_ne, zChim_16]); repeat (first | exact hs_eq _ _ _ | refine hs_ne (by omega) ?_ | assumption), (by repeat (first | exact hs_eq _ _ _ | refine hs_ne (by omega) ?_ | assumption)), (by repeat (first | exact hs_eq _ _ _ | refine hs_ne (by omega) ?_ | assumption)), (by repeat (first | exact hs_eq _ _ _ | refine hs_ne (by omega) ?_ | assumption)), (by repeat (first | exact hs_eq _ _ _ | refine hs_ne (by omega) ?_ | assumption)), by (try simp (disch := omega) only [iu_ne, iu_eq, zWind_ne, zTake_ne, zChim_ne, zChim_16]); repeat (first | exact hs_eq _ _ _ | refine hs_ne (by omega) ?_ | assumption), (by repeat (first | exact hs_eq _ _ _ | refine hs_ne (by omega) ?_ | assumption)), (by repeat (first | exact hs_eq _ _ _ | refine hs_ne (by omega) ?_ | assumption)), (by repeat (first | exact hs_eq _ _ _ | refine hs_ne (by omega) ?_ | assumption)), (by repeat (first | exact hs_eq _ _ _ | refine hs_ne (by omega) ?_ | assumption)), (by repeat (first | exact hs_eq _ _ _ | refine hs_ne (by omega) ?_ | assumption)), by (try simp (disch := omega) only [iu_ne, iu_eq, zWind_ne, zTake_ne, zChim_ne, zChim_16]); repeat (first | exact hs_eq _ _ _ | refine hs_ne (by omega) ?_ | assumption), (by repeat (first | exact hs_eq _ _ _ | refine hs_ne (by omega) ?_ | assumption)), (by repeat (first | exact hs_eq _ _ _ | refine hs_ne (by omega) ?_ | assumption)), (by repeat (first | exact hs_eq _ _ _ | refine hs_ne (by omega) ?_ | assumption))⟩, ?_⟩
           exact ((hsr.take (by omega) (by omega)).free (by omega)).free (by omega))
        | (have hp : zPhr zrr = zrr 10 % 60 / 15 := by unfold zPhr; rw [if_neg (by omega)]
           have hz : zFour zrr = iu (iu (zTake zrr 2 (mnI (zrr 10 % 60 / 15) (zrr 2 / 2) * 2)) 16 (zrr 16 + mnI (zrr 10 % 60 / 15) (zrr 2 / 2))) 17 (zrr 17 + (zrr 10 % 60 / 15 - mnI (zrr 10 % 60 / 15) (zrr 2 / 2))) := by rw [zFour, if_pos (by omega), hp, zChim_take]
           refine ⟨rfl, ?_, fun aaa haa => by repeat (first | rfl | refine hs_ne (by omega) ?_)⟩
           rw [hz]
           refine ⟨_, _, f3, w1, w2, w3, w4, w5, d1, d2, se, ⟨by (try simp (disch := omega) only [iu_ne, iu_eq, zWind_ne, zTake_ne, zChim_ne, zChim_16]); repeat (first | exact hs_eq _ _ _ | refine hs_ne (by omega) ?_ | assumption), (by repeat (first | exact hs_eq _ _ _ | refine hs_ne (by omega) ?_ | assumption)), (by repeat (first | exact hs_eq _ _ _ | refine hs_ne (by omega) ?_ | assumption)), (by repeat (first | exact hs_eq _ _ _ | refine hs_ne (by omega) ?_ | assumption)), (by repeat (first | exact hs_eq _ _ _ | refine hs_ne (by omega) ?_ | assumption)), by (try simp (disch := omega) only [iu_ne, iu_eq, zWind_ne, zTake_ne, zChim_ne, zChim_16]); repeat (first | exact hs_eq _ _ _ | refine hs_ne (by omega) ?_ | assumption), (by repeat (first | exact hs_eq _ _ _ | refine hs_ne (by omega) ?_ | assumption)), (by repeat (first | exact hs_eq _ _ _ | refine hs_ne (by omega) ?_ | assumption)), (by repeat (first | exact hs_eq _ _ _ | refine hs_ne (by omega) ?_ | assumption)), (by repeat (first | exact hs_eq _ _ _ | refine hs_ne (by omega) ?_ | assumption)), (by repeat (first | exact hs_eq _ _ _ | refine hs_ne (by omega) ?_ | assumption)), by (try simp (disch := omega) only [iu_ne, iu_eq, zWind_ne, zTake_ne, zChim_ne, zChim_16]); repeat (first | exact hs_eq _ _ _ | refine hs_ne (by omega) ?_ | assumption), (by repeat (first | exact hs_eq _ _ _ | refine hs_ne (by omega) ?_ | assumption)), (by repeat (first | exact hs_eq _ _ _ | refine hs_ne (by omega) ?_ | assumption)), (by repeat (first | exact hs_eq _ _ _ | refine hs_ne (by omega) ?_ | assumption))⟩, ?_⟩
           exact ((hsr.take (by omega) (by omega)).free (by omega)).free (by omega)))
  · try (exfalso; omega)
    all_goals (
      refine k_aload_n C dX3_chime_10 rfl ?_
      refine k_callV C (n := 0) (as := []) (ct_X3_isSilent l D tc base oo zrr _ hS hi) ml_X3_171 im_X3_isSilent se_X3_isSilent ini_X3 co_X3_isSilent ⟨rfl, by decide, by decide, by decide +kernel⟩ rfl (ci := 3) rfl (by repeat (first | exact hs_eq _ _ _ | refine hs_ne (by omega) ?_ | assumption)) ⟨by decide, by decide⟩ rfl (Nat.le_of_ble_eq_true rfl) ⟨Nat.zero_le _, Nat.zero_le _⟩ dX3_chime_11 ?_
      rintro _ _ (⟨rfl, rfl, hq⟩ | ⟨rfl, rfl, hq⟩)
      · skip
        refine k_if_eq (tgt := 18) C dX3_chime_14 (by decide) ⟨by omega, by omega⟩ (fun c14 => ?_) (fun c14 => ?_)
        · try (exfalso; omega)
          all_goals (
            refine k_aload_n C dX3_chime_18 rfl ?_
            refine k_get C (k := 5) inX3 (ci := 3) rfl (by decide) fl_X3_62 dX3_chime_19 (by repeat (first | exact hs_eq _ _ _ | refine hs_ne (by omega) ?_ | assumption)) rfl ?_
            refine k_bipush C dX3_chime_22 (by decide +kernel) ?_
            refine k_irem C dX3_chime_24 (by omega) (by omega) (by omega) (by omega) ?_
            refine k_bipush C dX3_chime_25 (by decide +kernel) ?_
            refine k_idiv C dX3_chime_27 (by omega) (by omega) (by omega) (by omega) ?_
            refine k_istore_n C dX3_chime_28 (by decide) rfl ?_
            refine k_iload_n C dX3_chime_29 rfl ?_
            refine k_if_ne (tgt := 37) C dX3_chime_30 (by decide) ⟨by omega, by omega⟩ (fun c30 => ?_) (fun c30 => ?_)
            · try (exfalso; omega)
              all_goals (
                refine k_iload_n C dX3_chime_37 rfl ?_
                refine k_istore_n C dX3_chime_38 (by decide) rfl ?_
                refine k_iload_n C dX3_chime_39 rfl ?_
                refine k_aload_n C dX3_chime_40 rfl ?_
                refine k_get C (k := 0) inX3 (ci := 3) rfl (by decide) fl_X3_12 dX3_chime_41 (by repeat (first | exact hs_eq _ _ _ | refine hs_ne (by omega) ?_ | assumption)) rfl ?_
                refine k_get C (k := 0) inX5 (ci := 5) rfl (by decide) fl_X3_155 dX3_chime_44 (by repeat (first | exact hs_eq _ _ _ | refine hs_ne (by omega) ?_ | assumption)) rfl ?_
                refine k_iconst C dX3_chime_47 ?_
                refine k_iaload C dX3_chime_48 (by repeat (first | exact hs_eq _ _ _ | refine hs_ne (by omega) ?_ | assumption)) (by omega) (by omega) (by omega) ?_
                refine k_iconst C dX3_chime_49 ?_
                refine k_idiv C dX3_chime_50 (by omega) (by omega) (by omega) (by omega) ?_
                refine k_callS C (n := 2) (as := [_, _]) (ct_J9_min_7cf53 l D tc base _ _ _ ⟨by omega, by omega⟩ ⟨by omega, by omega⟩) ml_X3_158 sm_J9_min_7cf53 ini_J9 co_J9_min_7cf53 ⟨by decide, by decide, by decide +kernel⟩ rfl ⟨by decide, by decide⟩ rfl (Nat.le_of_ble_eq_true rfl) ⟨Nat.zero_le _, Nat.zero_le _⟩ dX3_chime_51 ?_
                rintro _ _ ⟨rfl, rfl⟩
                rw [t2]
                refine k_istore_n C dX3_chime_54 (by decide) rfl ?_
                refine k_aload_n C dX3_chime_55 rfl ?_
                refine k_get C (k := 0) inX3 (ci := 3) rfl (by decide) fl_X3_12 dX3_chime_56 (by repeat (first | exact hs_eq _ _ _ | refine hs_ne (by omega) ?_ | assumption)) rfl ?_
                refine k_iconst C dX3_chime_59 ?_
                refine k_iload_n C dX3_chime_60 rfl ?_
                refine k_iconst C dX3_chime_61 ?_
                refine k_imul C dX3_chime_62 ?_
                refine k_callV C (n := 2) (as := [_, _]) (ct_X5_take l D tc base (oo + 1) f1 f2 f3 _ (by repeat (first | exact hs_eq _ _ _ | refine hs_ne (by omega) ?_ | assumption)) (by repeat (first | exact hs_eq _ _ _ | refine hs_ne (by omega) ?_ | assumption)) (by repeat (first | exact hs_eq _ _ _ | refine hs_ne (by omega) ?_ | assumption)) (by repeat (first | exact hs_eq _ _ _ | refine hs_ne (by omega) ?_ | assumption)) _ _ (by omega) (by omega)) ml_X3_161 im_X5_take se_X5_take ini_X5 co_X5_take ⟨rfl, by decide, by decide, by decide +kernel⟩ rfl (ci := 5) rfl (by repeat (first | exact hs_eq _ _ _ | refine hs_ne (by omega) ?_ | assumption)) ⟨by decide, by decide⟩ rfl (Nat.le_of_ble_eq_true rfl) ⟨Nat.zero_le _, Nat.zero_le _⟩ dX3_chime_63 ?_
                rintro _ _ ⟨rfl, rfl⟩
                refine k_aload_n C dX3_chime_66 rfl ?_
                refine k_dup C dX3_chime_67 rfl ?_
                refine k_get C (k := 11) inX3 (ci := 3) rfl (by decide) fl_X3_77 dX3_chime_68 (by repeat (first | exact hs_eq _ _ _ | refine hs_ne (by omega) ?_ | assumption)) rfl ?_
                refine k_iload_n C dX3_chime_71 rfl ?_
                refine k_iadd C dX3_chime_72 ?_
                refine k_put C (k := 11) inX3 tyX3_ok nmX3 (ci := 3) rfl (by decide) fl_X3_77 rfl (Nat.le_of_ble_eq_true rfl) dX3_chime_73 (by repeat (first | exact hs_eq _ _ _ | refine hs_ne (by omega) ?_ | assumption)) ?_
                refine k_aload_n C dX3_chime_76 rfl ?_
                refine k_dup C dX3_chime_77 rfl ?_
                refine k_get C (k := 12) inX3 (ci := 3) rfl (by decide) fl_X3_80 dX3_chime_78 (by repeat (first | exact hs_eq _ _ _ | refine hs_ne (by omega) ?_ | assumption)) rfl ?_
                refine k_iload_n C dX3_chime_81 rfl ?_
                refine k_iload_n C dX3_chime_82 rfl ?_
                refine k_isub C dX3_chime_83 ?_
                refine k_iadd C dX3_chime_84 ?_
                refine k_put C (k := 12) inX3 tyX3_ok nmX3 (ci := 3) rfl (by decide) fl_X3_80 rfl (Nat.le_of_ble_eq_true rfl) dX3_chime_85 (by repeat (first | exact hs_eq _ _ _ | refine hs_ne (by omega) ?_ | assumption)) ?_
                refine k_vret C hr dX3_chime_88 ?_
                first
                  | exact ⟨rfl, by rw [zFour, if_neg (by omega)]; exact hS, Fr.rf _ _ _⟩
                  | (have hp : zPhr zrr = 4 := by unfold zPhr; rw [if_pos (by omega)]
                     have hz : zFour zrr = iu (iu (zTake zrr 2 (mnI 4 (zrr 2 / 2) * 2)) 16 (zrr 16 + mnI 4 (zrr 2 / 2))) 17 (zrr 17 + (4 - mnI 4 (zrr 2 / 2))) := by rw [zFour, if_pos (by omega), hp, zChim_take]
                     refine ⟨rfl, ?_, fun aaa haa => by repeat (first | rfl | refine hs_ne (by omega) ?_)⟩
                     rw [hz]
                     refine ⟨_, _, f3, w1, w2, w3, w4, w5, d1, d2, se, ⟨by (try simp (disch := omega) only [iu_ne, iu_eq, zWind_ne, zTake_ne, zChim_ne, zChim_16]); repeat (first | exact hs_eq _ _ _ | refine hs_ne (by omega) ?_ | assumption), (by repeat (first | exact hs_eq _ _ _ | refine hs_ne (by omega) ?_ | assumption)), (by repeat (first | exact hs_eq _ _ _ | refine hs_ne (by omega) ?_ | assumption)), (by repeat (first | exact hs_eq _ _ _ | refine hs_ne (by omega) ?_ | assumption)), (by repeat (first | exact hs_eq _ _ _ | refine hs_ne (by omega) ?_ | assumption)), by (try simp (disch := omega) only [iu_ne, iu_eq, zWind_ne, zTake_ne, zChim_ne, zChim_16]); repeat (first | exact hs_eq _ _ _ | refine hs_ne (by omega) ?_ | assumption), (by repeat (first | exact hs_eq _ _ _ | refine hs_ne (by omega) ?_ | assumption)), (by repeat (first | exact hs_eq _ _ _ | refine hs_ne (by omega) ?_ | assumption)), (by repeat (first | exact hs_eq _ _ _ | refine hs_ne (by omega) ?_ | assumption)), (by repeat (first | exact hs_eq _ _ _ | refine hs_ne (by omega) ?_ | assumption)), (by repeat (first | exact hs_eq _ _ _ | refine hs_ne (by omega) ?_ | assumption)), by (try simp (disch := omega) only [iu_ne, iu_eq, zWind_ne, zTake_ne, zChim_ne, zChim_16]); repeat (first | exact hs_eq _ _ _ | refine hs_ne (by omega) ?_ | assumption), (by repeat (first | exact hs_eq _ _ _ | refine hs_ne (by omega) ?_ | assumption)), (by repeat (first | exact hs_eq _ _ _ | refine hs_ne (by omega) ?_ | assumption)), (by repeat (first | exact hs_eq _ _ _ | refine hs_ne (by omega) ?_ | assumption))⟩, ?_⟩
                     exact ((hsr.take (by omega) (by omega)).free (by omega)).free (by omega))
                  | (have hp : zPhr zrr = zrr 10 % 60 / 15 := by unfold zPhr; rw [if_neg (by omega)]
                     have hz : zFour zrr = iu (iu (zTake zrr 2 (mnI (zrr 10 % 60 / 15) (zrr 2 / 2) * 2)) 16 (zrr 16 + mnI (zrr 10 % 60 / 15) (zrr 2 / 2))) 17 (zrr 17 + (zrr 10 % 60 / 15 - mnI (zrr 10 % 60 / 15) (zrr 2 / 2))) := by rw [zFour, if_pos (by omega), hp, zChim_take]
                     refine ⟨rfl, ?_, fun aaa haa => by repeat (first | rfl | refine hs_ne (by omega) ?_)⟩
                     rw [hz]
                     refine ⟨_, _, f3, w1, w2, w3, w4, w5, d1, d2, se, ⟨by (try simp (disch := omega) only [iu_ne, iu_eq, zWind_ne, zTake_ne, zChim_ne, zChim_16]); repeat (first | exact hs_eq _ _ _ | refine hs_ne (by omega) ?_ | assumption), (by repeat (first | exact hs_eq _ _ _ | refine hs_ne (by omega) ?_ | assumption)), (by repeat (first | exact hs_eq _ _ _ | refine hs_ne (by omega) ?_ | assumption)), (by repeat (first | exact hs_eq _ _ _ | refine hs_ne (by omega) ?_ | assumption)), (by repeat (first | exact hs_eq _ _ _ | refine hs_ne (by omega) ?_ | assumption)), by (try simp (disch := omega) only [iu_ne, iu_eq, zWind_ne, zTake_ne, zChim_ne, zChim_16]); repeat (first | exact hs_eq _ _ _ | refine hs_ne (by omega) ?_ | assumption), (by repeat (first | exact hs_eq _ _ _ | refine hs_ne (by omega) ?_ | assumption)), (by repeat (first | exact hs_eq _ _ _ | refine hs_ne (by omega) ?_ | assumption)), (by repeat (first | exact hs_eq _ _ _ | refine hs_ne (by omega) ?_ | assumption)), (by repeat (first | exact hs_eq _ _ _ | refine hs_ne (by omega) ?_ | assumption)), (by repeat (first | exact hs_eq _ _ _ | refine hs_ne (by omega) ?_ | assumption)), by (try simp (disch := omega) only [iu_ne, iu_eq, zWind_ne, zTake_ne, zChim_ne, zChim_16]); repeat (first | exact hs_eq _ _ _ | refine hs_ne (by omega) ?_ | assumption), (by repeat (first | exact hs_eq _ _ _ | refine hs_ne (by omega) ?_ | assumption)), (by repeat (first | exact hs_eq _ _ _ | refine hs_ne (by omega) ?_ | assumption)), (by repeat (first | exact hs_eq _ _ _ | refine hs_ne (by omega) ?_ | assumption))⟩, ?_⟩
                     exact ((hsr.take (by omega) (by omega)).free (by omega)).free (by omega)))
            · try (exfalso; omega)
              all_goals (
                refine k_iconst C dX3_chime_33 ?_
                refine k_goto (tgt := 38) C dX3_chime_34 (by decide) ?_
                refine k_istore_n C dX3_chime_38 (by decide) rfl ?_
                refine k_iload_n C dX3_chime_39 rfl ?_
                refine k_aload_n C dX3_chime_40 rfl ?_
                refine k_get C (k := 0) inX3 (ci := 3) rfl (by decide) fl_X3_12 dX3_chime_41 (by repeat (first | exact hs_eq _ _ _ | refine hs_ne (by omega) ?_ | assumption)) rfl ?_
                refine k_get C (k := 0) inX5 (ci := 5) rfl (by decide) fl_X3_155 dX3_chime_44 (by repeat (first | exact hs_eq _ _ _ | refine hs_ne (by omega) ?_ | assumption)) rfl ?_
                refine k_iconst C dX3_chime_47 ?_
                refine k_iaload C dX3_chime_48 (by repeat (first | exact hs_eq _ _ _ | refine hs_ne (by omega) ?_ | assumption)) (by omega) (by omega) (by omega) ?_
                refine k_iconst C dX3_chime_49 ?_
                refine k_idiv C dX3_chime_50 (by omega) (by omega) (by omega) (by omega) ?_
                refine k_callS C (n := 2) (as := [_, _]) (ct_J9_min_7cf53 l D tc base _ _ _ ⟨by omega, by omega⟩ ⟨by omega, by omega⟩) ml_X3_158 sm_J9_min_7cf53 ini_J9 co_J9_min_7cf53 ⟨by decide, by decide, by decide +kernel⟩ rfl ⟨by decide, by decide⟩ rfl (Nat.le_of_ble_eq_true rfl) ⟨Nat.zero_le _, Nat.zero_le _⟩ dX3_chime_51 ?_
                rintro _ _ ⟨rfl, rfl⟩
                rw [t2]
                refine k_istore_n C dX3_chime_54 (by decide) rfl ?_
                refine k_aload_n C dX3_chime_55 rfl ?_
                refine k_get C (k := 0) inX3 (ci := 3) rfl (by decide) fl_X3_12 dX3_chime_56 (by repeat (first | exact hs_eq _ _ _ | refine hs_ne (by omega) ?_ | assumption)) rfl ?_
                refine k_iconst C dX3_chime_59 ?_
                refine k_iload_n C dX3_chime_60 rfl ?_
                refine k_iconst C dX3_chime_61 ?_
                refine k_imul C dX3_chime_62 ?_
                refine k_callV C (n := 2) (as := [_, _]) (ct_X5_take l D tc base (oo + 1) f1 f2 f3 _ (by repeat (first | exact hs_eq _ _ _ | refine hs_ne (by omega) ?_ | assumption)) (by repeat (first | exact hs_eq _ _ _ | refine hs_ne (by omega) ?_ | assumption)) (by repeat (first | exact hs_eq _ _ _ | refine hs_ne (by omega) ?_ | assumption)) (by repeat (first | exact hs_eq _ _ _ | refine hs_ne (by omega) ?_ | assumption)) _ _ (by omega) (by omega)) ml_X3_161 im_X5_take se_X5_take ini_X5 co_X5_take ⟨rfl, by decide, by decide, by decide +kernel⟩ rfl (ci := 5) rfl (by repeat (first | exact hs_eq _ _ _ | refine hs_ne (by omega) ?_ | assumption)) ⟨by decide, by decide⟩ rfl (Nat.le_of_ble_eq_true rfl) ⟨Nat.zero_le _, Nat.zero_le _⟩ dX3_chime_63 ?_
                rintro _ _ ⟨rfl, rfl⟩
                refine k_aload_n C dX3_chime_66 rfl ?_
                refine k_dup C dX3_chime_67 rfl ?_
                refine k_get C (k := 11) inX3 (ci := 3) rfl (by decide) fl_X3_77 dX3_chime_68 (by repeat (first | exact hs_eq _ _ _ | refine hs_ne (by omega) ?_ | assumption)) rfl ?_
                refine k_iload_n C dX3_chime_71 rfl ?_
                refine k_iadd C dX3_chime_72 ?_
                refine k_put C (k := 11) inX3 tyX3_ok nmX3 (ci := 3) rfl (by decide) fl_X3_77 rfl (Nat.le_of_ble_eq_true rfl) dX3_chime_73 (by repeat (first | exact hs_eq _ _ _ | refine hs_ne (by omega) ?_ | assumption)) ?_
                refine k_aload_n C dX3_chime_76 rfl ?_
                refine k_dup C dX3_chime_77 rfl ?_
                refine k_get C (k := 12) inX3 (ci := 3) rfl (by decide) fl_X3_80 dX3_chime_78 (by repeat (first | exact hs_eq _ _ _ | refine hs_ne (by omega) ?_ | assumption)) rfl ?_
                refine k_iload_n C dX3_chime_81 rfl ?_
                refine k_iload_n C dX3_chime_82 rfl ?_
                refine k_isub C dX3_chime_83 ?_
                refine k_iadd C dX3_chime_84 ?_
                refine k_put C (k := 12) inX3 tyX3_ok nmX3 (ci := 3) rfl (by decide) fl_X3_80 rfl (Nat.le_of_ble_eq_true rfl) dX3_chime_85 (by repeat (first | exact hs_eq _ _ _ | refine hs_ne (by omega) ?_ | assumption)) ?_
                refine k_vret C hr dX3_chime_88 ?_
                first
                  | exact ⟨rfl, by rw [zFour, if_neg (by omega)]; exact hS, Fr.rf _ _ _⟩
                  | (have hp : zPhr zrr = 4 := by unfold zPhr; rw [if_pos (by omega)]
                     have hz : zFour zrr = iu (iu (zTake zrr 2 (mnI 4 (zrr 2 / 2) * 2)) 16 (zrr 16 + mnI 4 (zrr 2 / 2))) 17 (zrr 17 + (4 - mnI 4 (zrr 2 / 2))) := by rw [zFour, if_pos (by omega), hp, zChim_take]
                     refine ⟨rfl, ?_, fun aaa haa => by repeat (first | rfl | refine hs_ne (by omega) ?_)⟩
                     rw [hz]
                     refine ⟨_, _, f3, w1, w2, w3, w4, w5, d1, d2, se, ⟨by (try simp (disch := omega) only [iu_ne, iu_eq, zWind_ne, zTake_ne, zChim_ne, zChim_16]); repeat (first | exact hs_eq _ _ _ | refine hs_ne (by omega) ?_ | assumption), (by repeat (first | exact hs_eq _ _ _ | refine hs_ne (by omega) ?_ | assumption)), (by repeat (first | exact hs_eq _ _ _ | refine hs_ne (by omega) ?_ | assumption)), (by repeat (first | exact hs_eq _ _ _ | refine hs_ne (by omega) ?_ | assumption)), (by repeat (first | exact hs_eq _ _ _ | refine hs_ne (by omega) ?_ | assumption)), by (try simp (disch := omega) only [iu_ne, iu_eq, zWind_ne, zTake_ne, zChim_ne, zChim_16]); repeat (first | exact hs_eq _ _ _ | refine hs_ne (by omega) ?_ | assumption), (by repeat (first | exact hs_eq _ _ _ | refine hs_ne (by omega) ?_ | assumption)), (by repeat (first | exact hs_eq _ _ _ | refine hs_ne (by omega) ?_ | assumption)), (by repeat (first | exact hs_eq _ _ _ | refine hs_ne (by omega) ?_ | assumption)), (by repeat (first | exact hs_eq _ _ _ | refine hs_ne (by omega) ?_ | assumption)), (by repeat (first | exact hs_eq _ _ _ | refine hs_ne (by omega) ?_ | assumption)), by (try simp (disch := omega) only [iu_ne, iu_eq, zWind_ne, zTake_ne, zChim_ne, zChim_16]); repeat (first | exact hs_eq _ _ _ | refine hs_ne (by omega) ?_ | assumption), (by repeat (first | exact hs_eq _ _ _ | refine hs_ne (by omega) ?_ | assumption)), (by repeat (first | exact hs_eq _ _ _ | refine hs_ne (by omega) ?_ | assumption)), (by repeat (first | exact hs_eq _ _ _ | refine hs_ne (by omega) ?_ | assumption))⟩, ?_⟩
                     exact ((hsr.take (by omega) (by omega)).free (by omega)).free (by omega))
                  | (have hp : zPhr zrr = zrr 10 % 60 / 15 := by unfold zPhr; rw [if_neg (by omega)]
                     have hz : zFour zrr = iu (iu (zTake zrr 2 (mnI (zrr 10 % 60 / 15) (zrr 2 / 2) * 2)) 16 (zrr 16 + mnI (zrr 10 % 60 / 15) (zrr 2 / 2))) 17 (zrr 17 + (zrr 10 % 60 / 15 - mnI (zrr 10 % 60 / 15) (zrr 2 / 2))) := by rw [zFour, if_pos (by omega), hp, zChim_take]
                     refine ⟨rfl, ?_, fun aaa haa => by repeat (first | rfl | refine hs_ne (by omega) ?_)⟩
                     rw [hz]
                     refine ⟨_, _, f3, w1, w2, w3, w4, w5, d1, d2, se, ⟨by (try simp (disch := omega) only [iu_ne, iu_eq, zWind_ne, zTake_ne, zChim_ne, zChim_16]); repeat (first | exact hs_eq _ _ _ | refine hs_ne (by omega) ?_ | assumption), (by repeat (first | exact hs_eq _ _ _ | refine hs_ne (by omega) ?_ | assumption)), (by repeat (first | exact hs_eq _ _ _ | refine hs_ne (by omega) ?_ | assumption)), (by repeat (first | exact hs_eq _ _ _ | refine hs_ne (by omega) ?_ | assumption)), (by repeat (first | exact hs_eq _ _ _ | refine hs_ne (by omega) ?_ | assumption)), by (try simp (disch := omega) only [iu_ne, iu_eq, zWind_ne, zTake_ne, zChim_ne, zChim_16]); repeat (first | exact hs_eq _ _ _ | refine hs_ne (by omega) ?_ | assumption), (by repeat (first | exact hs_eq _ _ _ | refine hs_ne (by omega) ?_ | assumption)), (by repeat (first | exact hs_eq _ _ _ | refine hs_ne (by omega) ?_ | assumption)), (by repeat (first | exact hs_eq _ _ _ | refine hs_ne (by omega) ?_ | assumption)), (by repeat (first | exact hs_eq _ _ _ | refine hs_ne (by omega) ?_ | assumption)), (by repeat (first | exact hs_eq _ _ _ | refine hs_ne (by omega) ?_ | assumption)), by (try simp (disch := omega) only [iu_ne, iu_eq, zWind_ne, zTake_ne, zChim_ne, zChim_16]); repeat (first | exact hs_eq _ _ _ | refine hs_ne (by omega) ?_ | assumption), (by repeat (first | exact hs_eq _ _ _ | refine hs_ne (by omega) ?_ | assumption)), (by repeat (first | exact hs_eq _ _ _ | refine hs_ne (by omega) ?_ | assumption)), (by repeat (first | exact hs_eq _ _ _ | refine hs_ne (by omega) ?_ | assumption))⟩, ?_⟩
                     exact ((hsr.take (by omega) (by omega)).free (by omega)).free (by omega))))
        · try (exfalso; omega)
          all_goals (
            refine k_vret C hr dX3_chime_17 ?_
            first
              | exact ⟨rfl, by rw [zFour, if_neg (by omega)]; exact hS, Fr.rf _ _ _⟩
              | (have hp : zPhr zrr = 4 := by unfold zPhr; rw [if_pos (by omega)]
                 have hz : zFour zrr = iu (iu (zTake zrr 2 (mnI 4 (zrr 2 / 2) * 2)) 16 (zrr 16 + mnI 4 (zrr 2 / 2))) 17 (zrr 17 + (4 - mnI 4 (zrr 2 / 2))) := by rw [zFour, if_pos (by omega), hp, zChim_take]
                 refine ⟨rfl, ?_, fun aaa haa => by repeat (first | rfl | refine hs_ne (by omega) ?_)⟩
                 rw [hz]
                 refine ⟨_, _, f3, w1, w2, w3, w4, w5, d1, d2, se, ⟨by (try simp (disch := omega) only [iu_ne, iu_eq, zWind_ne, zTake_ne, zChim_ne, zChim_16]); repeat (first | exact hs_eq _ _ _ | refine hs_ne (by omega) ?_ | assumption), (by repeat (first | exact hs_eq _ _ _ | refine hs_ne (by omega) ?_ | assumption)), (by repeat (first | exact hs_eq _ _ _ | refine hs_ne (by omega) ?_ | assumption)), (by repeat (first | exact hs_eq _ _ _ | refine hs_ne (by omega) ?_ | assumption)), (by repeat (first | exact hs_eq _ _ _ | refine hs_ne (by omega) ?_ | assumption)), by (try simp (disch := omega) only [iu_ne, iu_eq, zWind_ne, zTake_ne, zChim_ne, zChim_16]); repeat (first | exact hs_eq _ _ _ | refine hs_ne (by omega) ?_ | assumption), (by repeat (first | exact hs_eq _ _ _ | refine hs_ne (by omega) ?_ | assumption)), (by repeat (first | exact hs_eq _ _ _ | refine hs_ne (by omega) ?_ | assumption)), (by repeat (first | exact hs_eq _ _ _ | refine hs_ne (by omega) ?_ | assumption)), (by repeat (first | exact hs_eq _ _ _ | refine hs_ne (by omega) ?_ | assumption)), (by repeat (first | exact hs_eq _ _ _ | refine hs_ne (by omega) ?_ | assumption)), by (try simp (disch := omega) only [iu_ne, iu_eq, zWind_ne, zTake_ne, zChim_ne, zChim_16]); repeat (first | exact hs_eq _ _ _ | refine hs_ne (by omega) ?_ | assumption), (by repeat (first | exact hs_eq _ _ _ | refine hs_ne (by omega) ?_ | assumption)), (by repeat (first | exact hs_eq _ _ _ | refine hs_ne (by omega) ?_ | assumption)), (by repeat (first | exact hs_eq _ _ _ | refine hs_ne (by omega) ?_ | assumption))⟩, ?_⟩
                 exact ((hsr.take (by omega) (by omega)).free (by omega)).free (by omega))
              | (have hp : zPhr zrr = zrr 10 % 60 / 15 := by unfold zPhr; rw [if_neg (by omega)]
                 have hz : zFour zrr = iu (iu (zTake zrr 2 (mnI (zrr 10 % 60 / 15) (zrr 2 / 2) * 2)) 16 (zrr 16 + mnI (zrr 10 % 60 / 15) (zrr 2 / 2))) 17 (zrr 17 + (zrr 10 % 60 / 15 - mnI (zrr 10 % 60 / 15) (zrr 2 / 2))) := by rw [zFour, if_pos (by omega), hp, zChim_take]
                 refine ⟨rfl, ?_, fun aaa haa => by repeat (first | rfl | refine hs_ne (by omega) ?_)⟩
                 rw [hz]
                 refine ⟨_, _, f3, w1, w2, w3, w4, w5, d1, d2, se, ⟨by (try simp (disch := omega) only [iu_ne, iu_eq, zWind_ne, zTake_ne, zChim_ne, zChim_16]); repeat (first | exact hs_eq _ _ _ | refine hs_ne (by omega) ?_ | assumption), (by repeat (first | exact hs_eq _ _ _ | refine hs_ne (by omega) ?_ | assumption)), (by repeat (first | exact hs_eq _ _ _ | refine hs_ne (by omega) ?_ | assumption)), (by repeat (first | exact hs_eq _ _ _ | refine hs_ne (by omega) ?_ | assumption)), (by repeat (first | exact hs_eq _ _ _ | refine hs_ne (by omega) ?_ | assumption)), by (try simp (disch := omega) only [iu_ne, iu_eq, zWind_ne, zTake_ne, zChim_ne, zChim_16]); repeat (first | exact hs_eq _ _ _ | refine hs_ne (by omega) ?_ | assumption), (by repeat (first | exact hs_eq _ _ _ | refine hs_ne (by omega) ?_ | assumption)), (by repeat (first | exact hs_eq _ _ _ | refine hs_ne (by omega) ?_ | assumption)), (by repeat (first | exact hs_eq _ _ _ | refine hs_ne (by omega) ?_ | assumption)), (by repeat (first | exact hs_eq _ _ _ | refine hs_ne (by omega) ?_ | assumption)), (by repeat (first | exact hs_eq _ _ _ | refine hs_ne (by omega) ?_ | assumption)), by (try simp (disch := omega) only [iu_ne, iu_eq, zWind_ne, zTake_ne, zChim_ne, zChim_16]); repeat (first | exact hs_eq _ _ _ | refine hs_ne (by omega) ?_ | assumption), (by repeat (first | exact hs_eq _ _ _ | refine hs_ne (by omega) ?_ | assumption)), (by repeat (first | exact hs_eq _ _ _ | refine hs_ne (by omega) ?_ | assumption)), (by repeat (first | exact hs_eq _ _ _ | refine hs_ne (by omega) ?_ | assumption))⟩, ?_⟩
                 exact ((hsr.take (by omega) (by omega)).free (by omega)).free (by omega)))
      · skip
        refine k_if_eq (tgt := 18) C dX3_chime_14 (by decide) ⟨by omega, by omega⟩ (fun c14 => ?_) (fun c14 => ?_)
        · try (exfalso; omega)
          all_goals (
            refine k_aload_n C dX3_chime_18 rfl ?_
            refine k_get C (k := 5) inX3 (ci := 3) rfl (by decide) fl_X3_62 dX3_chime_19 (by repeat (first | exact hs_eq _ _ _ | refine hs_ne (by omega) ?_ | assumption)) rfl ?_
            refine k_bipush C dX3_chime_22 (by decide +kernel) ?_
            refine k_irem C dX3_chime_24 (by omega) (by omega) (by omega) (by omega) ?_
            refine k_bipush C dX3_chime_25 (by decide +kernel) ?_
            refine k_idiv C dX3_chime_27 (by omega) (by omega) (by omega) (by omega) ?_
            refine k_istore_n C dX3_chime_28 (by decide) rfl ?_
            refine k_iload_n C dX3_chime_29 rfl ?_
            refine k_if_ne (tgt := 37) C dX3_chime_30 (by decide) ⟨by omega, by omega⟩ (fun c30 => ?_) (fun c30 => ?_)
            · try (exfalso; omega)
              all_goals (
                refine k_iload_n C dX3_chime_37 rfl ?_
                refine k_istore_n C dX3_chime_38 (by decide) rfl ?_
                refine k_iload_n C dX3_chime_39 rfl ?_
                refine k_aload_n C dX3_chime_40 rfl ?_
                refine k_get C (k := 0) inX3 (ci := 3) rfl (by decide) fl_X3_12 dX3_chime_41 (by repeat (first | exact hs_eq _ _ _ | refine hs_ne (by omega) ?_ | assumption)) rfl ?_
                refine k_get C (k := 0) inX5 (ci := 5) rfl (by decide) fl_X3_155 dX3_chime_44 (by repeat (first | exact hs_eq _ _ _ | refine hs_ne (by omega) ?_ | assumption)) rfl ?_
                refine k_iconst C dX3_chime_47 ?_
                refine k_iaload C dX3_chime_48 (by repeat (first | exact hs_eq _ _ _ | refine hs_ne (by omega) ?_ | assumption)) (by omega) (by omega) (by omega) ?_
                refine k_iconst C dX3_chime_49 ?_
                refine k_idiv C dX3_chime_50 (by omega) (by omega) (by omega) (by omega) ?_
                refine k_callS C (n := 2) (as := [_, _]) (ct_J9_min_7cf53 l D tc base _ _ _ ⟨by omega, by omega⟩ ⟨by omega, by omega⟩) ml_X3_158 sm_J9_min_7cf53 ini_J9 co_J9_min_7cf53 ⟨by decide, by decide, by decide +kernel⟩ rfl ⟨by decide, by decide⟩ rfl (Nat.le_of_ble_eq_true rfl) ⟨Nat.zero_le _, Nat.zero_le _⟩ dX3_chime_51 ?_
                rintro _ _ ⟨rfl, rfl⟩
                rw [t2]
                refine k_istore_n C dX3_chime_54 (by decide) rfl ?_
                refine k_aload_n C dX3_chime_55 rfl ?_
                refine k_get C (k := 0) inX3 (ci := 3) rfl (by decide) fl_X3_12 dX3_chime_56 (by repeat (first | exact hs_eq _ _ _ | refine hs_ne (by omega) ?_ | assumption)) rfl ?_
                refine k_iconst C dX3_chime_59 ?_
                refine k_iload_n C dX3_chime_60 rfl ?_
                refine k_iconst C dX3_chime_61 ?_
                refine k_imul C dX3_chime_62 ?_
                refine k_callV C (n := 2) (as := [_, _]) (ct_X5_take l D tc base (oo + 1) f1 f2 f3 _ (by repeat (first | exact hs_eq _ _ _ | refine hs_ne (by omega) ?_ | assumption)) (by repeat (first | exact hs_eq _ _ _ | refine hs_ne (by omega) ?_ | assumption)) (by repeat (first | exact hs_eq _ _ _ | refine hs_ne (by omega) ?_ | assumption)) (by repeat (first | exact hs_eq _ _ _ | refine hs_ne (by omega) ?_ | assumption)) _ _ (by omega) (by omega)) ml_X3_161 im_X5_take se_X5_take ini_X5 co_X5_take ⟨rfl, by decide, by decide, by decide +kernel⟩ rfl (ci := 5) rfl (by repeat (first | exact hs_eq _ _ _ | refine hs_ne (by omega) ?_ | assumption)) ⟨by decide, by decide⟩ rfl (Nat.le_of_ble_eq_true rfl) ⟨Nat.zero_le _, Nat.zero_le _⟩ dX3_chime_63 ?_
                rintro _ _ ⟨rfl, rfl⟩
                refine k_aload_n C dX3_chime_66 rfl ?_
                refine k_dup C dX3_chime_67 rfl ?_
                refine k_get C (k := 11) inX3 (ci := 3) rfl (by decide) fl_X3_77 dX3_chime_68 (by repeat (first | exact hs_eq _ _ _ | refine hs_ne (by omega) ?_ | assumption)) rfl ?_
                refine k_iload_n C dX3_chime_71 rfl ?_
                refine k_iadd C dX3_chime_72 ?_
                refine k_put C (k := 11) inX3 tyX3_ok nmX3 (ci := 3) rfl (by decide) fl_X3_77 rfl (Nat.le_of_ble_eq_true rfl) dX3_chime_73 (by repeat (first | exact hs_eq _ _ _ | refine hs_ne (by omega) ?_ | assumption)) ?_
                refine k_aload_n C dX3_chime_76 rfl ?_
                refine k_dup C dX3_chime_77 rfl ?_
                refine k_get C (k := 12) inX3 (ci := 3) rfl (by decide) fl_X3_80 dX3_chime_78 (by repeat (first | exact hs_eq _ _ _ | refine hs_ne (by omega) ?_ | assumption)) rfl ?_
                refine k_iload_n C dX3_chime_81 rfl ?_
                refine k_iload_n C dX3_chime_82 rfl ?_
                refine k_isub C dX3_chime_83 ?_
                refine k_iadd C dX3_chime_84 ?_
                refine k_put C (k := 12) inX3 tyX3_ok nmX3 (ci := 3) rfl (by decide) fl_X3_80 rfl (Nat.le_of_ble_eq_true rfl) dX3_chime_85 (by repeat (first | exact hs_eq _ _ _ | refine hs_ne (by omega) ?_ | assumption)) ?_
                refine k_vret C hr dX3_chime_88 ?_
                first
                  | exact ⟨rfl, by rw [zFour, if_neg (by omega)]; exact hS, Fr.rf _ _ _⟩
                  | (have hp : zPhr zrr = 4 := by unfold zPhr; rw [if_pos (by omega)]
                     have hz : zFour zrr = iu (iu (zTake zrr 2 (mnI 4 (zrr 2 / 2) * 2)) 16 (zrr 16 + mnI 4 (zrr 2 / 2))) 17 (zrr 17 + (4 - mnI 4 (zrr 2 / 2))) := by rw [zFour, if_pos (by omega), hp, zChim_take]
                     refine ⟨rfl, ?_, fun aaa haa => by repeat (first | rfl | refine hs_ne (by omega) ?_)⟩
                     rw [hz]
                     refine ⟨_, _, f3, w1, w2, w3, w4, w5, d1, d2, se, ⟨by (try simp (disch := omega) only [iu_ne, iu_eq, zWind_ne, zTake_ne, zChim_ne, zChim_16]); repeat (first | exact hs_eq _ _ _ | refine hs_ne (by omega) ?_ | assumption), (by repeat (first | exact hs_eq _ _ _ | refine hs_ne (by omega) ?_ | assumption)), (by repeat (first | exact hs_eq _ _ _ | refine hs_ne (by omega) ?_ | assumption)), (by repeat (first | exact hs_eq _ _ _ | refine hs_ne (by omega) ?_ | assumption)), (by repeat (first | exact hs_eq _ _ _ | refine hs_ne (by omega) ?_ | assumption)), by (try simp (disch := omega) only [iu_ne, iu_eq, zWind_ne, zTake_ne, zChim_ne, zChim_16]); repeat (first | exact hs_eq _ _ _ | refine hs_ne (by omega) ?_ | assumption), (by repeat (first | exact hs_eq _ _ _ | refine hs_ne (by omega) ?_ | assumption)), (by repeat (first | exact hs_eq _ _ _ | refine hs_ne (by omega) ?_ | assumption)), (by repeat (first | exact hs_eq _ _ _ | refine hs_ne (by omega) ?_ | assumption)), (by repeat (first | exact hs_eq _ _ _ | refine hs_ne (by omega) ?_ | assumption)), (by repeat (first | exact hs_eq _ _ _ | refine hs_ne (by omega) ?_ | assumption)), by (try simp (disch := omega) only [iu_ne, iu_eq, zWind_ne, zTake_ne, zChim_ne, zChim_16]); repeat (first | exact hs_eq _ _ _ | refine hs_ne (by omega) ?_ | assumption), (by repeat (first | exact hs_eq _ _ _ | refine hs_ne (by omega) ?_ | assumption)), (by repeat (first | exact hs_eq _ _ _ | refine hs_ne (by omega) ?_ | assumption)), (by repeat (first | exact hs_eq _ _ _ | refine hs_ne (by omega) ?_ | assumption))⟩, ?_⟩
                     exact ((hsr.take (by omega) (by omega)).free (by omega)).free (by omega))
                  | (have hp : zPhr zrr = zrr 10 % 60 / 15 := by unfold zPhr; rw [if_neg (by omega)]
                     have hz : zFour zrr = iu (iu (zTake zrr 2 (mnI (zrr 10 % 60 / 15) (zrr 2 / 2) * 2)) 16 (zrr 16 + mnI (zrr 10 % 60 / 15) (zrr 2 / 2))) 17 (zrr 17 + (zrr 10 % 60 / 15 - mnI (zrr 10 % 60 / 15) (zrr 2 / 2))) := by rw [zFour, if_pos (by omega), hp, zChim_take]
                     refine ⟨rfl, ?_, fun aaa haa => by repeat (first | rfl | refine hs_ne (by omega) ?_)⟩
                     rw [hz]
                     refine ⟨_, _, f3, w1, w2, w3, w4, w5, d1, d2, se, ⟨by (try simp (disch := omega) only [iu_ne, iu_eq, zWind_ne, zTake_ne, zChim_ne, zChim_16]); repeat (first | exact hs_eq _ _ _ | refine hs_ne (by omega) ?_ | assumption), (by repeat (first | exact hs_eq _ _ _ | refine hs_ne (by omega) ?_ | assumption)), (by repeat (first | exact hs_eq _ _ _ | refine hs_ne (by omega) ?_ | assumption)), (by repeat (first | exact hs_eq _ _ _ | refine hs_ne (by omega) ?_ | assumption)), (by repeat (first | exact hs_eq _ _ _ | refine hs_ne (by omega) ?_ | assumption)), by (try simp (disch := omega) only [iu_ne, iu_eq, zWind_ne, zTake_ne, zChim_ne, zChim_16]); repeat (first | exact hs_eq _ _ _ | refine hs_ne (by omega) ?_ | assumption), (by repeat (first | exact hs_eq _ _ _ | refine hs_ne (by omega) ?_ | assumption)), (by repeat (first | exact hs_eq _ _ _ | refine hs_ne (by omega) ?_ | assumption)), (by repeat (first | exact hs_eq _ _ _ | refine hs_ne (by omega) ?_ | assumption)), (by repeat (first | exact hs_eq _ _ _ | refine hs_ne (by omega) ?_ | assumption)), (by repeat (first | exact hs_eq _ _ _ | refine hs_ne (by omega) ?_ | assumption)), by (try simp (disch := omega) only [iu_ne, iu_eq, zWind_ne, zTake_ne, zChim_ne, zChim_16]); repeat (first | exact hs_eq _ _ _ | refine hs_ne (by omega) ?_ | assumption), (by repeat (first | exact hs_eq _ _ _ | refine hs_ne (by omega) ?_ | assumption)), (by repeat (first | exact hs_eq _ _ _ | refine hs_ne (by omega) ?_ | assumption)), (by repeat (first | exact hs_eq _ _ _ | refine hs_ne (by omega) ?_ | assumption))⟩, ?_⟩
                     exact ((hsr.take (by omega) (by omega)).free (by omega)).free (by omega)))
            · try (exfalso; omega)
              all_goals (
                refine k_iconst C dX3_chime_33 ?_
                refine k_goto (tgt := 38) C dX3_chime_34 (by decide) ?_
                refine k_istore_n C dX3_chime_38 (by decide) rfl ?_
                refine k_iload_n C dX3_chime_39 rfl ?_
                refine k_aload_n C dX3_chime_40 rfl ?_
                refine k_get C (k := 0) inX3 (ci := 3) rfl (by decide) fl_X3_12 dX3_chime_41 (by repeat (first | exact hs_eq _ _ _ | refine hs_ne (by omega) ?_ | assumption)) rfl ?_
                refine k_get C (k := 0) inX5 (ci := 5) rfl (by decide) fl_X3_155 dX3_chime_44 (by repeat (first | exact hs_eq _ _ _ | refine hs_ne (by omega) ?_ | assumption)) rfl ?_
                refine k_iconst C dX3_chime_47 ?_
                refine k_iaload C dX3_chime_48 (by repeat (first | exact hs_eq _ _ _ | refine hs_ne (by omega) ?_ | assumption)) (by omega) (by omega) (by omega) ?_
                refine k_iconst C dX3_chime_49 ?_
                refine k_idiv C dX3_chime_50 (by omega) (by omega) (by omega) (by omega) ?_
                refine k_callS C (n := 2) (as := [_, _]) (ct_J9_min_7cf53 l D tc base _ _ _ ⟨by omega, by omega⟩ ⟨by omega, by omega⟩) ml_X3_158 sm_J9_min_7cf53 ini_J9 co_J9_min_7cf53 ⟨by decide, by decide, by decide +kernel⟩ rfl ⟨by decide, by decide⟩ rfl (Nat.le_of_ble_eq_true rfl) ⟨Nat.zero_le _, Nat.zero_le _⟩ dX3_chime_51 ?_
                rintro _ _ ⟨rfl, rfl⟩
                rw [t2]
                refine k_istore_n C dX3_chime_54 (by decide) rfl ?_
                refine k_aload_n C dX3_chime_55 rfl ?_
                refine k_get C (k := 0) inX3 (ci := 3) rfl (by decide) fl_X3_12 dX3_chime_56 (by repeat (first | exact hs_eq _ _ _ | refine hs_ne (by omega) ?_ | assumption)) rfl ?_
                refine k_iconst C dX3_chime_59 ?_
                refine k_iload_n C dX3_chime_60 rfl ?_
                refine k_iconst C dX3_chime_61 ?_
                refine k_imul C dX3_chime_62 ?_
                refine k_callV C (n := 2) (as := [_, _]) (ct_X5_take l D tc base (oo + 1) f1 f2 f3 _ (by repeat (first | exact hs_eq _ _ _ | refine hs_ne (by omega) ?_ | assumption)) (by repeat (first | exact hs_eq _ _ _ | refine hs_ne (by omega) ?_ | assumption)) (by repeat (first | exact hs_eq _ _ _ | refine hs_ne (by omega) ?_ | assumption)) (by repeat (first | exact hs_eq _ _ _ | refine hs_ne (by omega) ?_ | assumption)) _ _ (by omega) (by omega)) ml_X3_161 im_X5_take se_X5_take ini_X5 co_X5_take ⟨rfl, by decide, by decide, by decide +kernel⟩ rfl (ci := 5) rfl (by repeat (first | exact hs_eq _ _ _ | refine hs_ne (by omega) ?_ | assumption)) ⟨by decide, by decide⟩ rfl (Nat.le_of_ble_eq_true rfl) ⟨Nat.zero_le _, Nat.zero_le _⟩ dX3_chime_63 ?_
                rintro _ _ ⟨rfl, rfl⟩
                refine k_aload_n C dX3_chime_66 rfl ?_
                refine k_dup C dX3_chime_67 rfl ?_
                refine k_get C (k := 11) inX3 (ci := 3) rfl (by decide) fl_X3_77 dX3_chime_68 (by repeat (first | exact hs_eq _ _ _ | refine hs_ne (by omega) ?_ | assumption)) rfl ?_
                refine k_iload_n C dX3_chime_71 rfl ?_
                refine k_iadd C dX3_chime_72 ?_
                refine k_put C (k := 11) inX3 tyX3_ok nmX3 (ci := 3) rfl (by decide) fl_X3_77 rfl (Nat.le_of_ble_eq_true rfl) dX3_chime_73 (by repeat (first | exact hs_eq _ _ _ | refine hs_ne (by omega) ?_ | assumption)) ?_
                refine k_aload_n C dX3_chime_76 rfl ?_
                refine k_dup C dX3_chime_77 rfl ?_
                refine k_get C (k := 12) inX3 (ci := 3) rfl (by decide) fl_X3_80 dX3_chime_78 (by repeat (first | exact hs_eq _ _ _ | refine hs_ne (by omega) ?_ | assumption)) rfl ?_
                refine k_iload_n C dX3_chime_81 rfl ?_
                refine k_iload_n C dX3_chime_82 rfl ?_
                refine k_isub C dX3_chime_83 ?_
                refine k_iadd C dX3_chime_84 ?_
                refine k_put C (k := 12) inX3 tyX3_ok nmX3 (ci := 3) rfl (by decide) fl_X3_80 rfl (Nat.le_of_ble_eq_true rfl) dX3_chime_85 (by repeat (first | exact hs_eq _ _ _ | refine hs_ne (by omega) ?_ | assumption)) ?_
                refine k_vret C hr dX3_chime_88 ?_
                first
                  | exact ⟨rfl, by rw [zFour, if_neg (by omega)]; exact hS, Fr.rf _ _ _⟩
                  | (have hp : zPhr zrr = 4 := by unfold zPhr; rw [if_pos (by omega)]
                     have hz : zFour zrr = iu (iu (zTake zrr 2 (mnI 4 (zrr 2 / 2) * 2)) 16 (zrr 16 + mnI 4 (zrr 2 / 2))) 17 (zrr 17 + (4 - mnI 4 (zrr 2 / 2))) := by rw [zFour, if_pos (by omega), hp, zChim_take]
                     refine ⟨rfl, ?_, fun aaa haa => by repeat (first | rfl | refine hs_ne (by omega) ?_)⟩
                     rw [hz]
                     refine ⟨_, _, f3, w1, w2, w3, w4, w5, d1, d2, se, ⟨by (try simp (disch := omega) only [iu_ne, iu_eq, zWind_ne, zTake_ne, zChim_ne, zChim_16]); repeat (first | exact hs_eq _ _ _ | refine hs_ne (by omega) ?_ | assumption), (by repeat (first | exact hs_eq _ _ _ | refine hs_ne (by omega) ?_ | assumption)), (by repeat (first | exact hs_eq _ _ _ | refine hs_ne (by omega) ?_ | assumption)), (by repeat (first | exact hs_eq _ _ _ | refine hs_ne (by omega) ?_ | assumption)), (by repeat (first | exact hs_eq _ _ _ | refine hs_ne (by omega) ?_ | assumption)), by (try simp (disch := omega) only [iu_ne, iu_eq, zWind_ne, zTake_ne, zChim_ne, zChim_16]); repeat (first | exact hs_eq _ _ _ | refine hs_ne (by omega) ?_ | assumption), (by repeat (first | exact hs_eq _ _ _ | refine hs_ne (by omega) ?_ | assumption)), (by repeat (first | exact hs_eq _ _ _ | refine hs_ne (by omega) ?_ | assumption)), (by repeat (first | exact hs_eq _ _ _ | refine hs_ne (by omega) ?_ | assumption)), (by repeat (first | exact hs_eq _ _ _ | refine hs_ne (by omega) ?_ | assumption)), (by repeat (first | exact hs_eq _ _ _ | refine hs_ne (by omega) ?_ | assumption)), by (try simp (disch := omega) only [iu_ne, iu_eq, zWind_ne, zTake_ne, zChim_ne, zChim_16]); repeat (first | exact hs_eq _ _ _ | refine hs_ne (by omega) ?_ | assumption), (by repeat (first | exact hs_eq _ _ _ | refine hs_ne (by omega) ?_ | assumption)), (by repeat (first | exact hs_eq _ _ _ | refine hs_ne (by omega) ?_ | assumption)), (by repeat (first | exact hs_eq _ _ _ | refine hs_ne (by omega) ?_ | assumption))⟩, ?_⟩
                     exact ((hsr.take (by omega) (by omega)).free (by omega)).free (by omega))
                  | (have hp : zPhr zrr = zrr 10 % 60 / 15 := by unfold zPhr; rw [if_neg (by omega)]
                     have hz : zFour zrr = iu (iu (zTake zrr 2 (mnI (zrr 10 % 60 / 15) (zrr 2 / 2) * 2)) 16 (zrr 16 + mnI (zrr 10 % 60 / 15) (zrr 2 / 2))) 17 (zrr 17 + (zrr 10 % 60 / 15 - mnI (zrr 10 % 60 / 15) (zrr 2 / 2))) := by rw [zFour, if_pos (by omega), hp, zChim_take]
                     refine ⟨rfl, ?_, fun aaa haa => by repeat (first | rfl | refine hs_ne (by omega) ?_)⟩
                     rw [hz]
                     refine ⟨_, _, f3, w1, w2, w3, w4, w5, d1, d2, se, ⟨by (try simp (disch := omega) only [iu_ne, iu_eq, zWind_ne, zTake_ne, zChim_ne, zChim_16]); repeat (first | exact hs_eq _ _ _ | refine hs_ne (by omega) ?_ | assumption), (by repeat (first | exact hs_eq _ _ _ | refine hs_ne (by omega) ?_ | assumption)), (by repeat (first | exact hs_eq _ _ _ | refine hs_ne (by omega) ?_ | assumption)), (by repeat (first | exact hs_eq _ _ _ | refine hs_ne (by omega) ?_ | assumption)), (by repeat (first | exact hs_eq _ _ _ | refine hs_ne (by omega) ?_ | assumption)), by (try simp (disch := omega) only [iu_ne, iu_eq, zWind_ne, zTake_ne, zChim_ne, zChim_16]); repeat (first | exact hs_eq _ _ _ | refine hs_ne (by omega) ?_ | assumption), (by repeat (first | exact hs_eq _ _ _ | refine hs_ne (by omega) ?_ | assumption)), (by repeat (first | exact hs_eq _ _ _ | refine hs_ne (by omega) ?_ | assumption)), (by repeat (first | exact hs_eq _ _ _ | refine hs_ne (by omega) ?_ | assumption)), (by repeat (first | exact hs_eq _ _ _ | refine hs_ne (by omega) ?_ | assumption)), (by repeat (first | exact hs_eq _ _ _ | refine hs_ne (by omega) ?_ | assumption)), by (try simp (disch := omega) only [iu_ne, iu_eq, zWind_ne, zTake_ne, zChim_ne, zChim_16]); repeat (first | exact hs_eq _ _ _ | refine hs_ne (by omega) ?_ | assumption), (by repeat (first | exact hs_eq _ _ _ | refine hs_ne (by omega) ?_ | assumption)), (by repeat (first | exact hs_eq _ _ _ | refine hs_ne (by omega) ?_ | assumption)), (by repeat (first | exact hs_eq _ _ _ | refine hs_ne (by omega) ?_ | assumption))⟩, ?_⟩
                     exact ((hsr.take (by omega) (by omega)).free (by omega)).free (by omega))))
        · try (exfalso; omega)
          all_goals (
            refine k_vret C hr dX3_chime_17 ?_
            first
              | exact ⟨rfl, by rw [zFour, if_neg (by omega)]; exact hS, Fr.rf _ _ _⟩
              | (have hp : zPhr zrr = 4 := by unfold zPhr; rw [if_pos (by omega)]
                 have hz : zFour zrr = iu (iu (zTake zrr 2 (mnI 4 (zrr 2 / 2) * 2)) 16 (zrr 16 + mnI 4 (zrr 2 / 2))) 17 (zrr 17 + (4 - mnI 4 (zrr 2 / 2))) := by rw [zFour, if_pos (by omega), hp, zChim_take]
                 refine ⟨rfl, ?_, fun aaa haa => by repeat (first | rfl | refine hs_ne (by omega) ?_)⟩
                 rw [hz]
                 refine ⟨_, _, f3, w1, w2, w3, w4, w5, d1, d2, se, ⟨by (try simp (disch := omega) only [iu_ne, iu_eq, zWind_ne, zTake_ne, zChim_ne, zChim_16]); repeat (first | exact hs_eq _ _ _ | refine hs_ne (by omega) ?_ | assumption), (by repeat (first | exact hs_eq _ _ _ | refine hs_ne (by omega) ?_ | assumption)), (by repeat (first | exact hs_eq _ _ _ | refine hs_ne (by omega) ?_ | assumption)), (by repeat (first | exact hs_eq _ _ _ | refine hs_ne (by omega) ?_ | assumption)), (by repeat (first | exact hs_eq _ _ _ | refine hs_ne (by omega) ?_ | assumption)), by (try simp (disch := omega) only [iu_ne, iu_eq, zWind_ne, zTake_ne, zChim_ne, zChim_16]); repeat (first | exact hs_eq _ _ _ | refine hs_ne (by omega) ?_ | assumption), (by repeat (first | exact hs_eq _ _ _ | refine hs_ne (by omega) ?_ | assumption)), (by repeat (first | exact hs_eq _ _ _ | refine hs_ne (by omega) ?_ | assumption)), (by repeat (first | exact hs_eq _ _ _ | refine hs_ne (by omega) ?_ | assumption)), (by repeat (first | exact hs_eq _ _ _ | refine hs_ne (by omega) ?_ | assumption)), (by repeat (first | exact hs_eq _ _ _ | refine hs_ne (by omega) ?_ | assumption)), by (try simp (disch := omega) only [iu_ne, iu_eq, zWind_ne, zTake_ne, zChim_ne, zChim_16]); repeat (first | exact hs_eq _ _ _ | refine hs_ne (by omega) ?_ | assumption), (by repeat (first | exact hs_eq _ _ _ | refine hs_ne (by omega) ?_ | assumption)), (by repeat (first | exact hs_eq _ _ _ | refine hs_ne (by omega) ?_ | assumption)), (by repeat (first | exact hs_eq _ _ _ | refine hs_ne (by omega) ?_ | assumption))⟩, ?_⟩
                 exact ((hsr.take (by omega) (by omega)).free (by omega)).free (by omega))
              | (have hp : zPhr zrr = zrr 10 % 60 / 15 := by unfold zPhr; rw [if_neg (by omega)]
                 have hz : zFour zrr = iu (iu (zTake zrr 2 (mnI (zrr 10 % 60 / 15) (zrr 2 / 2) * 2)) 16 (zrr 16 + mnI (zrr 10 % 60 / 15) (zrr 2 / 2))) 17 (zrr 17 + (zrr 10 % 60 / 15 - mnI (zrr 10 % 60 / 15) (zrr 2 / 2))) := by rw [zFour, if_pos (by omega), hp, zChim_take]
                 refine ⟨rfl, ?_, fun aaa haa => by repeat (first | rfl | refine hs_ne (by omega) ?_)⟩
                 rw [hz]
                 refine ⟨_, _, f3, w1, w2, w3, w4, w5, d1, d2, se, ⟨by (try simp (disch := omega) only [iu_ne, iu_eq, zWind_ne, zTake_ne, zChim_ne, zChim_16]); repeat (first | exact hs_eq _ _ _ | refine hs_ne (by omega) ?_ | assumption), (by repeat (first | exact hs_eq _ _ _ | refine hs_ne (by omega) ?_ | assumption)), (by repeat (first | exact hs_eq _ _ _ | refine hs_ne (by omega) ?_ | assumption)), (by repeat (first | exact hs_eq _ _ _ | refine hs_ne (by omega) ?_ | assumption)), (by repeat (first | exact hs_eq _ _ _ | refine hs_ne (by omega) ?_ | assumption)), by (try simp (disch := omega) only [iu_ne, iu_eq, zWind_ne, zTake_ne, zChim_ne, zChim_16]); repeat (first | exact hs_eq _ _ _ | refine hs_ne (by omega) ?_ | assumption), (by repeat (first | exact hs_eq _ _ _ | refine hs_ne (by omega) ?_ | assumption)), (by repeat (first | exact hs_eq _ _ _ | refine hs_ne (by omega) ?_ | assumption)), (by repeat (first | exact hs_eq _ _ _ | refine hs_ne (by omega) ?_ | assumption)), (by repeat (first | exact hs_eq _ _ _ | refine hs_ne (by omega) ?_ | assumption)), (by repeat (first | exact hs_eq _ _ _ | refine hs_ne (by omega) ?_ | assumption)), by (try simp (disch := omega) only [iu_ne, iu_eq, zWind_ne, zTake_ne, zChim_ne, zChim_16]); repeat (first | exact hs_eq _ _ _ | refine hs_ne (by omega) ?_ | assumption), (by repeat (first | exact hs_eq _ _ _ | refine hs_ne (by omega) ?_ | assumption)), (by repeat (first | exact hs_eq _ _ _ | refine hs_ne (by omega) ?_ | assumption)), (by repeat (first | exact hs_eq _ _ _ | refine hs_ne (by omega) ?_ | assumption))⟩, ?_⟩
                 exact ((hsr.take (by omega) (by omega)).free (by omega)).free (by omega))))

set_option maxRecDepth 20000 in
set_option maxHeartbeats 1000000 in
theorem ct_X3_owe (l : Launch) (D : va_G) (tc : Nat → ClassId) (base : Nat) (oo : Nat) (zrr : RZ) (hpp : AH) (hS : SAt hpp oo zrr) (hi : zInv zrr) : CT l D tc base yX3_owe cX3_owe 1 none 2 [aR oo] hpp (fun r h' => r = none ∧ SAt h' oo (zFive zrr) ∧ Fr hpp h' oo 15) := by
  refine CT.of [some (aR oo)] (by decide +kernel) rfl (Nat.le_of_ble_eq_true rfl) ?_
  intro p e s m args below meth c C hr hnm
  obtain ⟨f1, f2, f3, w1, w2, w3, w4, w5, d1, d2, se, ⟨g0, g1, g2, g3, g4, g5, g6, g7, g8, g9, g10, g11, g12, g13, g14⟩, hsr⟩ := id hS
  obtain ⟨r1, r2, r3, r4⟩ := id hsr
  obtain ⟨⟨v0, v1, v2, v9, v10, v11, v12, v13, v21, v52, v61, v62, v63, v64, v65, v66⟩, hwi, hde⟩ := id hi
  refine k_aload_n C dX3_owe_0 rfl ?_
  refine k_get C (k := 5) inX3 (ci := 3) rfl (by decide) fl_X3_62 dX3_owe_1 (by repeat (first | exact hs_eq _ _ _ | refine hs_ne (by omega) ?_ | assumption)) rfl ?_
  refine k_bipush C dX3_owe_4 (by decide +kernel) ?_
  refine k_irem C dX3_owe_6 (by omega) (by omega) (by omega) (by omega) ?_
  refine k_if_eq (tgt := 11) C dX3_owe_7 (by decide) ⟨by omega, by omega⟩ (fun c7 => ?_) (fun c7 => ?_)
  · try (exfalso; omega)
    all_goals (
      refine k_aload_n C dX3_owe_11 rfl ?_
      refine k_callV C (n := 0) (as := []) (ct_X3_isSilent l D tc base oo zrr _ hS hi) ml_X3_171 im_X3_isSilent se_X3_isSilent ini_X3 co_X3_isSilent ⟨rfl, by decide, by decide, by decide +kernel⟩ rfl (ci := 3) rfl (by repeat (first | exact hs_eq _ _ _ | refine hs_ne (by omega) ?_ | assumption)) ⟨by decide, by decide⟩ rfl (Nat.le_of_ble_eq_true rfl) ⟨Nat.zero_le _, Nat.zero_le _⟩ dX3_owe_12 ?_
      rintro _ _ (⟨rfl, rfl, hq⟩ | ⟨rfl, rfl, hq⟩)
      · skip
        refine k_if_eq (tgt := 32) C dX3_owe_15 (by decide) ⟨by omega, by omega⟩ (fun c15 => ?_) (fun c15 => ?_)
        · try (exfalso; omega)
          all_goals (
            refine k_aload_n C dX3_owe_32 rfl ?_
            refine k_get C (k := 2) inX3 (ci := 3) rfl (by decide) fl_X3_28 dX3_owe_33 (by repeat (first | exact hs_eq _ _ _ | refine hs_ne (by omega) ?_ | assumption)) rfl ?_
            refine k_get C (k := 0) inX0 (ci := 0) rfl (by decide) fl_X3_152 dX3_owe_36 (by repeat (first | exact hs_eq _ _ _ | refine hs_ne (by omega) ?_ | assumption)) rfl ?_
            refine k_iconst C dX3_owe_39 ?_
            refine k_icmp_ne (tgt := 68) C dX3_owe_40 (by decide) ⟨by omega, by omega⟩ ⟨by omega, by omega⟩ (fun c40 => ?_) (fun c40 => ?_)
            · try (exfalso; omega)
              all_goals (
                refine k_aload_n C dX3_owe_68 rfl ?_
                refine k_get C (k := 2) inX3 (ci := 3) rfl (by decide) fl_X3_28 dX3_owe_69 (by repeat (first | exact hs_eq _ _ _ | refine hs_ne (by omega) ?_ | assumption)) rfl ?_
                refine k_aload_n C dX3_owe_72 rfl ?_
                refine k_callV C (n := 0) (as := []) (ct_X3_hourShown l D tc base oo _ _ _ _ _ _ _ _ (by repeat (first | exact hs_eq _ _ _ | refine hs_ne (by omega) ?_ | assumption)) (by omega) (by omega)) ml_X3_92 im_X3_hourShown se_X3_hourShown ini_X3 co_X3_hourShown ⟨rfl, by decide, by decide, by decide +kernel⟩ rfl (ci := 3) rfl (by repeat (first | exact hs_eq _ _ _ | refine hs_ne (by omega) ?_ | assumption)) ⟨by decide, by decide⟩ rfl (Nat.le_of_ble_eq_true rfl) ⟨Nat.zero_le _, Nat.zero_le _⟩ dX3_owe_73 ?_
                rintro _ _ ⟨rfl, rfl⟩
                refine k_callV C (n := 1) (as := [_]) (ct_X0_add l D tc base _ (oo + 11) _ _ _ (by repeat (first | exact hs_eq _ _ _ | refine hs_ne (by omega) ?_ | assumption)) (by repeat (first | exact hs_eq _ _ _ | refine hs_ne (by omega) ?_ | assumption)) (by repeat (first | exact hs_eq _ _ _ | refine hs_ne (by omega) ?_ | assumption)) _ (by omega) (by omega)) ml_X3_180 im_X0_add se_X0_add ini_X0 co_X0_add ⟨rfl, by decide, by decide, by decide +kernel⟩ rfl (ci := 0) rfl (by repeat (first | exact hs_eq _ _ _ | refine hs_ne (by omega) ?_ | assumption)) ⟨by decide, by decide⟩ rfl (Nat.le_of_ble_eq_true rfl) ⟨Nat.zero_le _, Nat.zero_le _⟩ dX3_owe_76 ?_
                rintro _ _ ⟨rfl, rfl⟩
                refine k_vret C hr dX3_owe_79 ?_
                first
                  | exact ⟨rfl, by rw [zFive, if_pos (by omega)]; exact hS, Fr.rf _ _ _⟩
                  | (have hz : zFive zrr = iu zrr 15 (zrr 15 + zHour (zrr 10)) := by rw [zFive, if_neg (by omega), if_pos (by omega)]
                     refine ⟨rfl, ?_, fun aaa haa => by repeat (first | rfl | refine hs_ne (by omega) ?_)⟩
                     rw [hz]
                     refine ⟨f1, f2, f3, w1, w2, w3, w4, w5, d1, d2, se, ⟨by (try simp (disch := omega) only [iu_ne, iu_eq, zWind_ne, zTake_ne, zChim_ne, zChim_16]); repeat (first | exact hs_eq _ _ _ | refine hs_ne (by omega) ?_ | assumption), (by repeat (first | exact hs_eq _ _ _ | refine hs_ne (by omega) ?_ | assumption)), (by repeat (first | exact hs_eq _ _ _ | refine hs_ne (by omega) ?_ | assumption)), (by repeat (first | exact hs_eq _ _ _ | refine hs_ne (by omega) ?_ | assumption)), (by repeat (first | exact hs_eq _ _ _ | refine hs_ne (by omega) ?_ | assumption)), by (try simp (disch := omega) only [iu_ne, iu_eq, zWind_ne, zTake_ne, zChim_ne, zChim_16]); repeat (first | exact hs_eq _ _ _ | refine hs_ne (by omega) ?_ | assumption), (by repeat (first | exact hs_eq _ _ _ | refine hs_ne (by omega) ?_ | assumption)), (by repeat (first | exact hs_eq _ _ _ | refine hs_ne (by omega) ?_ | assumption)), (by repeat (first | exact hs_eq _ _ _ | refine hs_ne (by omega) ?_ | assumption)), (by repeat (first | exact hs_eq _ _ _ | refine hs_ne (by omega) ?_ | assumption)), (by repeat (first | exact hs_eq _ _ _ | refine hs_ne (by omega) ?_ | assumption)), by (try simp (disch := omega) only [iu_ne, iu_eq, zWind_ne, zTake_ne, zChim_ne, zChim_16]); repeat (first | exact hs_eq _ _ _ | refine hs_ne (by omega) ?_ | assumption), (by repeat (first | exact hs_eq _ _ _ | refine hs_ne (by omega) ?_ | assumption)), (by repeat (first | exact hs_eq _ _ _ | refine hs_ne (by omega) ?_ | assumption)), (by repeat (first | exact hs_eq _ _ _ | refine hs_ne (by omega) ?_ | assumption))⟩, ?_⟩
                     exact hsr.free (by omega))
                  | (have hmk : zMk zrr = zrr := if_neg (by omega)
                     have hz : zFive zrr = iu (iu (iu zrr (53 + 2 * zrr 52) (zHour (zrr 10))) (53 + 2 * zrr 52 + 1) (zHour (zrr 10))) 52 (zrr 52 + 1) := by rw [zFive, if_neg (by omega), if_neg (by omega), hmk]
                     refine ⟨rfl, ?_, fun aaa haa => by repeat (first | rfl | refine hs_ne (by omega) ?_)⟩
                     rw [hz]
                     refine ⟨f1, f2, f3, w1, w2, w3, w4, w5, _, _, se, ⟨by (try simp (disch := omega) only [iu_ne, iu_eq, zWind_ne, zTake_ne, zChim_ne, zChim_16]); repeat (first | exact hs_eq _ _ _ | refine hs_ne (by omega) ?_ | assumption), (by repeat (first | exact hs_eq _ _ _ | refine hs_ne (by omega) ?_ | assumption)), (by repeat (first | exact hs_eq _ _ _ | refine hs_ne (by omega) ?_ | assumption)), (by repeat (first | exact hs_eq _ _ _ | refine hs_ne (by omega) ?_ | assumption)), (by repeat (first | exact hs_eq _ _ _ | refine hs_ne (by omega) ?_ | assumption)), by (try simp (disch := omega) only [iu_ne, iu_eq, zWind_ne, zTake_ne, zChim_ne, zChim_16]); repeat (first | exact hs_eq _ _ _ | refine hs_ne (by omega) ?_ | assumption), (by repeat (first | exact hs_eq _ _ _ | refine hs_ne (by omega) ?_ | assumption)), (by repeat (first | exact hs_eq _ _ _ | refine hs_ne (by omega) ?_ | assumption)), (by repeat (first | exact hs_eq _ _ _ | refine hs_ne (by omega) ?_ | assumption)), (by repeat (first | exact hs_eq _ _ _ | refine hs_ne (by omega) ?_ | assumption)), (by repeat (first | exact hs_eq _ _ _ | refine hs_ne (by omega) ?_ | assumption)), by (try simp (disch := omega) only [iu_ne, iu_eq, zWind_ne, zTake_ne, zChim_ne, zChim_16]); repeat (first | exact hs_eq _ _ _ | refine hs_ne (by omega) ?_ | assumption), (by repeat (first | exact hs_eq _ _ _ | refine hs_ne (by omega) ?_ | assumption)), (by repeat (first | exact hs_eq _ _ _ | refine hs_ne (by omega) ?_ | assumption)), (by repeat (first | exact hs_eq _ _ _ | refine hs_ne (by omega) ?_ | assumption))⟩, ?_⟩
                     exact hsr.owe (by omega) (by omega) (by omega))
                  | (have hmk : zMk zrr = zDrop (iu zrr 15 (zrr 15 + zrr 54)) := if_pos (by omega)
                     have q52 : iu zrr 15 (zrr 15 + zrr 54) 52 = zrr 52 := iu_ne (by omega)
                     have q21 : iu zrr 15 (zrr 15 + zrr 54) 21 = zrr 21 := iu_ne (by omega)
                     have hm52 : zDrop (iu zrr 15 (zrr 15 + zrr 54)) 52 = zrr 52 - 1 := by rw [zDrop_52, q52]
                     have hm21 : zDrop (iu zrr 15 (zrr 15 + zrr 54)) 21 = zrr 21 := by rw [zDrop_ne (by omega) (by omega), q21]
                     have hdn : ∀ kkk : Int, kkk < 52 ∨ 61 ≤ kkk → zDrop (iu zrr 15 (zrr 15 + zrr 54)) kkk = iu zrr 15 (zrr 15 + zrr 54) kkk := fun kkk hk => zDrop_ne hk (by omega)
                     have d20 : d2 0 = zrr 54 := (r3 0 (by omega) (by omega)).2
                     have hz : zFive zrr = iu (iu (iu (zDrop (iu zrr 15 (zrr 15 + zrr 54))) (53 + 2 * (zrr 52 - 1)) (zHour (zrr 10))) (53 + 2 * (zrr 52 - 1) + 1) (zHour (zrr 10))) 52 (zrr 52 - 1 + 1) := by rw [zFive, if_neg (by omega), if_neg (by omega), hmk, hm52]
                     have hso := SR.owe (x := zHour (zrr 10)) (SR.drop (e1 := F1) (e2 := F2) (hsr.free (j := 15) (v := zrr 15 + zrr 54) (by omega)) (by omega) (by omega) (by omega) (fun k0 k1 k2 => hF.1 k0 k1 (by omega)) (fun k0 k1 k2 => hF.2 k0 k1 (by omega))) (by omega) (by omega) (by omega)
                     rw [hm52] at hso
                     rw [d20]
                     refine ⟨rfl, ?_, fun aaa haa => by repeat (first | rfl | refine hs_ne (by omega) ?_)⟩
                     rw [hz]
                     refine ⟨f1, f2, f3, w1, w2, w3, w4, w5, _, _, se, ⟨by (try simp (disch := omega) only [iu_ne, iu_eq, zWind_ne, zTake_ne, zChim_ne, zChim_16, hdn]); repeat (first | exact hs_eq _ _ _ | refine hs_ne (by omega) ?_ | assumption), (by repeat (first | exact hs_eq _ _ _ | refine hs_ne (by omega) ?_ | assumption)), (by repeat (first | exact hs_eq _ _ _ | refine hs_ne (by omega) ?_ | assumption)), (by repeat (first | exact hs_eq _ _ _ | refine hs_ne (by omega) ?_ | assumption)), (by repeat (first | exact hs_eq _ _ _ | refine hs_ne (by omega) ?_ | assumption)), by (try simp (disch := omega) only [iu_ne, iu_eq, zWind_ne, zTake_ne, zChim_ne, zChim_16, hdn]); repeat (first | exact hs_eq _ _ _ | refine hs_ne (by omega) ?_ | assumption), (by repeat (first | exact hs_eq _ _ _ | refine hs_ne (by omega) ?_ | assumption)), (by repeat (first | exact hs_eq _ _ _ | refine hs_ne (by omega) ?_ | assumption)), (by repeat (first | exact hs_eq _ _ _ | refine hs_ne (by omega) ?_ | assumption)), (by repeat (first | exact hs_eq _ _ _ | refine hs_ne (by omega) ?_ | assumption)), (by repeat (first | exact hs_eq _ _ _ | refine hs_ne (by omega) ?_ | assumption)), by (try simp (disch := omega) only [iu_ne, iu_eq, zWind_ne, zTake_ne, zChim_ne, zChim_16, hdn]); repeat (first | exact hs_eq _ _ _ | refine hs_ne (by omega) ?_ | assumption), (by repeat (first | exact hs_eq _ _ _ | refine hs_ne (by omega) ?_ | assumption)), (by repeat (first | exact hs_eq _ _ _ | refine hs_ne (by omega) ?_ | assumption)), (by repeat (first | exact hs_eq _ _ _ | refine hs_ne (by omega) ?_ | assumption))⟩, ?_⟩
                     exact hso))
            · try (exfalso; omega)
              all_goals (
                refine k_aload_n C dX3_owe_43 rfl ?_
                refine k_dup C dX3_owe_44 rfl ?_
                refine k_get C (k := 10) inX3 (ci := 3) rfl (by decide) fl_X3_74 dX3_owe_45 (by repeat (first | exact hs_eq _ _ _ | refine hs_ne (by omega) ?_ | assumption)) rfl ?_
                refine k_aload_n C dX3_owe_48 rfl ?_
                refine k_get C (k := 2) inX3 (ci := 3) rfl (by decide) fl_X3_28 dX3_owe_49 (by repeat (first | exact hs_eq _ _ _ | refine hs_ne (by omega) ?_ | assumption)) rfl ?_
                refine k_get C (k := 2) inX0 (ci := 0) rfl (by decide) fl_X3_174 dX3_owe_52 (by repeat (first | exact hs_eq _ _ _ | refine hs_ne (by omega) ?_ | assumption)) rfl ?_
                refine k_iconst C dX3_owe_55 ?_
                refine k_iaload C dX3_owe_56 (by repeat (first | exact hs_eq _ _ _ | refine hs_ne (by omega) ?_ | assumption)) (by omega) (by omega) (by omega) ?_
                refine k_iadd C dX3_owe_57 ?_
                refine k_put C (k := 10) inX3 tyX3_ok nmX3 (ci := 3) rfl (by decide) fl_X3_74 rfl (Nat.le_of_ble_eq_true rfl) dX3_owe_58 (by repeat (first | exact hs_eq _ _ _ | refine hs_ne (by omega) ?_ | assumption)) ?_
                refine k_aload_n C dX3_owe_61 rfl ?_
                refine k_get C (k := 2) inX3 (ci := 3) rfl (by decide) fl_X3_28 dX3_owe_62 (by repeat (first | exact hs_eq _ _ _ | refine hs_ne (by omega) ?_ | assumption)) rfl ?_
                refine k_callV C (n := 0) (as := []) (ct_X0_dropFirst l D tc base _ (oo + 11) d1 d2 (zrr 52) (by repeat (first | exact hs_eq _ _ _ | refine hs_ne (by omega) ?_ | assumption)) (by repeat (first | exact hs_eq _ _ _ | refine hs_ne (by omega) ?_ | assumption)) (by repeat (first | exact hs_eq _ _ _ | refine hs_ne (by omega) ?_ | assumption)) (by omega) (by omega)) ml_X3_177 im_X0_dropFirst se_X0_dropFirst ini_X0 co_X0_dropFirst ⟨rfl, by decide, by decide, by decide +kernel⟩ rfl (ci := 0) rfl (by repeat (first | exact hs_eq _ _ _ | refine hs_ne (by omega) ?_ | assumption)) ⟨by decide, by decide⟩ rfl (Nat.le_of_ble_eq_true rfl) ⟨Nat.zero_le _, Nat.zero_le _⟩ dX3_owe_65 ?_
                rintro _ _ ⟨rfl, F1, F2, hF, rfl⟩
                refine k_aload_n C dX3_owe_68 rfl ?_
                refine k_get C (k := 2) inX3 (ci := 3) rfl (by decide) fl_X3_28 dX3_owe_69 (by repeat (first | exact hs_eq _ _ _ | refine hs_ne (by omega) ?_ | assumption)) rfl ?_
                refine k_aload_n C dX3_owe_72 rfl ?_
                refine k_callV C (n := 0) (as := []) (ct_X3_hourShown l D tc base oo _ _ _ _ _ _ _ _ (by repeat (first | exact hs_eq _ _ _ | refine hs_ne (by omega) ?_ | assumption)) (by omega) (by omega)) ml_X3_92 im_X3_hourShown se_X3_hourShown ini_X3 co_X3_hourShown ⟨rfl, by decide, by decide, by decide +kernel⟩ rfl (ci := 3) rfl (by repeat (first | exact hs_eq _ _ _ | refine hs_ne (by omega) ?_ | assumption)) ⟨by decide, by decide⟩ rfl (Nat.le_of_ble_eq_true rfl) ⟨Nat.zero_le _, Nat.zero_le _⟩ dX3_owe_73 ?_
                rintro _ _ ⟨rfl, rfl⟩
                refine k_callV C (n := 1) (as := [_]) (ct_X0_add l D tc base _ (oo + 11) _ _ _ (by repeat (first | exact hs_eq _ _ _ | refine hs_ne (by omega) ?_ | assumption)) (by repeat (first | exact hs_eq _ _ _ | refine hs_ne (by omega) ?_ | assumption)) (by repeat (first | exact hs_eq _ _ _ | refine hs_ne (by omega) ?_ | assumption)) _ (by omega) (by omega)) ml_X3_180 im_X0_add se_X0_add ini_X0 co_X0_add ⟨rfl, by decide, by decide, by decide +kernel⟩ rfl (ci := 0) rfl (by repeat (first | exact hs_eq _ _ _ | refine hs_ne (by omega) ?_ | assumption)) ⟨by decide, by decide⟩ rfl (Nat.le_of_ble_eq_true rfl) ⟨Nat.zero_le _, Nat.zero_le _⟩ dX3_owe_76 ?_
                rintro _ _ ⟨rfl, rfl⟩
                refine k_vret C hr dX3_owe_79 ?_
                first
                  | exact ⟨rfl, by rw [zFive, if_pos (by omega)]; exact hS, Fr.rf _ _ _⟩
                  | (have hz : zFive zrr = iu zrr 15 (zrr 15 + zHour (zrr 10)) := by rw [zFive, if_neg (by omega), if_pos (by omega)]
                     refine ⟨rfl, ?_, fun aaa haa => by repeat (first | rfl | refine hs_ne (by omega) ?_)⟩
                     rw [hz]
                     refine ⟨f1, f2, f3, w1, w2, w3, w4, w5, d1, d2, se, ⟨by (try simp (disch := omega) only [iu_ne, iu_eq, zWind_ne, zTake_ne, zChim_ne, zChim_16]); repeat (first | exact hs_eq _ _ _ | refine hs_ne (by omega) ?_ | assumption), (by repeat (first | exact hs_eq _ _ _ | refine hs_ne (by omega) ?_ | assumption)), (by repeat (first | exact hs_eq _ _ _ | refine hs_ne (by omega) ?_ | assumption)), (by repeat (first | exact hs_eq _ _ _ | refine hs_ne (by omega) ?_ | assumption)), (by repeat (first | exact hs_eq _ _ _ | refine hs_ne (by omega) ?_ | assumption)), by (try simp (disch := omega) only [iu_ne, iu_eq, zWind_ne, zTake_ne, zChim_ne, zChim_16]); repeat (first | exact hs_eq _ _ _ | refine hs_ne (by omega) ?_ | assumption), (by repeat (first | exact hs_eq _ _ _ | refine hs_ne (by omega) ?_ | assumption)), (by repeat (first | exact hs_eq _ _ _ | refine hs_ne (by omega) ?_ | assumption)), (by repeat (first | exact hs_eq _ _ _ | refine hs_ne (by omega) ?_ | assumption)), (by repeat (first | exact hs_eq _ _ _ | refine hs_ne (by omega) ?_ | assumption)), (by repeat (first | exact hs_eq _ _ _ | refine hs_ne (by omega) ?_ | assumption)), by (try simp (disch := omega) only [iu_ne, iu_eq, zWind_ne, zTake_ne, zChim_ne, zChim_16]); repeat (first | exact hs_eq _ _ _ | refine hs_ne (by omega) ?_ | assumption), (by repeat (first | exact hs_eq _ _ _ | refine hs_ne (by omega) ?_ | assumption)), (by repeat (first | exact hs_eq _ _ _ | refine hs_ne (by omega) ?_ | assumption)), (by repeat (first | exact hs_eq _ _ _ | refine hs_ne (by omega) ?_ | assumption))⟩, ?_⟩
                     exact hsr.free (by omega))
                  | (have hmk : zMk zrr = zrr := if_neg (by omega)
                     have hz : zFive zrr = iu (iu (iu zrr (53 + 2 * zrr 52) (zHour (zrr 10))) (53 + 2 * zrr 52 + 1) (zHour (zrr 10))) 52 (zrr 52 + 1) := by rw [zFive, if_neg (by omega), if_neg (by omega), hmk]
                     refine ⟨rfl, ?_, fun aaa haa => by repeat (first | rfl | refine hs_ne (by omega) ?_)⟩
                     rw [hz]
                     refine ⟨f1, f2, f3, w1, w2, w3, w4, w5, _, _, se, ⟨by (try simp (disch := omega) only [iu_ne, iu_eq, zWind_ne, zTake_ne, zChim_ne, zChim_16]); repeat (first | exact hs_eq _ _ _ | refine hs_ne (by omega) ?_ | assumption), (by repeat (first | exact hs_eq _ _ _ | refine hs_ne (by omega) ?_ | assumption)), (by repeat (first | exact hs_eq _ _ _ | refine hs_ne (by omega) ?_ | assumption)), (by repeat (first | exact hs_eq _ _ _ | refine hs_ne (by omega) ?_ | assumption)), (by repeat (first | exact hs_eq _ _ _ | refine hs_ne (by omega) ?_ | assumption)), by (try simp (disch := omega) only [iu_ne, iu_eq, zWind_ne, zTake_ne, zChim_ne, zChim_16]); repeat (first | exact hs_eq _ _ _ | refine hs_ne (by omega) ?_ | assumption), (by repeat (first | exact hs_eq _ _ _ | refine hs_ne (by omega) ?_ | assumption)), (by repeat (first | exact hs_eq _ _ _ | refine hs_ne (by omega) ?_ | assumption)), (by repeat (first | exact hs_eq _ _ _ | refine hs_ne (by omega) ?_ | assumption)), (by repeat (first | exact hs_eq _ _ _ | refine hs_ne (by omega) ?_ | assumption)), (by repeat (first | exact hs_eq _ _ _ | refine hs_ne (by omega) ?_ | assumption)), by (try simp (disch := omega) only [iu_ne, iu_eq, zWind_ne, zTake_ne, zChim_ne, zChim_16]); repeat (first | exact hs_eq _ _ _ | refine hs_ne (by omega) ?_ | assumption), (by repeat (first | exact hs_eq _ _ _ | refine hs_ne (by omega) ?_ | assumption)), (by repeat (first | exact hs_eq _ _ _ | refine hs_ne (by omega) ?_ | assumption)), (by repeat (first | exact hs_eq _ _ _ | refine hs_ne (by omega) ?_ | assumption))⟩, ?_⟩
                     exact hsr.owe (by omega) (by omega) (by omega))
                  | (have hmk : zMk zrr = zDrop (iu zrr 15 (zrr 15 + zrr 54)) := if_pos (by omega)
                     have q52 : iu zrr 15 (zrr 15 + zrr 54) 52 = zrr 52 := iu_ne (by omega)
                     have q21 : iu zrr 15 (zrr 15 + zrr 54) 21 = zrr 21 := iu_ne (by omega)
                     have hm52 : zDrop (iu zrr 15 (zrr 15 + zrr 54)) 52 = zrr 52 - 1 := by rw [zDrop_52, q52]
                     have hm21 : zDrop (iu zrr 15 (zrr 15 + zrr 54)) 21 = zrr 21 := by rw [zDrop_ne (by omega) (by omega), q21]
                     have hdn : ∀ kkk : Int, kkk < 52 ∨ 61 ≤ kkk → zDrop (iu zrr 15 (zrr 15 + zrr 54)) kkk = iu zrr 15 (zrr 15 + zrr 54) kkk := fun kkk hk => zDrop_ne hk (by omega)
                     have d20 : d2 0 = zrr 54 := (r3 0 (by omega) (by omega)).2
                     have hz : zFive zrr = iu (iu (iu (zDrop (iu zrr 15 (zrr 15 + zrr 54))) (53 + 2 * (zrr 52 - 1)) (zHour (zrr 10))) (53 + 2 * (zrr 52 - 1) + 1) (zHour (zrr 10))) 52 (zrr 52 - 1 + 1) := by rw [zFive, if_neg (by omega), if_neg (by omega), hmk, hm52]
                     have hso := SR.owe (x := zHour (zrr 10)) (SR.drop (e1 := F1) (e2 := F2) (hsr.free (j := 15) (v := zrr 15 + zrr 54) (by omega)) (by omega) (by omega) (by omega) (fun k0 k1 k2 => hF.1 k0 k1 (by omega)) (fun k0 k1 k2 => hF.2 k0 k1 (by omega))) (by omega) (by omega) (by omega)
                     rw [hm52] at hso
                     rw [d20]
                     refine ⟨rfl, ?_, fun aaa haa => by repeat (first | rfl | refine hs_ne (by omega) ?_)⟩
                     rw [hz]
                     refine ⟨f1, f2, f3, w1, w2, w3, w4, w5, _, _, se, ⟨by (try simp (disch := omega) only [iu_ne, iu_eq, zWind_ne, zTake_ne, zChim_ne, zChim_16, hdn]); repeat (first | exact hs_eq _ _ _ | refine hs_ne (by omega) ?_ | assumption), (by repeat (first | exact hs_eq _ _ _ | refine hs_ne (by omega) ?_ | assumption)), (by repeat (first | exact hs_eq _ _ _ | refine hs_ne (by omega) ?_ | assumption)), (by repeat (first | exact hs_eq _ _ _ | refine hs_ne (by omega) ?_ | assumption)), (by repeat (first | exact hs_eq _ _ _ | refine hs_ne (by omega) ?_ | assumption)), by (try simp (disch := omega) only [iu_ne, iu_eq, zWind_ne, zTake_ne, zChim_ne, zChim_16, hdn]); repeat (first | exact hs_eq _ _ _ | refine hs_ne (by omega) ?_ | assumption), (by repeat (first | exact hs_eq _ _ _ | refine hs_ne (by omega) ?_ | assumption)), (by repeat (first | exact hs_eq _ _ _ | refine hs_ne (by omega) ?_ | assumption)), (by repeat (first | exact hs_eq _ _ _ | refine hs_ne (by omega) ?_ | assumption)), (by repeat (first | exact hs_eq _ _ _ | refine hs_ne (by omega) ?_ | assumption)), (by repeat (first | exact hs_eq _ _ _ | refine hs_ne (by omega) ?_ | assumption)), by (try simp (disch := omega) only [iu_ne, iu_eq, zWind_ne, zTake_ne, zChim_ne, zChim_16, hdn]); repeat (first | exact hs_eq _ _ _ | refine hs_ne (by omega) ?_ | assumption), (by repeat (first | exact hs_eq _ _ _ | refine hs_ne (by omega) ?_ | assumption)), (by repeat (first | exact hs_eq _ _ _ | refine hs_ne (by omega) ?_ | assumption)), (by repeat (first | exact hs_eq _ _ _ | refine hs_ne (by omega) ?_ | assumption))⟩, ?_⟩
                     exact hso)))
        · try (exfalso; omega)
          all_goals (
            refine k_aload_n C dX3_owe_18 rfl ?_
            refine k_dup C dX3_owe_19 rfl ?_
            refine k_get C (k := 10) inX3 (ci := 3) rfl (by decide) fl_X3_74 dX3_owe_20 (by repeat (first | exact hs_eq _ _ _ | refine hs_ne (by omega) ?_ | assumption)) rfl ?_
            refine k_aload_n C dX3_owe_23 rfl ?_
            refine k_callV C (n := 0) (as := []) (ct_X3_hourShown l D tc base oo _ _ _ _ _ _ _ _ (by repeat (first | exact hs_eq _ _ _ | refine hs_ne (by omega) ?_ | assumption)) (by omega) (by omega)) ml_X3_92 im_X3_hourShown se_X3_hourShown ini_X3 co_X3_hourShown ⟨rfl, by decide, by decide, by decide +kernel⟩ rfl (ci := 3) rfl (by repeat (first | exact hs_eq _ _ _ | refine hs_ne (by omega) ?_ | assumption)) ⟨by decide, by decide⟩ rfl (Nat.le_of_ble_eq_true rfl) ⟨Nat.zero_le _, Nat.zero_le _⟩ dX3_owe_24 ?_
            rintro _ _ ⟨rfl, rfl⟩
            refine k_iadd C dX3_owe_27 ?_
            refine k_put C (k := 10) inX3 tyX3_ok nmX3 (ci := 3) rfl (by decide) fl_X3_74 rfl (Nat.le_of_ble_eq_true rfl) dX3_owe_28 (by repeat (first | exact hs_eq _ _ _ | refine hs_ne (by omega) ?_ | assumption)) ?_
            refine k_vret C hr dX3_owe_31 ?_
            first
              | exact ⟨rfl, by rw [zFive, if_pos (by omega)]; exact hS, Fr.rf _ _ _⟩
              | (have hz : zFive zrr = iu zrr 15 (zrr 15 + zHour (zrr 10)) := by rw [zFive, if_neg (by omega), if_pos (by omega)]
                 refine ⟨rfl, ?_, fun aaa haa => by repeat (first | rfl | refine hs_ne (by omega) ?_)⟩
                 rw [hz]
                 refine ⟨f1, f2, f3, w1, w2, w3, w4, w5, d1, d2, se, ⟨by (try simp (disch := omega) only [iu_ne, iu_eq, zWind_ne, zTake_ne, zChim_ne, zChim_16]); repeat (first | exact hs_eq _ _ _ | refine hs_ne (by omega) ?_ | assumption), (by repeat (first | exact hs_eq _ _ _ | refine hs_ne (by omega) ?_ | assumption)), (by repeat (first | exact hs_eq _ _ _ | refine hs_ne (by omega) ?_ | assumption)), (by repeat (first | exact hs_eq _ _ _ | refine hs_ne (by omega) ?_ | assumption)), (by repeat (first | exact hs_eq _ _ _ | refine hs_ne (by omega) ?_ | assumption)), by (try simp (disch := omega) only [iu_ne, iu_eq, zWind_ne, zTake_ne, zChim_ne, zChim_16]); repeat (first | exact hs_eq _ _ _ | refine hs_ne (by omega) ?_ | assumption), (by repeat (first | exact hs_eq _ _ _ | refine hs_ne (by omega) ?_ | assumption)), (by repeat (first | exact hs_eq _ _ _ | refine hs_ne (by omega) ?_ | assumption)), (by repeat (first | exact hs_eq _ _ _ | refine hs_ne (by omega) ?_ | assumption)), (by repeat (first | exact hs_eq _ _ _ | refine hs_ne (by omega) ?_ | assumption)), (by repeat (first | exact hs_eq _ _ _ | refine hs_ne (by omega) ?_ | assumption)), by (try simp (disch := omega) only [iu_ne, iu_eq, zWind_ne, zTake_ne, zChim_ne, zChim_16]); repeat (first | exact hs_eq _ _ _ | refine hs_ne (by omega) ?_ | assumption), (by repeat (first | exact hs_eq _ _ _ | refine hs_ne (by omega) ?_ | assumption)), (by repeat (first | exact hs_eq _ _ _ | refine hs_ne (by omega) ?_ | assumption)), (by repeat (first | exact hs_eq _ _ _ | refine hs_ne (by omega) ?_ | assumption))⟩, ?_⟩
                 exact hsr.free (by omega))
              | (have hmk : zMk zrr = zrr := if_neg (by omega)
                 have hz : zFive zrr = iu (iu (iu zrr (53 + 2 * zrr 52) (zHour (zrr 10))) (53 + 2 * zrr 52 + 1) (zHour (zrr 10))) 52 (zrr 52 + 1) := by rw [zFive, if_neg (by omega), if_neg (by omega), hmk]
                 refine ⟨rfl, ?_, fun aaa haa => by repeat (first | rfl | refine hs_ne (by omega) ?_)⟩
                 rw [hz]
                 refine ⟨f1, f2, f3, w1, w2, w3, w4, w5, _, _, se, ⟨by (try simp (disch := omega) only [iu_ne, iu_eq, zWind_ne, zTake_ne, zChim_ne, zChim_16]); repeat (first | exact hs_eq _ _ _ | refine hs_ne (by omega) ?_ | assumption), (by repeat (first | exact hs_eq _ _ _ | refine hs_ne (by omega) ?_ | assumption)), (by repeat (first | exact hs_eq _ _ _ | refine hs_ne (by omega) ?_ | assumption)), (by repeat (first | exact hs_eq _ _ _ | refine hs_ne (by omega) ?_ | assumption)), (by repeat (first | exact hs_eq _ _ _ | refine hs_ne (by omega) ?_ | assumption)), by (try simp (disch := omega) only [iu_ne, iu_eq, zWind_ne, zTake_ne, zChim_ne, zChim_16]); repeat (first | exact hs_eq _ _ _ | refine hs_ne (by omega) ?_ | assumption), (by repeat (first | exact hs_eq _ _ _ | refine hs_ne (by omega) ?_ | assumption)), (by repeat (first | exact hs_eq _ _ _ | refine hs_ne (by omega) ?_ | assumption)), (by repeat (first | exact hs_eq _ _ _ | refine hs_ne (by omega) ?_ | assumption)), (by repeat (first | exact hs_eq _ _ _ | refine hs_ne (by omega) ?_ | assumption)), (by repeat (first | exact hs_eq _ _ _ | refine hs_ne (by omega) ?_ | assumption)), by (try simp (disch := omega) only [iu_ne, iu_eq, zWind_ne, zTake_ne, zChim_ne, zChim_16]); repeat (first | exact hs_eq _ _ _ | refine hs_ne (by omega) ?_ | assumption), (by repeat (first | exact hs_eq _ _ _ | refine hs_ne (by omega) ?_ | assumption)), (by repeat (first | exact hs_eq _ _ _ | refine hs_ne (by omega) ?_ | assumption)), (by repeat (first | exact hs_eq _ _ _ | refine hs_ne (by omega) ?_ | assumption))⟩, ?_⟩
                 exact hsr.owe (by omega) (by omega) (by omega))
              | (have hmk : zMk zrr = zDrop (iu zrr 15 (zrr 15 + zrr 54)) := if_pos (by omega)
                 have q52 : iu zrr 15 (zrr 15 + zrr 54) 52 = zrr 52 := iu_ne (by omega)
                 have q21 : iu zrr 15 (zrr 15 + zrr 54) 21 = zrr 21 := iu_ne (by omega)
                 have hm52 : zDrop (iu zrr 15 (zrr 15 + zrr 54)) 52 = zrr 52 - 1 := by rw [zDrop_52, q52]
                 have hm21 : zDrop (iu zrr 15 (zrr 15 + zrr 54)) 21 = zrr 21 := by rw [zDrop_ne (by omega) (by omega), q21]
                 have hdn : ∀ kkk : Int, kkk < 52 ∨ 61 ≤ kkk → zDrop (iu zrr 15 (zrr 15 + zrr 54)) kkk = iu zrr 15 (zrr 15 + zrr 54) kkk := fun kkk hk => zDrop_ne hk (by omega)
                 have d20 : d2 0 = zrr 54 := (r3 0 (by omega) (by omega)).2
                 have hz : zFive zrr = iu (iu (iu (zDrop (iu zrr 15 (zrr 15 + zrr 54))) (53 + 2 * (zrr 52 - 1)) (zHour (zrr 10))) (53 + 2 * (zrr 52 - 1) + 1) (zHour (zrr 10))) 52 (zrr 52 - 1 + 1) := by rw [zFive, if_neg (by omega), if_neg (by omega), hmk, hm52]
                 have hso := SR.owe (x := zHour (zrr 10)) (SR.drop (e1 := F1) (e2 := F2) (hsr.free (j := 15) (v := zrr 15 + zrr 54) (by omega)) (by omega) (by omega) (by omega) (fun k0 k1 k2 => hF.1 k0 k1 (by omega)) (fun k0 k1 k2 => hF.2 k0 k1 (by omega))) (by omega) (by omega) (by omega)
                 rw [hm52] at hso
                 rw [d20]
                 refine ⟨rfl, ?_, fun aaa haa => by repeat (first | rfl | refine hs_ne (by omega) ?_)⟩
                 rw [hz]
                 refine ⟨f1, f2, f3, w1, w2, w3, w4, w5, _, _, se, ⟨by (try simp (disch := omega) only [iu_ne, iu_eq, zWind_ne, zTake_ne, zChim_ne, zChim_16, hdn]); repeat (first | exact hs_eq _ _ _ | refine hs_ne (by omega) ?_ | assumption), (by repeat (first | exact hs_eq _ _ _ | refine hs_ne (by omega) ?_ | assumption)), (by repeat (first | exact hs_eq _ _ _ | refine hs_ne (by omega) ?_ | assumption)), (by repeat (first | exact hs_eq _ _ _ | refine hs_ne (by omega) ?_ | assumption)), (by repeat (first | exact hs_eq _ _ _ | refine hs_ne (by omega) ?_ | assumption)), by (try simp (disch := omega) only [iu_ne, iu_eq, zWind_ne, zTake_ne, zChim_ne, zChim_16, hdn]); repeat (first | exact hs_eq _ _ _ | refine hs_ne (by omega) ?_ | assumption), (by repeat (first | exact hs_eq _ _ _ | refine hs_ne (by omega) ?_ | assumption)), (by repeat (first | exact hs_eq _ _ _ | refine hs_ne (by omega) ?_ | assumption)), (by repeat (first | exact hs_eq _ _ _ | refine hs_ne (by omega) ?_ | assumption)), (by repeat (first | exact hs_eq _ _ _ | refine hs_ne (by omega) ?_ | assumption)), (by repeat (first | exact hs_eq _ _ _ | refine hs_ne (by omega) ?_ | assumption)), by (try simp (disch := omega) only [iu_ne, iu_eq, zWind_ne, zTake_ne, zChim_ne, zChim_16, hdn]); repeat (first | exact hs_eq _ _ _ | refine hs_ne (by omega) ?_ | assumption), (by repeat (first | exact hs_eq _ _ _ | refine hs_ne (by omega) ?_ | assumption)), (by repeat (first | exact hs_eq _ _ _ | refine hs_ne (by omega) ?_ | assumption)), (by repeat (first | exact hs_eq _ _ _ | refine hs_ne (by omega) ?_ | assumption))⟩, ?_⟩
                 exact hso))
      · skip
        refine k_if_eq (tgt := 32) C dX3_owe_15 (by decide) ⟨by omega, by omega⟩ (fun c15 => ?_) (fun c15 => ?_)
        · try (exfalso; omega)
          all_goals (
            refine k_aload_n C dX3_owe_32 rfl ?_
            refine k_get C (k := 2) inX3 (ci := 3) rfl (by decide) fl_X3_28 dX3_owe_33 (by repeat (first | exact hs_eq _ _ _ | refine hs_ne (by omega) ?_ | assumption)) rfl ?_
            refine k_get C (k := 0) inX0 (ci := 0) rfl (by decide) fl_X3_152 dX3_owe_36 (by repeat (first | exact hs_eq _ _ _ | refine hs_ne (by omega) ?_ | assumption)) rfl ?_
            refine k_iconst C dX3_owe_39 ?_
            refine k_icmp_ne (tgt := 68) C dX3_owe_40 (by decide) ⟨by omega, by omega⟩ ⟨by omega, by omega⟩ (fun c40 => ?_) (fun c40 => ?_)
            · try (exfalso; omega)
              all_goals (
                refine k_aload_n C dX3_owe_68 rfl ?_
                refine k_get C (k := 2) inX3 (ci := 3) rfl (by decide) fl_X3_28 dX3_owe_69 (by repeat (first | exact hs_eq _ _ _ | refine hs_ne (by omega) ?_ | assumption)) rfl ?_
                refine k_aload_n C dX3_owe_72 rfl ?_
                refine k_callV C (n := 0) (as := []) (ct_X3_hourShown l D tc base oo _ _ _ _ _ _ _ _ (by repeat (first | exact hs_eq _ _ _ | refine hs_ne (by omega) ?_ | assumption)) (by omega) (by omega)) ml_X3_92 im_X3_hourShown se_X3_hourShown ini_X3 co_X3_hourShown ⟨rfl, by decide, by decide, by decide +kernel⟩ rfl (ci := 3) rfl (by repeat (first | exact hs_eq _ _ _ | refine hs_ne (by omega) ?_ | assumption)) ⟨by decide, by decide⟩ rfl (Nat.le_of_ble_eq_true rfl) ⟨Nat.zero_le _, Nat.zero_le _⟩ dX3_owe_73 ?_
                rintro _ _ ⟨rfl, rfl⟩
                refine k_callV C (n := 1) (as := [_]) (ct_X0_add l D tc base _ (oo + 11) _ _ _ (by repeat (first | exact hs_eq _ _ _ | refine hs_ne (by omega) ?_ | assumption)) (by repeat (first | exact hs_eq _ _ _ | refine hs_ne (by omega) ?_ | assumption)) (by repeat (first | exact hs_eq _ _ _ | refine hs_ne (by omega) ?_ | assumption)) _ (by omega) (by omega)) ml_X3_180 im_X0_add se_X0_add ini_X0 co_X0_add ⟨rfl, by decide, by decide, by decide +kernel⟩ rfl (ci := 0) rfl (by repeat (first | exact hs_eq _ _ _ | refine hs_ne (by omega) ?_ | assumption)) ⟨by decide, by decide⟩ rfl (Nat.le_of_ble_eq_true rfl) ⟨Nat.zero_le _, Nat.zero_le _⟩ dX3_owe_76 ?_
                rintro _ _ ⟨rfl, rfl⟩
                refine k_vret C hr dX3_owe_79 ?_
                first
                  | exact ⟨rfl, by rw [zFive, if_pos (by omega)]; exact hS, Fr.rf _ _ _⟩
                  | (have hz : zFive zrr = iu zrr 15 (zrr 15 + zHour (zrr 10)) := by rw [zFive, if_neg (by omega), if_pos (by omega)]
                     refine ⟨rfl, ?_, fun aaa haa => by repeat (first | rfl | refine hs_ne (by omega) ?_)⟩
                     rw [hz]
                     refine ⟨f1, f2, f3, w1, w2, w3, w4, w5, d1, d2, se, ⟨by (try simp (disch := omega) only [iu_ne, iu_eq, zWind_ne, zTake_ne, zChim_ne, zChim_16]); repeat (first | exact hs_eq _ _ _ | refine hs_ne (by omega) ?_ | assumption), (by repeat (first | exact hs_eq _ _ _ | refine hs_ne (by omega) ?_ | assumption)), (by repeat (first | exact hs_eq _ _ _ | refine hs_ne (by omega) ?_ | assumption)), (by repeat (first | exact hs_eq _ _ _ | refine hs_ne (by omega) ?_ | assumption)), (by repeat (first | exact hs_eq _ _ _ | refine hs_ne (by omega) ?_ | assumption)), by (try simp (disch := omega) only [iu_ne, iu_eq, zWind_ne, zTake_ne, zChim_ne, zChim_16]); repeat (first | exact hs_eq _ _ _ | refine hs_ne (by omega) ?_ | assumption), (by repeat (first | exact hs_eq _ _ _ | refine hs_ne (by omega) ?_ | assumption)), (by repeat (first | exact hs_eq _ _ _ | refine hs_ne (by omega) ?_ | assumption)), (by repeat (first | exact hs_eq _ _ _ | refine hs_ne (by omega) ?_ | assumption)), (by repeat (first | exact hs_eq _ _ _ | refine hs_ne (by omega) ?_ | assumption)), (by repeat (first | exact hs_eq _ _ _ | refine hs_ne (by omega) ?_ | assumption)), by (try simp (disch := omega) only [iu_ne, iu_eq, zWind_ne, zTake_ne, zChim_ne, zChim_16]); repeat (first | exact hs_eq _ _ _ | refine hs_ne (by omega) ?_ | assumption), (by repeat (first | exact hs_eq _ _ _ | refine hs_ne (by omega) ?_ | assumption)), (by repeat (first | exact hs_eq _ _ _ | refine hs_ne (by omega) ?_ | assumption)), (by repeat (first | exact hs_eq _ _ _ | refine hs_ne (by omega) ?_ | assumption))⟩, ?_⟩
                     exact hsr.free (by omega))
                  | (have hmk : zMk zrr = zrr := if_neg (by omega)
                     have hz : zFive zrr = iu (iu (iu zrr (53 + 2 * zrr 52) (zHour (zrr 10))) (53 + 2 * zrr 52 + 1) (zHour (zrr 10))) 52 (zrr 52 + 1) := by rw [zFive, if_neg (by omega), if_neg (by omega), hmk]
                     refine ⟨rfl, ?_, fun aaa haa => by repeat (first | rfl | refine hs_ne (by omega) ?_)⟩
                     rw [hz]
                     refine ⟨f1, f2, f3, w1, w2, w3, w4, w5, _, _, se, ⟨by (try simp (disch := omega) only [iu_ne, iu_eq, zWind_ne, zTake_ne, zChim_ne, zChim_16]); repeat (first | exact hs_eq _ _ _ | refine hs_ne (by omega) ?_ | assumption), (by repeat (first | exact hs_eq _ _ _ | refine hs_ne (by omega) ?_ | assumption)), (by repeat (first | exact hs_eq _ _ _ | refine hs_ne (by omega) ?_ | assumption)), (by repeat (first | exact hs_eq _ _ _ | refine hs_ne (by omega) ?_ | assumption)), (by repeat (first | exact hs_eq _ _ _ | refine hs_ne (by omega) ?_ | assumption)), by (try simp (disch := omega) only [iu_ne, iu_eq, zWind_ne, zTake_ne, zChim_ne, zChim_16]); repeat (first | exact hs_eq _ _ _ | refine hs_ne (by omega) ?_ | assumption), (by repeat (first | exact hs_eq _ _ _ | refine hs_ne (by omega) ?_ | assumption)), (by repeat (first | exact hs_eq _ _ _ | refine hs_ne (by omega) ?_ | assumption)), (by repeat (first | exact hs_eq _ _ _ | refine hs_ne (by omega) ?_ | assumption)), (by repeat (first | exact hs_eq _ _ _ | refine hs_ne (by omega) ?_ | assumption)), (by repeat (first | exact hs_eq _ _ _ | refine hs_ne (by omega) ?_ | assumption)), by (try simp (disch := omega) only [iu_ne, iu_eq, zWind_ne, zTake_ne, zChim_ne, zChim_16]); repeat (first | exact hs_eq _ _ _ | refine hs_ne (by omega) ?_ | assumption), (by repeat (first | exact hs_eq _ _ _ | refine hs_ne (by omega) ?_ | assumption)), (by repeat (first | exact hs_eq _ _ _ | refine hs_ne (by omega) ?_ | assumption)), (by repeat (first | exact hs_eq _ _ _ | refine hs_ne (by omega) ?_ | assumption))⟩, ?_⟩
                     exact hsr.owe (by omega) (by omega) (by omega))
                  | (have hmk : zMk zrr = zDrop (iu zrr 15 (zrr 15 + zrr 54)) := if_pos (by omega)
                     have q52 : iu zrr 15 (zrr 15 + zrr 54) 52 = zrr 52 := iu_ne (by omega)
                     have q21 : iu zrr 15 (zrr 15 + zrr 54) 21 = zrr 21 := iu_ne (by omega)
                     have hm52 : zDrop (iu zrr 15 (zrr 15 + zrr 54)) 52 = zrr 52 - 1 := by rw [zDrop_52, q52]
                     have hm21 : zDrop (iu zrr 15 (zrr 15 + zrr 54)) 21 = zrr 21 := by rw [zDrop_ne (by omega) (by omega), q21]
                     have hdn : ∀ kkk : Int, kkk < 52 ∨ 61 ≤ kkk → zDrop (iu zrr 15 (zrr 15 + zrr 54)) kkk = iu zrr 15 (zrr 15 + zrr 54) kkk := fun kkk hk => zDrop_ne hk (by omega)
                     have d20 : d2 0 = zrr 54 := (r3 0 (by omega) (by omega)).2
                     have hz : zFive zrr = iu (iu (iu (zDrop (iu zrr 15 (zrr 15 + zrr 54))) (53 + 2 * (zrr 52 - 1)) (zHour (zrr 10))) (53 + 2 * (zrr 52 - 1) + 1) (zHour (zrr 10))) 52 (zrr 52 - 1 + 1) := by rw [zFive, if_neg (by omega), if_neg (by omega), hmk, hm52]
                     have hso := SR.owe (x := zHour (zrr 10)) (SR.drop (e1 := F1) (e2 := F2) (hsr.free (j := 15) (v := zrr 15 + zrr 54) (by omega)) (by omega) (by omega) (by omega) (fun k0 k1 k2 => hF.1 k0 k1 (by omega)) (fun k0 k1 k2 => hF.2 k0 k1 (by omega))) (by omega) (by omega) (by omega)
                     rw [hm52] at hso
                     rw [d20]
                     refine ⟨rfl, ?_, fun aaa haa => by repeat (first | rfl | refine hs_ne (by omega) ?_)⟩
                     rw [hz]
                     refine ⟨f1, f2, f3, w1, w2, w3, w4, w5, _, _, se, ⟨by (try simp (disch := omega) only [iu_ne, iu_eq, zWind_ne, zTake_ne, zChim_ne, zChim_16, hdn]); repeat (first | exact hs_eq _ _ _ | refine hs_ne (by omega) ?_ | assumption), (by repeat (first | exact hs_eq _ _ _ | refine hs_ne (by omega) ?_ | assumption)), (by repeat (first | exact hs_eq _ _ _ | refine hs_ne (by omega) ?_ | assumption)), (by repeat (first | exact hs_eq _ _ _ | refine hs_ne (by omega) ?_ | assumption)), (by repeat (first | exact hs_eq _ _ _ | refine hs_ne (by omega) ?_ | assumption)), by (try simp (disch := omega) only [iu_ne, iu_eq, zWind_ne, zTake_ne, zChim_ne, zChim_16, hdn]); repeat (first | exact hs_eq _ _ _ | refine hs_ne (by omega) ?_ | assumption), (by repeat (first | exact hs_eq _ _ _ | refine hs_ne (by omega) ?_ | assumption)), (by repeat (first | exact hs_eq _ _ _ | refine hs_ne (by omega) ?_ | assumption)), (by repeat (first | exact hs_eq _ _ _ | refine hs_ne (by omega) ?_ | assumption)), (by repeat (first | exact hs_eq _ _ _ | refine hs_ne (by omega) ?_ | assumption)), (by repeat (first | exact hs_eq _ _ _ | refine hs_ne (by omega) ?_ | assumption)), by (try simp (disch := omega) only [iu_ne, iu_eq, zWind_ne, zTake_ne, zChim_ne, zChim_16, hdn]); repeat (first | exact hs_eq _ _ _ | refine hs_ne (by omega) ?_ | assumption), (by repeat (first | exact hs_eq _ _ _ | refine hs_ne (by omega) ?_ | assumption)), (by repeat (first | exact hs_eq _ _ _ | refine hs_ne (by omega) ?_ | assumption)), (by repeat (first | exact hs_eq _ _ _ | refine hs_ne (by omega) ?_ | assumption))⟩, ?_⟩
                     exact hso))
            · try (exfalso; omega)
              all_goals (
                refine k_aload_n C dX3_owe_43 rfl ?_
                refine k_dup C dX3_owe_44 rfl ?_
                refine k_get C (k := 10) inX3 (ci := 3) rfl (by decide) fl_X3_74 dX3_owe_45 (by repeat (first | exact hs_eq _ _ _ | refine hs_ne (by omega) ?_ | assumption)) rfl ?_
                refine k_aload_n C dX3_owe_48 rfl ?_
                refine k_get C (k := 2) inX3 (ci := 3) rfl (by decide) fl_X3_28 dX3_owe_49 (by repeat (first | exact hs_eq _ _ _ | refine hs_ne (by omega) ?_ | assumption)) rfl ?_
                refine k_get C (k := 2) inX0 (ci := 0) rfl (by decide) fl_X3_174 dX3_owe_52 (by repeat (first | exact hs_eq _ _ _ | refine hs_ne (by omega) ?_ | assumption)) rfl ?_
                refine k_iconst C dX3_owe_55 ?_
                refine k_iaload C dX3_owe_56 (by repeat (first | exact hs_eq _ _ _ | refine hs_ne (by omega) ?_ | assumption)) (by omega) (by omega) (by omega) ?_
                refine k_iadd C dX3_owe_57 ?_
                refine k_put C (k := 10) inX3 tyX3_ok nmX3 (ci := 3) rfl (by decide) fl_X3_74 rfl (Nat.le_of_ble_eq_true rfl) dX3_owe_58 (by repeat (first | exact hs_eq _ _ _ | refine hs_ne (by omega) ?_ | assumption)) ?_
                refine k_aload_n C dX3_owe_61 rfl ?_
                refine k_get C (k := 2) inX3 (ci := 3) rfl (by decide) fl_X3_28 dX3_owe_62 (by repeat (first | exact hs_eq _ _ _ | refine hs_ne (by omega) ?_ | assumption)) rfl ?_
                refine k_callV C (n := 0) (as := []) (ct_X0_dropFirst l D tc base _ (oo + 11) d1 d2 (zrr 52) (by repeat (first | exact hs_eq _ _ _ | refine hs_ne (by omega) ?_ | assumption)) (by repeat (first | exact hs_eq _ _ _ | refine hs_ne (by omega) ?_ | assumption)) (by repeat (first | exact hs_eq _ _ _ | refine hs_ne (by omega) ?_ | assumption)) (by omega) (by omega)) ml_X3_177 im_X0_dropFirst se_X0_dropFirst ini_X0 co_X0_dropFirst ⟨rfl, by decide, by decide, by decide +kernel⟩ rfl (ci := 0) rfl (by repeat (first | exact hs_eq _ _ _ | refine hs_ne (by omega) ?_ | assumption)) ⟨by decide, by decide⟩ rfl (Nat.le_of_ble_eq_true rfl) ⟨Nat.zero_le _, Nat.zero_le _⟩ dX3_owe_65 ?_
                rintro _ _ ⟨rfl, F1, F2, hF, rfl⟩
                refine k_aload_n C dX3_owe_68 rfl ?_
                refine k_get C (k := 2) inX3 (ci := 3) rfl (by decide) fl_X3_28 dX3_owe_69 (by repeat (first | exact hs_eq _ _ _ | refine hs_ne (by omega) ?_ | assumption)) rfl ?_
                refine k_aload_n C dX3_owe_72 rfl ?_
                refine k_callV C (n := 0) (as := []) (ct_X3_hourShown l D tc base oo _ _ _ _ _ _ _ _ (by repeat (first | exact hs_eq _ _ _ | refine hs_ne (by omega) ?_ | assumption)) (by omega) (by omega)) ml_X3_92 im_X3_hourShown se_X3_hourShown ini_X3 co_X3_hourShown ⟨rfl, by decide, by decide, by decide +kernel⟩ rfl (ci := 3) rfl (by repeat (first | exact hs_eq _ _ _ | refine hs_ne (by omega) ?_ | assumption)) ⟨by decide, by decide⟩ rfl (Nat.le_of_ble_eq_true rfl) ⟨Nat.zero_le _, Nat.zero_le _⟩ dX3_owe_73 ?_
                rintro _ _ ⟨rfl, rfl⟩
                refine k_callV C (n := 1) (as := [_]) (ct_X0_add l D tc base _ (oo + 11) _ _ _ (by repeat (first | exact hs_eq _ _ _ | refine hs_ne (by omega) ?_ | assumption)) (by repeat (first | exact hs_eq _ _ _ | refine hs_ne (by omega) ?_ | assumption)) (by repeat (first | exact hs_eq _ _ _ | refine hs_ne (by omega) ?_ | assumption)) _ (by omega) (by omega)) ml_X3_180 im_X0_add se_X0_add ini_X0 co_X0_add ⟨rfl, by decide, by decide, by decide +kernel⟩ rfl (ci := 0) rfl (by repeat (first | exact hs_eq _ _ _ | refine hs_ne (by omega) ?_ | assumption)) ⟨by decide, by decide⟩ rfl (Nat.le_of_ble_eq_true rfl) ⟨Nat.zero_le _, Nat.zero_le _⟩ dX3_owe_76 ?_
                rintro _ _ ⟨rfl, rfl⟩
                refine k_vret C hr dX3_owe_79 ?_
                first
                  | exact ⟨rfl, by rw [zFive, if_pos (by omega)]; exact hS, Fr.rf _ _ _⟩
                  | (have hz : zFive zrr = iu zrr 15 (zrr 15 + zHour (zrr 10)) := by rw [zFive, if_neg (by omega), if_pos (by omega)]
                     refine ⟨rfl, ?_, fun aaa haa => by repeat (first | rfl | refine hs_ne (by omega) ?_)⟩
                     rw [hz]
                     refine ⟨f1, f2, f3, w1, w2, w3, w4, w5, d1, d2, se, ⟨by (try simp (disch := omega) only [iu_ne, iu_eq, zWind_ne, zTake_ne, zChim_ne, zChim_16]); repeat (first | exact hs_eq _ _ _ | refine hs_ne (by omega) ?_ | assumption), (by repeat (first | exact hs_eq _ _ _ | refine hs_ne (by omega) ?_ | assumption)), (by repeat (first | exact hs_eq _ _ _ | refine hs_ne (by omega) ?_ | assumption)), (by repeat (first | exact hs_eq _ _ _ | refine hs_ne (by omega) ?_ | assumption)), (by repeat (first | exact hs_eq _ _ _ | refine hs_ne (by omega) ?_ | assumption)), by (try simp (disch := omega) only [iu_ne, iu_eq, zWind_ne, zTake_ne, zChim_ne, zChim_16]); repeat (first | exact hs_eq _ _ _ | refine hs_ne (by omega) ?_ | assumption), (by repeat (first | exact hs_eq _ _ _ | refine hs_ne (by omega) ?_ | assumption)), (by repeat (first | exact hs_eq _ _ _ | refine hs_ne (by omega) ?_ | assumption)), (by repeat (first | exact hs_eq _ _ _ | refine hs_ne (by omega) ?_ | assumption)), (by repeat (first | exact hs_eq _ _ _ | refine hs_ne (by omega) ?_ | assumption)), (by repeat (first | exact hs_eq _ _ _ | refine hs_ne (by omega) ?_ | assumption)), by (try simp (disch := omega) only [iu_ne, iu_eq, zWind_ne, zTake_ne, zChim_ne, zChim_16]); repeat (first | exact hs_eq _ _ _ | refine hs_ne (by omega) ?_ | assumption), (by repeat (first | exact hs_eq _ _ _ | refine hs_ne (by omega) ?_ | assumption)), (by repeat (first | exact hs_eq _ _ _ | refine hs_ne (by omega) ?_ | assumption)), (by repeat (first | exact hs_eq _ _ _ | refine hs_ne (by omega) ?_ | assumption))⟩, ?_⟩
                     exact hsr.free (by omega))
                  | (have hmk : zMk zrr = zrr := if_neg (by omega)
                     have hz : zFive zrr = iu (iu (iu zrr (53 + 2 * zrr 52) (zHour (zrr 10))) (53 + 2 * zrr 52 + 1) (zHour (zrr 10))) 52 (zrr 52 + 1) := by rw [zFive, if_neg (by omega), if_neg (by omega), hmk]
                     refine ⟨rfl, ?_, fun aaa haa => by repeat (first | rfl | refine hs_ne (by omega) ?_)⟩
                     rw [hz]
                     refine ⟨f1, f2, f3, w1, w2, w3, w4, w5, _, _, se, ⟨by (try simp (disch := omega) only [iu_ne, iu_eq, zWind_ne, zTake_ne, zChim_ne, zChim_16]); repeat (first | exact hs_eq _ _ _ | refine hs_ne (by omega) ?_ | assumption), (by repeat (first | exact hs_eq _ _ _ | refine hs_ne (by omega) ?_ | assumption)), (by repeat (first | exact hs_eq _ _ _ | refine hs_ne (by omega) ?_ | assumption)), (by repeat (first | exact hs_eq _ _ _ | refine hs_ne (by omega) ?_ | assumption)), (by repeat (first | exact hs_eq _ _ _ | refine hs_ne (by omega) ?_ | assumption)), by (try simp (disch := omega) only [iu_ne, iu_eq, zWind_ne, zTake_ne, zChim_ne, zChim_16]); repeat (first | exact hs_eq _ _ _ | refine hs_ne (by omega) ?_ | assumption), (by repeat (first | exact hs_eq _ _ _ | refine hs_ne (by omega) ?_ | assumption)), (by repeat (first | exact hs_eq _ _ _ | refine hs_ne (by omega) ?_ | assumption)), (by repeat (first | exact hs_eq _ _ _ | refine hs_ne (by omega) ?_ | assumption)), (by repeat (first | exact hs_eq _ _ _ | refine hs_ne (by omega) ?_ | assumption)), (by repeat (first | exact hs_eq _ _ _ | refine hs_ne (by omega) ?_ | assumption)), by (try simp (disch := omega) only [iu_ne, iu_eq, zWind_ne, zTake_ne, zChim_ne, zChim_16]); repeat (first | exact hs_eq _ _ _ | refine hs_ne (by omega) ?_ | assumption), (by repeat (first | exact hs_eq _ _ _ | refine hs_ne (by omega) ?_ | assumption)), (by repeat (first | exact hs_eq _ _ _ | refine hs_ne (by omega) ?_ | assumption)), (by repeat (first | exact hs_eq _ _ _ | refine hs_ne (by omega) ?_ | assumption))⟩, ?_⟩
                     exact hsr.owe (by omega) (by omega) (by omega))
                  | (have hmk : zMk zrr = zDrop (iu zrr 15 (zrr 15 + zrr 54)) := if_pos (by omega)
                     have q52 : iu zrr 15 (zrr 15 + zrr 54) 52 = zrr 52 := iu_ne (by omega)
                     have q21 : iu zrr 15 (zrr 15 + zrr 54) 21 = zrr 21 := iu_ne (by omega)
                     have hm52 : zDrop (iu zrr 15 (zrr 15 + zrr 54)) 52 = zrr 52 - 1 := by rw [zDrop_52, q52]
                     have hm21 : zDrop (iu zrr 15 (zrr 15 + zrr 54)) 21 = zrr 21 := by rw [zDrop_ne (by omega) (by omega), q21]
                     have hdn : ∀ kkk : Int, kkk < 52 ∨ 61 ≤ kkk → zDrop (iu zrr 15 (zrr 15 + zrr 54)) kkk = iu zrr 15 (zrr 15 + zrr 54) kkk := fun kkk hk => zDrop_ne hk (by omega)
                     have d20 : d2 0 = zrr 54 := (r3 0 (by omega) (by omega)).2
                     have hz : zFive zrr = iu (iu (iu (zDrop (iu zrr 15 (zrr 15 + zrr 54))) (53 + 2 * (zrr 52 - 1)) (zHour (zrr 10))) (53 + 2 * (zrr 52 - 1) + 1) (zHour (zrr 10))) 52 (zrr 52 - 1 + 1) := by rw [zFive, if_neg (by omega), if_neg (by omega), hmk, hm52]
                     have hso := SR.owe (x := zHour (zrr 10)) (SR.drop (e1 := F1) (e2 := F2) (hsr.free (j := 15) (v := zrr 15 + zrr 54) (by omega)) (by omega) (by omega) (by omega) (fun k0 k1 k2 => hF.1 k0 k1 (by omega)) (fun k0 k1 k2 => hF.2 k0 k1 (by omega))) (by omega) (by omega) (by omega)
                     rw [hm52] at hso
                     rw [d20]
                     refine ⟨rfl, ?_, fun aaa haa => by repeat (first | rfl | refine hs_ne (by omega) ?_)⟩
                     rw [hz]
                     refine ⟨f1, f2, f3, w1, w2, w3, w4, w5, _, _, se, ⟨by (try simp (disch := omega) only [iu_ne, iu_eq, zWind_ne, zTake_ne, zChim_ne, zChim_16, hdn]); repeat (first | exact hs_eq _ _ _ | refine hs_ne (by omega) ?_ | assumption), (by repeat (first | exact hs_eq _ _ _ | refine hs_ne (by omega) ?_ | assumption)), (by repeat (first | exact hs_eq _ _ _ | refine hs_ne (by omega) ?_ | assumption)), (by repeat (first | exact hs_eq _ _ _ | refine hs_ne (by omega) ?_ | assumption)), (by repeat (first | exact hs_eq _ _ _ | refine hs_ne (by omega) ?_ | assumption)), by (try simp (disch := omega) only [iu_ne, iu_eq, zWind_ne, zTake_ne, zChim_ne, zChim_16, hdn]); repeat (first | exact hs_eq _ _ _ | refine hs_ne (by omega) ?_ | assumption), (by repeat (first | exact hs_eq _ _ _ | refine hs_ne (by omega) ?_ | assumption)), (by repeat (first | exact hs_eq _ _ _ | refine hs_ne (by omega) ?_ | assumption)), (by repeat (first | exact hs_eq _ _ _ | refine hs_ne (by omega) ?_ | assumption)), (by repeat (first | exact hs_eq _ _ _ | refine hs_ne (by omega) ?_ | assumption)), (by repeat (first | exact hs_eq _ _ _ | refine hs_ne (by omega) ?_ | assumption)), by (try simp (disch := omega) only [iu_ne, iu_eq, zWind_ne, zTake_ne, zChim_ne, zChim_16, hdn]); repeat (first | exact hs_eq _ _ _ | refine hs_ne (by omega) ?_ | assumption), (by repeat (first | exact hs_eq _ _ _ | refine hs_ne (by omega) ?_ | assumption)), (by repeat (first | exact hs_eq _ _ _ | refine hs_ne (by omega) ?_ | assumption)), (by repeat (first | exact hs_eq _ _ _ | refine hs_ne (by omega) ?_ | assumption))⟩, ?_⟩
                     exact hso)))
        · try (exfalso; omega)
          all_goals (
            refine k_aload_n C dX3_owe_18 rfl ?_
            refine k_dup C dX3_owe_19 rfl ?_
            refine k_get C (k := 10) inX3 (ci := 3) rfl (by decide) fl_X3_74 dX3_owe_20 (by repeat (first | exact hs_eq _ _ _ | refine hs_ne (by omega) ?_ | assumption)) rfl ?_
            refine k_aload_n C dX3_owe_23 rfl ?_
            refine k_callV C (n := 0) (as := []) (ct_X3_hourShown l D tc base oo _ _ _ _ _ _ _ _ (by repeat (first | exact hs_eq _ _ _ | refine hs_ne (by omega) ?_ | assumption)) (by omega) (by omega)) ml_X3_92 im_X3_hourShown se_X3_hourShown ini_X3 co_X3_hourShown ⟨rfl, by decide, by decide, by decide +kernel⟩ rfl (ci := 3) rfl (by repeat (first | exact hs_eq _ _ _ | refine hs_ne (by omega) ?_ | assumption)) ⟨by decide, by decide⟩ rfl (Nat.le_of_ble_eq_true rfl) ⟨Nat.zero_le _, Nat.zero_le _⟩ dX3_owe_24 ?_
            rintro _ _ ⟨rfl, rfl⟩
            refine k_iadd C dX3_owe_27 ?_
            refine k_put C (k := 10) inX3 tyX3_ok nmX3 (ci := 3) rfl (by decide) fl_X3_74 rfl (Nat.le_of_ble_eq_true rfl) dX3_owe_28 (by repeat (first | exact hs_eq _ _ _ | refine hs_ne (by omega) ?_ | assumption)) ?_
            refine k_vret C hr dX3_owe_31 ?_
            first
              | exact ⟨rfl, by rw [zFive, if_pos (by omega)]; exact hS, Fr.rf _ _ _⟩
              | (have hz : zFive zrr = iu zrr 15 (zrr 15 + zHour (zrr 10)) := by rw [zFive, if_neg (by omega), if_pos (by omega)]
                 refine ⟨rfl, ?_, fun aaa haa => by repeat (first | rfl | refine hs_ne (by omega) ?_)⟩
                 rw [hz]
                 refine ⟨f1, f2, f3, w1, w2, w3, w4, w5, d1, d2, se, ⟨by (try simp (disch := omega) only [iu_ne, iu_eq, zWind_ne, zTake_ne, zChim_ne, zChim_16]); repeat (first | exact hs_eq _ _ _ | refine hs_ne (by omega) ?_ | assumption), (by repeat (first | exact hs_eq _ _ _ | refine hs_ne (by omega) ?_ | assumption)), (by repeat (first | exact hs_eq _ _ _ | refine hs_ne (by omega) ?_ | assumption)), (by repeat (first | exact hs_eq _ _ _ | refine hs_ne (by omega) ?_ | assumption)), (by repeat (first | exact hs_eq _ _ _ | refine hs_ne (by omega) ?_ | assumption)), by (try simp (disch := omega) only [iu_ne, iu_eq, zWind_ne, zTake_ne, zChim_ne, zChim_16]); repeat (first | exact hs_eq _ _ _ | refine hs_ne (by omega) ?_ | assumption), (by repeat (first | exact hs_eq _ _ _ | refine hs_ne (by omega) ?_ | assumption)), (by repeat (first | exact hs_eq _ _ _ | refine hs_ne (by omega) ?_ | assumption)), (by repeat (first | exact hs_eq _ _ _ | refine hs_ne (by omega) ?_ | assumption)), (by repeat (first | exact hs_eq _ _ _ | refine hs_ne (by omega) ?_ | assumption)), (by repeat (first | exact hs_eq _ _ _ | refine hs_ne (by omega) ?_ | assumption)), by (try simp (disch := omega) only [iu_ne, iu_eq, zWind_ne, zTake_ne, zChim_ne, zChim_16]); repeat (first | exact hs_eq _ _ _ | refine hs_ne (by omega) ?_ | assumption), (by repeat (first | exact hs_eq _ _ _ | refine hs_ne (by omega) ?_ | assumption)), (by repeat (first | exact hs_eq _ _ _ | refine hs_ne (by omega) ?_ | assumption)), (by repeat (first | exact hs_eq _ _ _ | refine hs_ne (by omega) ?_ | assumption))⟩, ?_⟩
                 exact hsr.free (by omega))
              | (have hmk : zMk zrr = zrr := if_neg (by omega)
                 have hz : zFive zrr = iu (iu (iu zrr (53 + 2 * zrr 52) (zHour (zrr 10))) (53 + 2 * zrr 52 + 1) (zHour (zrr 10))) 52 (zrr 52 + 1) := by rw [zFive, if_neg (by omega), if_neg (by omega), hmk]
                 refine ⟨rfl, ?_, fun aaa haa => by repeat (first | rfl | refine hs_ne (by omega) ?_)⟩
                 rw [hz]
                 refine ⟨f1, f2, f3, w1, w2, w3, w4, w5, _, _, se, ⟨by (try simp (disch := omega) only [iu_ne, iu_eq, zWind_ne, zTake_ne, zChim_ne, zChim_16]); repeat (first | exact hs_eq _ _ _ | refine hs_ne (by omega) ?_ | assumption), (by repeat (first | exact hs_eq _ _ _ | refine hs_ne (by omega) ?_ | assumption)), (by repeat (first | exact hs_eq _ _ _ | refine hs_ne (by omega) ?_ | assumption)), (by repeat (first | exact hs_eq _ _ _ | refine hs_ne (by omega) ?_ | assumption)), (by repeat (first | exact hs_eq _ _ _ | refine hs_ne (by omega) ?_ | assumption)), by (try simp (disch := omega) only [iu_ne, iu_eq, zWind_ne, zTake_ne, zChim_ne, zChim_16]); repeat (first | exact hs_eq _ _ _ | refine hs_ne (by omega) ?_ | assumption), (by repeat (first | exact hs_eq _ _ _ | refine hs_ne (by omega) ?_ | assumption)), (by repeat (first | exact hs_eq _ _ _ | refine hs_ne (by omega) ?_ | assumption)), (by repeat (first | exact hs_eq _ _ _ | refine hs_ne (by omega) ?_ | assumption)), (by repeat (first | exact hs_eq _ _ _ | refine hs_ne (by omega) ?_ | assumption)), (by repeat (first | exact hs_eq _ _ _ | refine hs_ne (by omega) ?_ | assumption)), by (try simp (disch := omega) only [iu_ne, iu_eq, zWind_ne, zTake_ne, zChim_ne, zChim_16]); repeat (first | exact hs_eq _ _ _ | refine hs_ne (by omega) ?_ | assumption), (by repeat (first | exact hs_eq _ _ _ | refine hs_ne (by omega) ?_ | assumption)), (by repeat (first | exact hs_eq _ _ _ | refine hs_ne (by omega) ?_ | assumption)), (by repeat (first | exact hs_eq _ _ _ | refine hs_ne (by omega) ?_ | assumption))⟩, ?_⟩
                 exact hsr.owe (by omega) (by omega) (by omega))
              | (have hmk : zMk zrr = zDrop (iu zrr 15 (zrr 15 + zrr 54)) := if_pos (by omega)
                 have q52 : iu zrr 15 (zrr 15 + zrr 54) 52 = zrr 52 := iu_ne (by omega)
                 have q21 : iu zrr 15 (zrr 15 + zrr 54) 21 = zrr 21 := iu_ne (by omega)
                 have hm52 : zDrop (iu zrr 15 (zrr 15 + zrr 54)) 52 = zrr 52 - 1 := by rw [zDrop_52, q52]
                 have hm21 : zDrop (iu zrr 15 (zrr 15 + zrr 54)) 21 = zrr 21 := by rw [zDrop_ne (by omega) (by omega), q21]
                 have hdn : ∀ kkk : Int, kkk < 52 ∨ 61 ≤ kkk → zDrop (iu zrr 15 (zrr 15 + zrr 54)) kkk = iu zrr 15 (zrr 15 + zrr 54) kkk := fun kkk hk => zDrop_ne hk (by omega)
                 have d20 : d2 0 = zrr 54 := (r3 0 (by omega) (by omega)).2
                 have hz : zFive zrr = iu (iu (iu (zDrop (iu zrr 15 (zrr 15 + zrr 54))) (53 + 2 * (zrr 52 - 1)) (zHour (zrr 10))) (53 + 2 * (zrr 52 - 1) + 1) (zHour (zrr 10))) 52 (zrr 52 - 1 + 1) := by rw [zFive, if_neg (by omega), if_neg (by omega), hmk, hm52]
                 have hso := SR.owe (x := zHour (zrr 10)) (SR.drop (e1 := F1) (e2 := F2) (hsr.free (j := 15) (v := zrr 15 + zrr 54) (by omega)) (by omega) (by omega) (by omega) (fun k0 k1 k2 => hF.1 k0 k1 (by omega)) (fun k0 k1 k2 => hF.2 k0 k1 (by omega))) (by omega) (by omega) (by omega)
                 rw [hm52] at hso
                 rw [d20]
                 refine ⟨rfl, ?_, fun aaa haa => by repeat (first | rfl | refine hs_ne (by omega) ?_)⟩
                 rw [hz]
                 refine ⟨f1, f2, f3, w1, w2, w3, w4, w5, _, _, se, ⟨by (try simp (disch := omega) only [iu_ne, iu_eq, zWind_ne, zTake_ne, zChim_ne, zChim_16, hdn]); repeat (first | exact hs_eq _ _ _ | refine hs_ne (by omega) ?_ | assumption), (by repeat (first | exact hs_eq _ _ _ | refine hs_ne (by omega) ?_ | assumption)), (by repeat (first | exact hs_eq _ _ _ | refine hs_ne (by omega) ?_ | assumption)), (by repeat (first | exact hs_eq _ _ _ | refine hs_ne (by omega) ?_ | assumption)), (by repeat (first | exact hs_eq _ _ _ | refine hs_ne (by omega) ?_ | assumption)), by (try simp (disch := omega) only [iu_ne, iu_eq, zWind_ne, zTake_ne, zChim_ne, zChim_16, hdn]); repeat (first | exact hs_eq _ _ _ | refine hs_ne (by omega) ?_ | assumption), (by repeat (first | exact hs_eq _ _ _ | refine hs_ne (by omega) ?_ | assumption)), (by repeat (first | exact hs_eq _ _ _ | refine hs_ne (by omega) ?_ | assumption)), (by repeat (first | exact hs_eq _ _ _ | refine hs_ne (by omega) ?_ | assumption)), (by repeat (first | exact hs_eq _ _ _ | refine hs_ne (by omega) ?_ | assumption)), (by repeat (first | exact hs_eq _ _ _ | refine hs_ne (by omega) ?_ | assumption)), by (try simp (disch := omega) only [iu_ne, iu_eq, zWind_ne, zTake_ne, zChim_ne, zChim_16, hdn]); repeat (first | exact hs_eq _ _ _ | refine hs_ne (by omega) ?_ | assumption), (by repeat (first | exact hs_eq _ _ _ | refine hs_ne (by omega) ?_ | assumption)), (by repeat (first | exact hs_eq _ _ _ | refine hs_ne (by omega) ?_ | assumption)), (by repeat (first | exact hs_eq _ _ _ | refine hs_ne (by omega) ?_ | assumption))⟩, ?_⟩
                 exact hso)))
  · try (exfalso; omega)
    all_goals (
      refine k_vret C hr dX3_owe_10 ?_
      first
        | exact ⟨rfl, by rw [zFive, if_pos (by omega)]; exact hS, Fr.rf _ _ _⟩
        | (have hz : zFive zrr = iu zrr 15 (zrr 15 + zHour (zrr 10)) := by rw [zFive, if_neg (by omega), if_pos (by omega)]
           refine ⟨rfl, ?_, fun aaa haa => by repeat (first | rfl | refine hs_ne (by omega) ?_)⟩
           rw [hz]
           refine ⟨f1, f2, f3, w1, w2, w3, w4, w5, d1, d2, se, ⟨by (try simp (disch := omega) only [iu_ne, iu_eq, zWind_ne, zTake_ne, zChim_ne, zChim_16]); repeat (first | exact hs_eq _ _ _ | refine hs_ne (by omega) ?_ | assumption), (by repeat (first | exact hs_eq _ _ _ | refine hs_ne (by omega) ?_ | assumption)), (by repeat (first | exact hs_eq _ _ _ | refine hs_ne (by omega) ?_ | assumption)), (by repeat (first | exact hs_eq _ _ _ | refine hs_ne (by omega) ?_ | assumption)), (by repeat (first | exact hs_eq _ _ _ | refine hs_ne (by omega) ?_ | assumption)), by (try simp (disch := omega) only [iu_ne, iu_eq, zWind_ne, zTake_ne, zChim_ne, zChim_16]); repeat (first | exact hs_eq _ _ _ | refine hs_ne (by omega) ?_ | assumption), (by repeat (first | exact hs_eq _ _ _ | refine hs_ne (by omega) ?_ | assumption)), (by repeat (first | exact hs_eq _ _ _ | refine hs_ne (by omega) ?_ | assumption)), (by repeat (first | exact hs_eq _ _ _ | refine hs_ne (by omega) ?_ | assumption)), (by repeat (first | exact hs_eq _ _ _ | refine hs_ne (by omega) ?_ | assumption)), (by repeat (first | exact hs_eq _ _ _ | refine hs_ne (by omega) ?_ | assumption)), by (try simp (disch := omega) only [iu_ne, iu_eq, zWind_ne, zTake_ne, zChim_ne, zChim_16]); repeat (first | exact hs_eq _ _ _ | refine hs_ne (by omega) ?_ | assumption), (by repeat (first | exact hs_eq _ _ _ | refine hs_ne (by omega) ?_ | assumption)), (by repeat (first | exact hs_eq _ _ _ | refine hs_ne (by omega) ?_ | assumption)), (by repeat (first | exact hs_eq _ _ _ | refine hs_ne (by omega) ?_ | assumption))⟩, ?_⟩
           exact hsr.free (by omega))
        | (have hmk : zMk zrr = zrr := if_neg (by omega)
           have hz : zFive zrr = iu (iu (iu zrr (53 + 2 * zrr 52) (zHour (zrr 10))) (53 + 2 * zrr 52 + 1) (zHour (zrr 10))) 52 (zrr 52 + 1) := by rw [zFive, if_neg (by omega), if_neg (by omega), hmk]
           refine ⟨rfl, ?_, fun aaa haa => by repeat (first | rfl | refine hs_ne (by omega) ?_)⟩
           rw [hz]
           refine ⟨f1, f2, f3, w1, w2, w3, w4, w5, _, _, se, ⟨by (try simp (disch := omega) only [iu_ne, iu_eq, zWind_ne, zTake_ne, zChim_ne, zChim_16]); repeat (first | exact hs_eq _ _ _ | refine hs_ne (by omega) ?_ | assumption), (by repeat (first | exact hs_eq _ _ _ | refine hs_ne (by omega) ?_ | assumption)), (by repeat (first | exact hs_eq _ _ _ | refine hs_ne (by omega) ?_ | assumption)), (by repeat (first | exact hs_eq _ _ _ | refine hs_ne (by omega) ?_ | assumption)), (by repeat (first | exact hs_eq _ _ _ | refine hs_ne (by omega) ?_ | assumption)), by (try simp (disch := omega) only [iu_ne, iu_eq, zWind_ne, zTake_ne, zChim_ne, zChim_16]); repeat (first | exact hs_eq _ _ _ | refine hs_ne (by omega) ?_ | assumption), (by repeat (first | exact hs_eq _ _ _ | refine hs_ne (by omega) ?_ | assumption)), (by repeat (first | exact hs_eq _ _ _ | refine hs_ne (by omega) ?_ | assumption)), (by repeat (first | exact hs_eq _ _ _ | refine hs_ne (by omega) ?_ | assumption)), (by repeat (first | exact hs_eq _ _ _ | refine hs_ne (by omega) ?_ | assumption)), (by repeat (first | exact hs_eq _ _ _ | refine hs_ne (by omega) ?_ | assumption)), by (try simp (disch := omega) only [iu_ne, iu_eq, zWind_ne, zTake_ne, zChim_ne, zChim_16]); repeat (first | exact hs_eq _ _ _ | refine hs_ne (by omega) ?_ | assumption), (by repeat (first | exact hs_eq _ _ _ | refine hs_ne (by omega) ?_ | assumption)), (by repeat (first | exact hs_eq _ _ _ | refine hs_ne (by omega) ?_ | assumption)), (by repeat (first | exact hs_eq _ _ _ | refine hs_ne (by omega) ?_ | assumption))⟩, ?_⟩
           exact hsr.owe (by omega) (by omega) (by omega))
        | (have hmk : zMk zrr = zDrop (iu zrr 15 (zrr 15 + zrr 54)) := if_pos (by omega)
           have q52 : iu zrr 15 (zrr 15 + zrr 54) 52 = zrr 52 := iu_ne (by omega)
           have q21 : iu zrr 15 (zrr 15 + zrr 54) 21 = zrr 21 := iu_ne (by omega)
           have hm52 : zDrop (iu zrr 15 (zrr 15 + zrr 54)) 52 = zrr 52 - 1 := by rw [zDrop_52, q52]
           have hm21 : zDrop (iu zrr 15 (zrr 15 + zrr 54)) 21 = zrr 21 := by rw [zDrop_ne (by omega) (by omega), q21]
           have hdn : ∀ kkk : Int, kkk < 52 ∨ 61 ≤ kkk → zDrop (iu zrr 15 (zrr 15 + zrr 54)) kkk = iu zrr 15 (zrr 15 + zrr 54) kkk := fun kkk hk => zDrop_ne hk (by omega)
           have d20 : d2 0 = zrr 54 := (r3 0 (by omega) (by omega)).2
           have hz : zFive zrr = iu (iu (iu (zDrop (iu zrr 15 (zrr 15 + zrr 54))) (53 + 2 * (zrr 52 - 1)) (zHour (zrr 10))) (53 + 2 * (zrr 52 - 1) + 1) (zHour (zrr 10))) 52 (zrr 52 - 1 + 1) := by rw [zFive, if_neg (by omega), if_neg (by omega), hmk, hm52]
           have hso := SR.owe (x := zHour (zrr 10)) (SR.drop (e1 := F1) (e2 := F2) (hsr.free (j := 15) (v := zrr 15 + zrr 54) (by omega)) (by omega) (by omega) (by omega) (fun k0 k1 k2 => hF.1 k0 k1 (by omega)) (fun k0 k1 k2 => hF.2 k0 k1 (by omega))) (by omega) (by omega) (by omega)
           rw [hm52] at hso
           rw [d20]
           refine ⟨rfl, ?_, fun aaa haa => by repeat (first | rfl | refine hs_ne (by omega) ?_)⟩
           rw [hz]
           refine ⟨f1, f2, f3, w1, w2, w3, w4, w5, _, _, se, ⟨by (try simp (disch := omega) only [iu_ne, iu_eq, zWind_ne, zTake_ne, zChim_ne, zChim_16, hdn]); repeat (first | exact hs_eq _ _ _ | refine hs_ne (by omega) ?_ | assumption), (by repeat (first | exact hs_eq _ _ _ | refine hs_ne (by omega) ?_ | assumption)), (by repeat (first | exact hs_eq _ _ _ | refine hs_ne (by omega) ?_ | assumption)), (by repeat (first | exact hs_eq _ _ _ | refine hs_ne (by omega) ?_ | assumption)), (by repeat (first | exact hs_eq _ _ _ | refine hs_ne (by omega) ?_ | assumption)), by (try simp (disch := omega) only [iu_ne, iu_eq, zWind_ne, zTake_ne, zChim_ne, zChim_16, hdn]); repeat (first | exact hs_eq _ _ _ | refine hs_ne (by omega) ?_ | assumption), (by repeat (first | exact hs_eq _ _ _ | refine hs_ne (by omega) ?_ | assumption)), (by repeat (first | exact hs_eq _ _ _ | refine hs_ne (by omega) ?_ | assumption)), (by repeat (first | exact hs_eq _ _ _ | refine hs_ne (by omega) ?_ | assumption)), (by repeat (first | exact hs_eq _ _ _ | refine hs_ne (by omega) ?_ | assumption)), (by repeat (first | exact hs_eq _ _ _ | refine hs_ne (by omega) ?_ | assumption)), by (try simp (disch := omega) only [iu_ne, iu_eq, zWind_ne, zTake_ne, zChim_ne, zChim_16, hdn]); repeat (first | exact hs_eq _ _ _ | refine hs_ne (by omega) ?_ | assumption), (by repeat (first | exact hs_eq _ _ _ | refine hs_ne (by omega) ?_ | assumption)), (by repeat (first | exact hs_eq _ _ _ | refine hs_ne (by omega) ?_ | assumption)), (by repeat (first | exact hs_eq _ _ _ | refine hs_ne (by omega) ?_ | assumption))⟩, ?_⟩
           exact hso))

set_option maxRecDepth 20000 in
set_option maxHeartbeats 1000000 in
theorem ct_X3_strike (l : Launch) (D : va_G) (tc : Nat → ClassId) (base : Nat) (oo : Nat) (zrr : RZ) (hpp : AH) (hS : SAt hpp oo zrr) (hi : zInv zrr) : CT l D tc base yX3_strike cX3_strike 3 none 2 [aR oo] hpp (fun r h' => r = none ∧ SAt h' oo (zSix zrr) ∧ Fr hpp h' oo 15) := by
  refine CT.of [some (aR oo), none, none] (by decide +kernel) rfl (Nat.le_of_ble_eq_true rfl) ?_
  intro p e s m args below meth c C hr hnm
  obtain ⟨f1, f2, f3, w1, w2, w3, w4, w5, d1, d2, se, ⟨g0, g1, g2, g3, g4, g5, g6, g7, g8, g9, g10, g11, g12, g13, g14⟩, hsr⟩ := id hS
  obtain ⟨r1, r2, r3, r4⟩ := id hsr
  obtain ⟨⟨v0, v1, v2, v9, v10, v11, v12, v13, v21, v52, v61, v62, v63, v64, v65, v66⟩, hwi, hde⟩ := id hi
  have s0 : se 0 = zrr 61 := r4 0 (by omega) (by omega)
  have s1 : se 1 = zrr 62 := r4 1 (by omega) (by omega)
  have s2 : se 2 = zrr 63 := r4 2 (by omega) (by omega)
  have s3 : se 3 = zrr 64 := r4 3 (by omega) (by omega)
  have s4 : se 4 = zrr 65 := r4 4 (by omega) (by omega)
  have s5 : se 5 = zrr 66 := r4 5 (by omega) (by omega)
  have t0 : f1 0 = zrr 0 := (r1 0 (by omega) (by omega)).1
  have t1 : f1 1 = zrr 1 := (r1 1 (by omega) (by omega)).1
  have t2 : f1 2 = zrr 2 := (r1 2 (by omega) (by omega)).1
  refine k_aload_n C dX3_strike_0 rfl ?_
  refine k_get C (k := 2) inX3 (ci := 3) rfl (by decide) fl_X3_28 dX3_strike_1 (by repeat (first | exact hs_eq _ _ _ | refine hs_ne (by omega) ?_ | assumption)) rfl ?_
  refine k_get C (k := 0) inX0 (ci := 0) rfl (by decide) fl_X3_152 dX3_strike_4 (by repeat (first | exact hs_eq _ _ _ | refine hs_ne (by omega) ?_ | assumption)) rfl ?_
  refine k_if_eq (tgt := 17) C dX3_strike_7 (by decide) ⟨by omega, by omega⟩ (fun c7 => ?_) (fun c7 => ?_)
  · try (exfalso; omega)
    all_goals (
      refine k_vret C hr dX3_strike_17 ?_
      exact ⟨rfl, by rw [zSix, if_pos (by omega)]; exact hS, Fr.rf _ _ _⟩)
  · try (exfalso; omega)
    all_goals (
      refine k_aload_n C dX3_strike_10 rfl ?_
      refine k_callV C (n := 0) (as := []) (ct_X3_isSilent l D tc base oo zrr _ hS hi) ml_X3_171 im_X3_isSilent se_X3_isSilent ini_X3 co_X3_isSilent ⟨rfl, by decide, by decide, by decide +kernel⟩ rfl (ci := 3) rfl (by repeat (first | exact hs_eq _ _ _ | refine hs_ne (by omega) ?_ | assumption)) ⟨by decide, by decide⟩ rfl (Nat.le_of_ble_eq_true rfl) ⟨Nat.zero_le _, Nat.zero_le _⟩ dX3_strike_11 ?_
      rintro _ _ (⟨rfl, rfl, hq⟩ | ⟨rfl, rfl, hq⟩)
      · skip
        refine k_if_eq (tgt := 18) C dX3_strike_14 (by decide) ⟨by omega, by omega⟩ (fun c14 => ?_) (fun c14 => ?_)
        · try (exfalso; omega)
          all_goals (
            refine k_aload_n C dX3_strike_18 rfl ?_
            refine k_get C (k := 3) inX3 (ci := 3) rfl (by decide) fl_X3_32 dX3_strike_19 (by repeat (first | exact hs_eq _ _ _ | refine hs_ne (by omega) ?_ | assumption)) rfl ?_
            refine k_iconst C dX3_strike_22 ?_
            refine k_iaload C dX3_strike_23 (by repeat (first | exact hs_eq _ _ _ | refine hs_ne (by omega) ?_ | assumption)) (by omega) (by omega) (by omega) ?_
            refine k_aload_n C dX3_strike_24 rfl ?_
            refine k_get C (k := 0) inX3 (ci := 3) rfl (by decide) fl_X3_12 dX3_strike_25 (by repeat (first | exact hs_eq _ _ _ | refine hs_ne (by omega) ?_ | assumption)) rfl ?_
            refine k_get C (k := 0) inX5 (ci := 5) rfl (by decide) fl_X3_155 dX3_strike_28 (by repeat (first | exact hs_eq _ _ _ | refine hs_ne (by omega) ?_ | assumption)) rfl ?_
            refine k_iconst C dX3_strike_31 ?_
            refine k_iaload C dX3_strike_32 (by repeat (first | exact hs_eq _ _ _ | refine hs_ne (by omega) ?_ | assumption)) (by omega) (by omega) (by omega) ?_
            refine k_callS C (n := 2) (as := [_, _]) (ct_J9_min_7cf53 l D tc base _ _ _ ⟨by omega, by omega⟩ ⟨by omega, by omega⟩) ml_X3_158 sm_J9_min_7cf53 ini_J9 co_J9_min_7cf53 ⟨by decide, by decide, by decide +kernel⟩ rfl ⟨by decide, by decide⟩ rfl (Nat.le_of_ble_eq_true rfl) ⟨Nat.zero_le _, Nat.zero_le _⟩ dX3_strike_33 ?_
            rintro _ _ ⟨rfl, rfl⟩
            rw [s3, t1]
            have hmm := mnI_le (zrr 64) (zrr 1)
            have d20 : d2 0 = zrr 54 := (r3 0 (by omega) (by omega)).2
            have hss := zStk_rng hi (by omega)
            refine k_istore_n C dX3_strike_36 (by decide) rfl ?_
            refine k_iload_n C dX3_strike_37 rfl ?_
            refine k_aload_n C dX3_strike_38 rfl ?_
            refine k_get C (k := 2) inX3 (ci := 3) rfl (by decide) fl_X3_28 dX3_strike_39 (by repeat (first | exact hs_eq _ _ _ | refine hs_ne (by omega) ?_ | assumption)) rfl ?_
            refine k_get C (k := 2) inX0 (ci := 0) rfl (by decide) fl_X3_174 dX3_strike_42 (by repeat (first | exact hs_eq _ _ _ | refine hs_ne (by omega) ?_ | assumption)) rfl ?_
            refine k_iconst C dX3_strike_45 ?_
            refine k_iaload C dX3_strike_46 (by repeat (first | exact hs_eq _ _ _ | refine hs_ne (by omega) ?_ | assumption)) (by omega) (by omega) (by omega) ?_
            refine k_callS C (n := 2) (as := [_, _]) (ct_J9_min_7cf53 l D tc base _ _ _ ⟨by omega, by omega⟩ ⟨by omega, by omega⟩) ml_X3_158 sm_J9_min_7cf53 ini_J9 co_J9_min_7cf53 ⟨by decide, by decide, by decide +kernel⟩ rfl ⟨by decide, by decide⟩ rfl (Nat.le_of_ble_eq_true rfl) ⟨Nat.zero_le _, Nat.zero_le _⟩ dX3_strike_47 ?_
            rintro _ _ ⟨rfl, rfl⟩
            rw [d20, zStk_eq]
            refine k_istore_n C dX3_strike_50 (by decide) rfl ?_
            refine k_aload_n C dX3_strike_51 rfl ?_
            refine k_get C (k := 0) inX3 (ci := 3) rfl (by decide) fl_X3_12 dX3_strike_52 (by repeat (first | exact hs_eq _ _ _ | refine hs_ne (by omega) ?_ | assumption)) rfl ?_
            refine k_iconst C dX3_strike_55 ?_
            refine k_iload_n C dX3_strike_56 rfl ?_
            refine k_callV C (n := 2) (as := [_, _]) (ct_X5_take l D tc base (oo + 1) f1 f2 f3 _ (by repeat (first | exact hs_eq _ _ _ | refine hs_ne (by omega) ?_ | assumption)) (by repeat (first | exact hs_eq _ _ _ | refine hs_ne (by omega) ?_ | assumption)) (by repeat (first | exact hs_eq _ _ _ | refine hs_ne (by omega) ?_ | assumption)) (by repeat (first | exact hs_eq _ _ _ | refine hs_ne (by omega) ?_ | assumption)) _ _ (by omega) (by omega)) ml_X3_161 im_X5_take se_X5_take ini_X5 co_X5_take ⟨rfl, by decide, by decide, by decide +kernel⟩ rfl (ci := 5) rfl (by repeat (first | exact hs_eq _ _ _ | refine hs_ne (by omega) ?_ | assumption)) ⟨by decide, by decide⟩ rfl (Nat.le_of_ble_eq_true rfl) ⟨Nat.zero_le _, Nat.zero_le _⟩ dX3_strike_57 ?_
            rintro _ _ ⟨rfl, rfl⟩
            refine k_aload_n C dX3_strike_60 rfl ?_
            refine k_dup C dX3_strike_61 rfl ?_
            refine k_get C (k := 9) inX3 (ci := 3) rfl (by decide) fl_X3_71 dX3_strike_62 (by repeat (first | exact hs_eq _ _ _ | refine hs_ne (by omega) ?_ | assumption)) rfl ?_
            refine k_iload_n C dX3_strike_65 rfl ?_
            refine k_iadd C dX3_strike_66 ?_
            refine k_put C (k := 9) inX3 tyX3_ok nmX3 (ci := 3) rfl (by decide) fl_X3_71 rfl (Nat.le_of_ble_eq_true rfl) dX3_strike_67 (by repeat (first | exact hs_eq _ _ _ | refine hs_ne (by omega) ?_ | assumption)) ?_
            refine k_aload_n C dX3_strike_70 rfl ?_
            refine k_get C (k := 2) inX3 (ci := 3) rfl (by decide) fl_X3_28 dX3_strike_71 (by repeat (first | exact hs_eq _ _ _ | refine hs_ne (by omega) ?_ | assumption)) rfl ?_
            refine k_iload_n C dX3_strike_74 rfl ?_
            refine k_callV C (n := 1) (as := [_]) (ct_X0_payFirst l D tc base _ (oo + 11) d1 d2 (zrr 52) (by repeat (first | exact hs_eq _ _ _ | refine hs_ne (by omega) ?_ | assumption)) (by repeat (first | exact hs_eq _ _ _ | refine hs_ne (by omega) ?_ | assumption)) (by repeat (first | exact hs_eq _ _ _ | refine hs_ne (by omega) ?_ | assumption)) _ (by omega) (by omega) ⟨by omega, by omega⟩) ml_X3_184 im_X0_payFirst se_X0_payFirst ini_X0 co_X0_payFirst ⟨rfl, by decide, by decide, by decide +kernel⟩ rfl (ci := 0) rfl (by repeat (first | exact hs_eq _ _ _ | refine hs_ne (by omega) ?_ | assumption)) ⟨by decide, by decide⟩ rfl (Nat.le_of_ble_eq_true rfl) ⟨Nat.zero_le _, Nat.zero_le _⟩ dX3_strike_75 ?_
            rintro _ _ ⟨rfl, hpay⟩
            rw [d20] at hpay
            rcases hpay with ⟨hz0, F1, F2, hF, rfl⟩ | ⟨hz0, rfl⟩
            · refine k_vret C hr dX3_strike_78 ?_
              have hz : zSix zrr = zDrop (iu (iu (zTake zrr 1 (zStk zrr)) 54 (zrr 54 - zStk zrr)) 14 (zrr 14 + zStk zrr)) := by rw [zSix, if_neg (by omega), if_pos (by omega)]
              have q52 : iu (iu (zTake zrr 1 (zStk zrr)) 54 (zrr 54 - zStk zrr)) 14 (zrr 14 + zStk zrr) 52 = zrr 52 := by simp (disch := omega) only [iu_ne, zTake_ne]
              have q21 : iu (iu (zTake zrr 1 (zStk zrr)) 54 (zrr 54 - zStk zrr)) 14 (zrr 14 + zStk zrr) 21 = zrr 21 := by simp (disch := omega) only [iu_ne, zTake_ne]
              have hdn : ∀ kkk : Int, kkk < 52 ∨ 61 ≤ kkk → zDrop (iu (iu (zTake zrr 1 (zStk zrr)) 54 (zrr 54 - zStk zrr)) 14 (zrr 14 + zStk zrr)) kkk = iu (iu (zTake zrr 1 (zStk zrr)) 54 (zrr 54 - zStk zrr)) 14 (zrr 14 + zStk zrr) kkk := fun kkk hk => zDrop_ne hk (by omega)
              have hm52 : zDrop (iu (iu (zTake zrr 1 (zStk zrr)) 54 (zrr 54 - zStk zrr)) 14 (zrr 14 + zStk zrr)) 52 = zrr 52 - 1 := by rw [zDrop_52, q52]
              have hsp := ((hsr.take (w := 1) (t := zStk zrr) (by omega) (by omega)).pay (v := zrr 54 - zStk zrr) (by simp (disch := omega) only [zTake_ne]; omega)).free (j := 14) (v := zrr 14 + zStk zrr) (by omega)
              refine ⟨rfl, ?_, fun aaa haa => by repeat (first | rfl | refine hs_ne (by omega) ?_)⟩
              rw [hz]
              refine ⟨_, _, f3, w1, w2, w3, w4, w5, F1, F2, se, ⟨by (try simp (disch := omega) only [iu_ne, iu_eq, zWind_ne, zTake_ne, zChim_ne, zChim_16, hdn, hm52]); repeat (first | exact hs_eq _ _ _ | refine hs_ne (by omega) ?_ | assumption), (by repeat (first | exact hs_eq _ _ _ | refine hs_ne (by omega) ?_ | assumption)), (by repeat (first | exact hs_eq _ _ _ | refine hs_ne (by omega) ?_ | assumption)), (by repeat (first | exact hs_eq _ _ _ | refine hs_ne (by omega) ?_ | assumption)), (by repeat (first | exact hs_eq _ _ _ | refine hs_ne (by omega) ?_ | assumption)), by (try simp (disch := omega) only [iu_ne, iu_eq, zWind_ne, zTake_ne, zChim_ne, zChim_16, hdn, hm52]); repeat (first | exact hs_eq _ _ _ | refine hs_ne (by omega) ?_ | assumption), (by repeat (first | exact hs_eq _ _ _ | refine hs_ne (by omega) ?_ | assumption)), (by repeat (first | exact hs_eq _ _ _ | refine hs_ne (by omega) ?_ | assumption)), (by repeat (first | exact hs_eq _ _ _ | refine hs_ne (by omega) ?_ | assumption)), (by repeat (first | exact hs_eq _ _ _ | refine hs_ne (by omega) ?_ | assumption)), (by repeat (first | exact hs_eq _ _ _ | refine hs_ne (by omega) ?_ | assumption)), by (try simp (disch := omega) only [iu_ne, iu_eq, zWind_ne, zTake_ne, zChim_ne, zChim_16, hdn, hm52]); repeat (first | exact hs_eq _ _ _ | refine hs_ne (by omega) ?_ | assumption), (by repeat (first | exact hs_eq _ _ _ | refine hs_ne (by omega) ?_ | assumption)), (by repeat (first | exact hs_eq _ _ _ | refine hs_ne (by omega) ?_ | assumption)), (by repeat (first | exact hs_eq _ _ _ | refine hs_ne (by omega) ?_ | assumption))⟩, ?_⟩
              exact hsp.drop (by omega) (by omega) (by omega) (fun k0 k1 k2 => hF.1 k0 k1 (by omega)) (fun k0 k1 k2 => by rw [hF.2 k0 k1 (by omega), iu_ne (by omega)])
            · refine k_vret C hr dX3_strike_78 ?_
              have hz : zSix zrr = iu (iu (zTake zrr 1 (zStk zrr)) 54 (zrr 54 - zStk zrr)) 14 (zrr 14 + zStk zrr) := by rw [zSix, if_neg (by omega), if_neg (by omega)]
              refine ⟨rfl, ?_, fun aaa haa => by repeat (first | rfl | refine hs_ne (by omega) ?_)⟩
              rw [hz]
              refine ⟨_, _, f3, w1, w2, w3, w4, w5, d1, _, se, ⟨by (try simp (disch := omega) only [iu_ne, iu_eq, zWind_ne, zTake_ne, zChim_ne, zChim_16]); repeat (first | exact hs_eq _ _ _ | refine hs_ne (by omega) ?_ | assumption), (by repeat (first | exact hs_eq _ _ _ | refine hs_ne (by omega) ?_ | assumption)), (by repeat (first | exact hs_eq _ _ _ | refine hs_ne (by omega) ?_ | assumption)), (by repeat (first | exact hs_eq _ _ _ | refine hs_ne (by omega) ?_ | assumption)), (by repeat (first | exact hs_eq _ _ _ | refine hs_ne (by omega) ?_ | assumption)), by (try simp (disch := omega) only [iu_ne, iu_eq, zWind_ne, zTake_ne, zChim_ne, zChim_16]); repeat (first | exact hs_eq _ _ _ | refine hs_ne (by omega) ?_ | assumption), (by repeat (first | exact hs_eq _ _ _ | refine hs_ne (by omega) ?_ | assumption)), (by repeat (first | exact hs_eq _ _ _ | refine hs_ne (by omega) ?_ | assumption)), (by repeat (first | exact hs_eq _ _ _ | refine hs_ne (by omega) ?_ | assumption)), (by repeat (first | exact hs_eq _ _ _ | refine hs_ne (by omega) ?_ | assumption)), (by repeat (first | exact hs_eq _ _ _ | refine hs_ne (by omega) ?_ | assumption)), by (try simp (disch := omega) only [iu_ne, iu_eq, zWind_ne, zTake_ne, zChim_ne, zChim_16]); repeat (first | exact hs_eq _ _ _ | refine hs_ne (by omega) ?_ | assumption), (by repeat (first | exact hs_eq _ _ _ | refine hs_ne (by omega) ?_ | assumption)), (by repeat (first | exact hs_eq _ _ _ | refine hs_ne (by omega) ?_ | assumption)), (by repeat (first | exact hs_eq _ _ _ | refine hs_ne (by omega) ?_ | assumption))⟩, ?_⟩
              exact ((hsr.take (by omega) (by omega)).pay (by simp (disch := omega) only [zTake_ne]; omega)).free (by omega))
        · try (exfalso; omega)
          all_goals (
            refine k_vret C hr dX3_strike_17 ?_
            exact ⟨rfl, by rw [zSix, if_pos (by omega)]; exact hS, Fr.rf _ _ _⟩)
      · skip
        refine k_if_eq (tgt := 18) C dX3_strike_14 (by decide) ⟨by omega, by omega⟩ (fun c14 => ?_) (fun c14 => ?_)
        · try (exfalso; omega)
          all_goals (
            refine k_aload_n C dX3_strike_18 rfl ?_
            refine k_get C (k := 3) inX3 (ci := 3) rfl (by decide) fl_X3_32 dX3_strike_19 (by repeat (first | exact hs_eq _ _ _ | refine hs_ne (by omega) ?_ | assumption)) rfl ?_
            refine k_iconst C dX3_strike_22 ?_
            refine k_iaload C dX3_strike_23 (by repeat (first | exact hs_eq _ _ _ | refine hs_ne (by omega) ?_ | assumption)) (by omega) (by omega) (by omega) ?_
            refine k_aload_n C dX3_strike_24 rfl ?_
            refine k_get C (k := 0) inX3 (ci := 3) rfl (by decide) fl_X3_12 dX3_strike_25 (by repeat (first | exact hs_eq _ _ _ | refine hs_ne (by omega) ?_ | assumption)) rfl ?_
            refine k_get C (k := 0) inX5 (ci := 5) rfl (by decide) fl_X3_155 dX3_strike_28 (by repeat (first | exact hs_eq _ _ _ | refine hs_ne (by omega) ?_ | assumption)) rfl ?_
            refine k_iconst C dX3_strike_31 ?_
            refine k_iaload C dX3_strike_32 (by repeat (first | exact hs_eq _ _ _ | refine hs_ne (by omega) ?_ | assumption)) (by omega) (by omega) (by omega) ?_
            refine k_callS C (n := 2) (as := [_, _]) (ct_J9_min_7cf53 l D tc base _ _ _ ⟨by omega, by omega⟩ ⟨by omega, by omega⟩) ml_X3_158 sm_J9_min_7cf53 ini_J9 co_J9_min_7cf53 ⟨by decide, by decide, by decide +kernel⟩ rfl ⟨by decide, by decide⟩ rfl (Nat.le_of_ble_eq_true rfl) ⟨Nat.zero_le _, Nat.zero_le _⟩ dX3_strike_33 ?_
            rintro _ _ ⟨rfl, rfl⟩
            rw [s3, t1]
            have hmm := mnI_le (zrr 64) (zrr 1)
            have d20 : d2 0 = zrr 54 := (r3 0 (by omega) (by omega)).2
            have hss := zStk_rng hi (by omega)
            refine k_istore_n C dX3_strike_36 (by decide) rfl ?_
            refine k_iload_n C dX3_strike_37 rfl ?_
            refine k_aload_n C dX3_strike_38 rfl ?_
            refine k_get C (k := 2) inX3 (ci := 3) rfl (by decide) fl_X3_28 dX3_strike_39 (by repeat (first | exact hs_eq _ _ _ | refine hs_ne (by omega) ?_ | assumption)) rfl ?_
            refine k_get C (k := 2) inX0 (ci := 0) rfl (by decide) fl_X3_174 dX3_strike_42 (by repeat (first | exact hs_eq _ _ _ | refine hs_ne (by omega) ?_ | assumption)) rfl ?_
            refine k_iconst C dX3_strike_45 ?_
            refine k_iaload C dX3_strike_46 (by repeat (first | exact hs_eq _ _ _ | refine hs_ne (by omega) ?_ | assumption)) (by omega) (by omega) (by omega) ?_
            refine k_callS C (n := 2) (as := [_, _]) (ct_J9_min_7cf53 l D tc base _ _ _ ⟨by omega, by omega⟩ ⟨by omega, by omega⟩) ml_X3_158 sm_J9_min_7cf53 ini_J9 co_J9_min_7cf53 ⟨by decide, by decide, by decide +kernel⟩ rfl ⟨by decide, by decide⟩ rfl (Nat.le_of_ble_eq_true rfl) ⟨Nat.zero_le _, Nat.zero_le _⟩ dX3_strike_47 ?_
            rintro _ _ ⟨rfl, rfl⟩
            rw [d20, zStk_eq]
            refine k_istore_n C dX3_strike_50 (by decide) rfl ?_
            refine k_aload_n C dX3_strike_51 rfl ?_
            refine k_get C (k := 0) inX3 (ci := 3) rfl (by decide) fl_X3_12 dX3_strike_52 (by repeat (first | exact hs_eq _ _ _ | refine hs_ne (by omega) ?_ | assumption)) rfl ?_
            refine k_iconst C dX3_strike_55 ?_
            refine k_iload_n C dX3_strike_56 rfl ?_
            refine k_callV C (n := 2) (as := [_, _]) (ct_X5_take l D tc base (oo + 1) f1 f2 f3 _ (by repeat (first | exact hs_eq _ _ _ | refine hs_ne (by omega) ?_ | assumption)) (by repeat (first | exact hs_eq _ _ _ | refine hs_ne (by omega) ?_ | assumption)) (by repeat (first | exact hs_eq _ _ _ | refine hs_ne (by omega) ?_ | assumption)) (by repeat (first | exact hs_eq _ _ _ | refine hs_ne (by omega) ?_ | assumption)) _ _ (by omega) (by omega)) ml_X3_161 im_X5_take se_X5_take ini_X5 co_X5_take ⟨rfl, by decide, by decide, by decide +kernel⟩ rfl (ci := 5) rfl (by repeat (first | exact hs_eq _ _ _ | refine hs_ne (by omega) ?_ | assumption)) ⟨by decide, by decide⟩ rfl (Nat.le_of_ble_eq_true rfl) ⟨Nat.zero_le _, Nat.zero_le _⟩ dX3_strike_57 ?_
            rintro _ _ ⟨rfl, rfl⟩
            refine k_aload_n C dX3_strike_60 rfl ?_
            refine k_dup C dX3_strike_61 rfl ?_
            refine k_get C (k := 9) inX3 (ci := 3) rfl (by decide) fl_X3_71 dX3_strike_62 (by repeat (first | exact hs_eq _ _ _ | refine hs_ne (by omega) ?_ | assumption)) rfl ?_
            refine k_iload_n C dX3_strike_65 rfl ?_
            refine k_iadd C dX3_strike_66 ?_
            refine k_put C (k := 9) inX3 tyX3_ok nmX3 (ci := 3) rfl (by decide) fl_X3_71 rfl (Nat.le_of_ble_eq_true rfl) dX3_strike_67 (by repeat (first | exact hs_eq _ _ _ | refine hs_ne (by omega) ?_ | assumption)) ?_
            refine k_aload_n C dX3_strike_70 rfl ?_
            refine k_get C (k := 2) inX3 (ci := 3) rfl (by decide) fl_X3_28 dX3_strike_71 (by repeat (first | exact hs_eq _ _ _ | refine hs_ne (by omega) ?_ | assumption)) rfl ?_
            refine k_iload_n C dX3_strike_74 rfl ?_
            refine k_callV C (n := 1) (as := [_]) (ct_X0_payFirst l D tc base _ (oo + 11) d1 d2 (zrr 52) (by repeat (first | exact hs_eq _ _ _ | refine hs_ne (by omega) ?_ | assumption)) (by repeat (first | exact hs_eq _ _ _ | refine hs_ne (by omega) ?_ | assumption)) (by repeat (first | exact hs_eq _ _ _ | refine hs_ne (by omega) ?_ | assumption)) _ (by omega) (by omega) ⟨by omega, by omega⟩) ml_X3_184 im_X0_payFirst se_X0_payFirst ini_X0 co_X0_payFirst ⟨rfl, by decide, by decide, by decide +kernel⟩ rfl (ci := 0) rfl (by repeat (first | exact hs_eq _ _ _ | refine hs_ne (by omega) ?_ | assumption)) ⟨by decide, by decide⟩ rfl (Nat.le_of_ble_eq_true rfl) ⟨Nat.zero_le _, Nat.zero_le _⟩ dX3_strike_75 ?_
            rintro _ _ ⟨rfl, hpay⟩
            rw [d20] at hpay
            rcases hpay with ⟨hz0, F1, F2, hF, rfl⟩ | ⟨hz0, rfl⟩
            · refine k_vret C hr dX3_strike_78 ?_
              have hz : zSix zrr = zDrop (iu (iu (zTake zrr 1 (zStk zrr)) 54 (zrr 54 - zStk zrr)) 14 (zrr 14 + zStk zrr)) := by rw [zSix, if_neg (by omega), if_pos (by omega)]
              have q52 : iu (iu (zTake zrr 1 (zStk zrr)) 54 (zrr 54 - zStk zrr)) 14 (zrr 14 + zStk zrr) 52 = zrr 52 := by simp (disch := omega) only [iu_ne, zTake_ne]
              have q21 : iu (iu (zTake zrr 1 (zStk zrr)) 54 (zrr 54 - zStk zrr)) 14 (zrr 14 + zStk zrr) 21 = zrr 21 := by simp (disch := omega) only [iu_ne, zTake_ne]
              have hdn : ∀ kkk : Int, kkk < 52 ∨ 61 ≤ kkk → zDrop (iu (iu (zTake zrr 1 (zStk zrr)) 54 (zrr 54 - zStk zrr)) 14 (zrr 14 + zStk zrr)) kkk = iu (iu (zTake zrr 1 (zStk zrr)) 54 (zrr 54 - zStk zrr)) 14 (zrr 14 + zStk zrr) kkk := fun kkk hk => zDrop_ne hk (by omega)
              have hm52 : zDrop (iu (iu (zTake zrr 1 (zStk zrr)) 54 (zrr 54 - zStk zrr)) 14 (zrr 14 + zStk zrr)) 52 = zrr 52 - 1 := by rw [zDrop_52, q52]
              have hsp := ((hsr.take (w := 1) (t := zStk zrr) (by omega) (by omega)).pay (v := zrr 54 - zStk zrr) (by simp (disch := omega) only [zTake_ne]; omega)).free (j := 14) (v := zrr 14 + zStk zrr) (by omega)
              refine ⟨rfl, ?_, fun aaa haa => by repeat (first | rfl | refine hs_ne (by omega) ?_)⟩
              rw [hz]
              refine ⟨_, _, f3, w1, w2, w3, w4, w5, F1, F2, se, ⟨by (try simp (disch := omega) only [iu_ne, iu_eq, zWind_ne, zTake_ne, zChim_ne, zChim_16, hdn, hm52]); repeat (first | exact hs_eq _ _ _ | refine hs_ne (by omega) ?_ | assumption), (by repeat (first | exact hs_eq _ _ _ | refine hs_ne (by omega) ?_ | assumption)), (by repeat (first | exact hs_eq _ _ _ | refine hs_ne (by omega) ?_ | assumption)), (by repeat (first | exact hs_eq _ _ _ | refine hs_ne (by omega) ?_ | assumption)), (by repeat (first | exact hs_eq _ _ _ | refine hs_ne (by omega) ?_ | assumption)), by (try simp (disch := omega) only [iu_ne, iu_eq, zWind_ne, zTake_ne, zChim_ne, zChim_16, hdn, hm52]); repeat (first | exact hs_eq _ _ _ | refine hs_ne (by omega) ?_ | assumption), (by repeat (first | exact hs_eq _ _ _ | refine hs_ne (by omega) ?_ | assumption)), (by repeat (first | exact hs_eq _ _ _ | refine hs_ne (by omega) ?_ | assumption)), (by repeat (first | exact hs_eq _ _ _ | refine hs_ne (by omega) ?_ | assumption)), (by repeat (first | exact hs_eq _ _ _ | refine hs_ne (by omega) ?_ | assumption)), (by repeat (first | exact hs_eq _ _ _ | refine hs_ne (by omega) ?_ | assumption)), by (try simp (disch := omega) only [iu_ne, iu_eq, zWind_ne, zTake_ne, zChim_ne, zChim_16, hdn, hm52]); repeat (first | exact hs_eq _ _ _ | refine hs_ne (by omega) ?_ | assumption), (by repeat (first | exact hs_eq _ _ _ | refine hs_ne (by omega) ?_ | assumption)), (by repeat (first | exact hs_eq _ _ _ | refine hs_ne (by omega) ?_ | assumption)), (by repeat (first | exact hs_eq _ _ _ | refine hs_ne (by omega) ?_ | assumption))⟩, ?_⟩
              exact hsp.drop (by omega) (by omega) (by omega) (fun k0 k1 k2 => hF.1 k0 k1 (by omega)) (fun k0 k1 k2 => by rw [hF.2 k0 k1 (by omega), iu_ne (by omega)])
            · refine k_vret C hr dX3_strike_78 ?_
              have hz : zSix zrr = iu (iu (zTake zrr 1 (zStk zrr)) 54 (zrr 54 - zStk zrr)) 14 (zrr 14 + zStk zrr) := by rw [zSix, if_neg (by omega), if_neg (by omega)]
              refine ⟨rfl, ?_, fun aaa haa => by repeat (first | rfl | refine hs_ne (by omega) ?_)⟩
              rw [hz]
              refine ⟨_, _, f3, w1, w2, w3, w4, w5, d1, _, se, ⟨by (try simp (disch := omega) only [iu_ne, iu_eq, zWind_ne, zTake_ne, zChim_ne, zChim_16]); repeat (first | exact hs_eq _ _ _ | refine hs_ne (by omega) ?_ | assumption), (by repeat (first | exact hs_eq _ _ _ | refine hs_ne (by omega) ?_ | assumption)), (by repeat (first | exact hs_eq _ _ _ | refine hs_ne (by omega) ?_ | assumption)), (by repeat (first | exact hs_eq _ _ _ | refine hs_ne (by omega) ?_ | assumption)), (by repeat (first | exact hs_eq _ _ _ | refine hs_ne (by omega) ?_ | assumption)), by (try simp (disch := omega) only [iu_ne, iu_eq, zWind_ne, zTake_ne, zChim_ne, zChim_16]); repeat (first | exact hs_eq _ _ _ | refine hs_ne (by omega) ?_ | assumption), (by repeat (first | exact hs_eq _ _ _ | refine hs_ne (by omega) ?_ | assumption)), (by repeat (first | exact hs_eq _ _ _ | refine hs_ne (by omega) ?_ | assumption)), (by repeat (first | exact hs_eq _ _ _ | refine hs_ne (by omega) ?_ | assumption)), (by repeat (first | exact hs_eq _ _ _ | refine hs_ne (by omega) ?_ | assumption)), (by repeat (first | exact hs_eq _ _ _ | refine hs_ne (by omega) ?_ | assumption)), by (try simp (disch := omega) only [iu_ne, iu_eq, zWind_ne, zTake_ne, zChim_ne, zChim_16]); repeat (first | exact hs_eq _ _ _ | refine hs_ne (by omega) ?_ | assumption), (by repeat (first | exact hs_eq _ _ _ | refine hs_ne (by omega) ?_ | assumption)), (by repeat (first | exact hs_eq _ _ _ | refine hs_ne (by omega) ?_ | assumption)), (by repeat (first | exact hs_eq _ _ _ | refine hs_ne (by omega) ?_ | assumption))⟩, ?_⟩
              exact ((hsr.take (by omega) (by omega)).pay (by simp (disch := omega) only [zTake_ne]; omega)).free (by omega))
        · try (exfalso; omega)
          all_goals (
            refine k_vret C hr dX3_strike_17 ?_
            exact ⟨rfl, by rw [zSix, if_pos (by omega)]; exact hS, Fr.rf _ _ _⟩))

