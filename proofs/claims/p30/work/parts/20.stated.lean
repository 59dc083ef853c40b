set_option maxRecDepth 20000 in
set_option maxHeartbeats 1000000 in
theorem ct_X3_passUpToDebts (l : Launch) (D : va_G) (tc : Nat → ClassId) (base : Nat) (oo : Nat) (zrr : RZ) (hpp : AH) (hS : SAt hpp oo zrr) (hi : zInv zrr) (hm : zrr 13 ≤ 100000) (ha : zrr 18 + zrr 19 ≤ zrr 13) : CT l D tc base yX3_passUpToDebts cX3_passUpToDebts 1 none 3 [aR oo] hpp (fun r h' => r = none ∧ SAt h' oo (zFP zrr) ∧ Fr hpp h' oo 15) := by
  refine CT.of [some (aR oo)] (by decide +kernel) rfl (Nat.le_of_ble_eq_true rfl) ?_
  intro p e s m args below meth c C hr hnm
  have hi1 := zInv_one hi
  have hi2 := zInv_two hi1
  have ha2 := zOk_ha hi ha
  have e1 := zOne_13 hi
  have e2 := zTwo_13 (z := zOne zrr)
  have hi3 := zInv_three hi2 ha2
  have hi4 := zInv_four hi3.1
  obtain ⟨fs0, k0⟩ := hS.obj
  refine k_aload_n C dX3_passUpToDebts_0 rfl ?_
  refine k_callV C (n := 0) (as := []) (ct_X3_letWinderCome l D tc base oo zrr _ hS hi hm) ml_X3_111 im_X3_letWinderCome se_X3_letWinderCome ini_X3 co_X3_letWinderCome ⟨rfl, by decide, by decide, by decide +kernel⟩ rfl (ci := 3) rfl (by repeat (first | exact hs_eq _ _ _ | refine hs_ne (by omega) ?_ | assumption)) ⟨by decide, by decide⟩ rfl (Nat.le_of_ble_eq_true rfl) ⟨Nat.zero_le _, Nat.zero_le _⟩ dX3_passUpToDebts_1 ?_
  rintro _ _ ⟨rfl, hS1, hF1⟩
  obtain ⟨fs1, k1⟩ := hS1.obj
  refine k_aload_n C dX3_passUpToDebts_4 rfl ?_
  refine k_callV C (n := 0) (as := []) (ct_X3_rewind l D tc base oo _ _ hS1 hi1) ml_X3_114 im_X3_rewind se_X3_rewind ini_X3 co_X3_rewind ⟨rfl, by decide, by decide, by decide +kernel⟩ rfl (ci := 3) rfl (by repeat (first | exact hs_eq _ _ _ | refine hs_ne (by omega) ?_ | assumption)) ⟨by decide, by decide⟩ rfl (Nat.le_of_ble_eq_true rfl) ⟨Nat.zero_le _, Nat.zero_le _⟩ dX3_passUpToDebts_5 ?_
  rintro _ _ ⟨rfl, hS2, hF2⟩
  obtain ⟨fs2, k2⟩ := hS2.obj
  refine k_aload_n C dX3_passUpToDebts_8 rfl ?_
  refine k_callV C (n := 0) (as := []) (ct_X3_moveHands l D tc base oo _ _ hS2 hi2 (by omega) ha2) ml_X3_117 im_X3_moveHands se_X3_moveHands ini_X3 co_X3_moveHands ⟨rfl, by decide, by decide, by decide +kernel⟩ rfl (ci := 3) rfl (by repeat (first | exact hs_eq _ _ _ | refine hs_ne (by omega) ?_ | assumption)) ⟨by decide, by decide⟩ rfl (Nat.le_of_ble_eq_true rfl) ⟨Nat.zero_le _, Nat.zero_le _⟩ dX3_passUpToDebts_9 ?_
  rintro _ _ (⟨rfl, hS3, hF3, hq⟩ | ⟨rfl, hS3, hF3, hq⟩)
  · skip
    obtain ⟨fs3, k3⟩ := hS3.obj
    refine k_if_eq (tgt := 23) C dX3_passUpToDebts_12 (by decide) ⟨by omega, by omega⟩ (fun c12 => ?_) (fun c12 => ?_)
    · try (exfalso; omega)
      all_goals (
        refine k_vret C hr dX3_passUpToDebts_23 ?_
        first
          | exact ⟨rfl, by rw [zFP, if_pos hq]; exact hS5, (((hF1.tr hF2).tr hF3).tr hF4).tr hF5⟩
          | exact ⟨rfl, by rw [zFP, if_neg hq]; exact hS3, (hF1.tr hF2).tr hF3⟩)
    · try (exfalso; omega)
      all_goals (
        refine k_aload_n C dX3_passUpToDebts_15 rfl ?_
        refine k_callV C (n := 0) (as := []) (ct_X3_chime l D tc base oo _ _ hS3 hi3.1) ml_X3_121 im_X3_chime se_X3_chime ini_X3 co_X3_chime ⟨rfl, by decide, by decide, by decide +kernel⟩ rfl (ci := 3) rfl (by repeat (first | exact hs_eq _ _ _ | refine hs_ne (by omega) ?_ | assumption)) ⟨by decide, by decide⟩ rfl (Nat.le_of_ble_eq_true rfl) ⟨Nat.zero_le _, Nat.zero_le _⟩ dX3_passUpToDebts_16 ?_
        rintro _ _ ⟨rfl, hS4, hF4⟩
        obtain ⟨fs4, k4⟩ := hS4.obj
        refine k_aload_n C dX3_passUpToDebts_19 rfl ?_
        refine k_callV C (n := 0) (as := []) (ct_X3_owe l D tc base oo _ _ hS4 hi4.1) ml_X3_124 im_X3_owe se_X3_owe ini_X3 co_X3_owe ⟨rfl, by decide, by decide, by decide +kernel⟩ rfl (ci := 3) rfl (by repeat (first | exact hs_eq _ _ _ | refine hs_ne (by omega) ?_ | assumption)) ⟨by decide, by decide⟩ rfl (Nat.le_of_ble_eq_true rfl) ⟨Nat.zero_le _, Nat.zero_le _⟩ dX3_passUpToDebts_20 ?_
        rintro _ _ ⟨rfl, hS5, hF5⟩
        refine k_vret C hr dX3_passUpToDebts_23 ?_
        first
          | exact ⟨rfl, by rw [zFP, if_pos hq]; exact hS5, (((hF1.tr hF2).tr hF3).tr hF4).tr hF5⟩
          | exact ⟨rfl, by rw [zFP, if_neg hq]; exact hS3, (hF1.tr hF2).tr hF3⟩)
  · skip
    obtain ⟨fs3, k3⟩ := hS3.obj
    refine k_if_eq (tgt := 23) C dX3_passUpToDebts_12 (by decide) ⟨by omega, by omega⟩ (fun c12 => ?_) (fun c12 => ?_)
    · try (exfalso; omega)
      all_goals (
        refine k_vret C hr dX3_passUpToDebts_23 ?_
        first
          | exact ⟨rfl, by rw [zFP, if_pos hq]; exact hS5, (((hF1.tr hF2).tr hF3).tr hF4).tr hF5⟩
          | exact ⟨rfl, by rw [zFP, if_neg hq]; exact hS3, (hF1.tr hF2).tr hF3⟩)
    · try (exfalso; omega)
      all_goals (
        refine k_aload_n C dX3_passUpToDebts_15 rfl ?_
        refine k_callV C (n := 0) (as := []) (ct_X3_chime l D tc base oo _ _ hS3 hi3.1) ml_X3_121 im_X3_chime se_X3_chime ini_X3 co_X3_chime ⟨rfl, by decide, by decide, by decide +kernel⟩ rfl (ci := 3) rfl (by repeat (first | exact hs_eq _ _ _ | refine hs_ne (by omega) ?_ | assumption)) ⟨by decide, by decide⟩ rfl (Nat.le_of_ble_eq_true rfl) ⟨Nat.zero_le _, Nat.zero_le _⟩ dX3_passUpToDebts_16 ?_
        rintro _ _ ⟨rfl, hS4, hF4⟩
        obtain ⟨fs4, k4⟩ := hS4.obj
        refine k_aload_n C dX3_passUpToDebts_19 rfl ?_
        refine k_callV C (n := 0) (as := []) (ct_X3_owe l D tc base oo _ _ hS4 hi4.1) ml_X3_124 im_X3_owe se_X3_owe ini_X3 co_X3_owe ⟨rfl, by decide, by decide, by decide +kernel⟩ rfl (ci := 3) rfl (by repeat (first | exact hs_eq _ _ _ | refine hs_ne (by omega) ?_ | assumption)) ⟨by decide, by decide⟩ rfl (Nat.le_of_ble_eq_true rfl) ⟨Nat.zero_le _, Nat.zero_le _⟩ dX3_passUpToDebts_20 ?_
        rintro _ _ ⟨rfl, hS5, hF5⟩
        refine k_vret C hr dX3_passUpToDebts_23 ?_
        first
          | exact ⟨rfl, by rw [zFP, if_pos hq]; exact hS5, (((hF1.tr hF2).tr hF3).tr hF4).tr hF5⟩
          | exact ⟨rfl, by rw [zFP, if_neg hq]; exact hS3, (hF1.tr hF2).tr hF3⟩)

set_option maxRecDepth 20000 in
set_option maxHeartbeats 1000000 in
theorem ct_X3_passMinute (l : Launch) (D : va_G) (tc : Nat → ClassId) (base : Nat) (oo : Nat) (zrr : RZ) (hpp : AH) (hS : SAt hpp oo zrr) (hi : zInv zrr) (hm : zrr 13 ≤ 100000) (ha : zrr 18 + zrr 19 ≤ zrr 13) : CT l D tc base yX3_passMinute cX3_passMinute 1 none 4 [aR oo] hpp (fun r h' => r = none ∧ SAt h' oo (zMin zrr) ∧ Fr hpp h' oo 15) := by
  refine CT.of [some (aR oo)] (by decide +kernel) rfl (Nat.le_of_ble_eq_true rfl) ?_
  intro p e s m args below meth c C hr hnm
  have hif := zInv_fp hi ha
  have hi6 := zInv_six hif.1
  obtain ⟨fs0, k0⟩ := hS.obj
  refine k_aload_n C dX3_passMinute_0 rfl ?_
  refine k_callV C (n := 0) (as := []) (ct_X3_passUpToDebts l D tc base oo zrr _ hS hi hm ha) ml_X3_105 im_X3_passUpToDebts se_X3_passUpToDebts ini_X3 co_X3_passUpToDebts ⟨rfl, by decide, by decide, by decide +kernel⟩ rfl (ci := 3) rfl (by repeat (first | exact hs_eq _ _ _ | refine hs_ne (by omega) ?_ | assumption)) ⟨by decide, by decide⟩ rfl (Nat.le_of_ble_eq_true rfl) ⟨Nat.zero_le _, Nat.zero_le _⟩ dX3_passMinute_1 ?_
  rintro _ _ ⟨rfl, hS1, hF1⟩
  obtain ⟨fs1, k1⟩ := hS1.obj
  refine k_aload_n C dX3_passMinute_4 rfl ?_
  refine k_callV C (n := 0) (as := []) (ct_X3_strike l D tc base oo _ _ hS1 hif.1) ml_X3_108 im_X3_strike se_X3_strike ini_X3 co_X3_strike ⟨rfl, by decide, by decide, by decide +kernel⟩ rfl (ci := 3) rfl (by repeat (first | exact hs_eq _ _ _ | refine hs_ne (by omega) ?_ | assumption)) ⟨by decide, by decide⟩ rfl (Nat.le_of_ble_eq_true rfl) ⟨Nat.zero_le _, Nat.zero_le _⟩ dX3_passMinute_5 ?_
  rintro _ _ ⟨rfl, hS2, hF2⟩
  obtain ⟨f1, f2, f3, w1, w2, w3, w4, w5, d1, d2, se, ⟨g0, g1, g2, g3, g4, g5, g6, g7, g8, g9, g10, g11, g12, g13, g14⟩, hsr⟩ := id hS2
  refine k_aload_n C dX3_passMinute_8 rfl ?_
  refine k_dup C dX3_passMinute_9 rfl ?_
  refine k_get C (k := 4) inX3 (ci := 3) rfl (by decide) fl_X3_59 dX3_passMinute_10 (by repeat (first | exact hs_eq _ _ _ | refine hs_ne (by omega) ?_ | assumption)) rfl ?_
  refine k_iconst C dX3_passMinute_13 ?_
  refine k_iadd C dX3_passMinute_14 ?_
  refine k_put C (k := 4) inX3 tyX3_ok nmX3 (ci := 3) rfl (by decide) fl_X3_59 rfl (Nat.le_of_ble_eq_true rfl) dX3_passMinute_15 (by repeat (first | exact hs_eq _ _ _ | refine hs_ne (by omega) ?_ | assumption)) ?_
  refine k_vret C hr dX3_passMinute_18 ?_
  refine ⟨rfl, ?_, (hF1.tr hF2).tr (fun aaa haa => by repeat (first | rfl | refine hs_ne (by omega) ?_))⟩
  have hz : zMin zrr = iu (zSix (zFP zrr)) 13 (zSix (zFP zrr) 13 + 1) := rfl
  rw [hz]
  refine ⟨f1, f2, f3, w1, w2, w3, w4, w5, d1, d2, se, ⟨by (try simp (disch := omega) only [iu_ne, iu_eq, zWind_ne, zTake_ne, zChim_ne, zChim_16]); repeat (first | exact hs_eq _ _ _ | refine hs_ne (by omega) ?_ | assumption), (by repeat (first | exact hs_eq _ _ _ | refine hs_ne (by omega) ?_ | assumption)), (by repeat (first | exact hs_eq _ _ _ | refine hs_ne (by omega) ?_ | assumption)), (by repeat (first | exact hs_eq _ _ _ | refine hs_ne (by omega) ?_ | assumption)), (by repeat (first | exact hs_eq _ _ _ | refine hs_ne (by omega) ?_ | assumption)), by (try simp (disch := omega) only [iu_ne, iu_eq, zWind_ne, zTake_ne, zChim_ne, zChim_16]); repeat (first | exact hs_eq _ _ _ | refine hs_ne (by omega) ?_ | assumption), (by repeat (first | exact hs_eq _ _ _ | refine hs_ne (by omega) ?_ | assumption)), (by repeat (first | exact hs_eq _ _ _ | refine hs_ne (by omega) ?_ | assumption)), (by repeat (first | exact hs_eq _ _ _ | refine hs_ne (by omega) ?_ | assumption)), (by repeat (first | exact hs_eq _ _ _ | refine hs_ne (by omega) ?_ | assumption)), (by repeat (first | exact hs_eq _ _ _ | refine hs_ne (by omega) ?_ | assumption)), by (try simp (disch := omega) only [iu_ne, iu_eq, zWind_ne, zTake_ne, zChim_ne, zChim_16]); repeat (first | exact hs_eq _ _ _ | refine hs_ne (by omega) ?_ | assumption), (by repeat (first | exact hs_eq _ _ _ | refine hs_ne (by omega) ?_ | assumption)), (by repeat (first | exact hs_eq _ _ _ | refine hs_ne (by omega) ?_ | assumption)), (by repeat (first | exact hs_eq _ _ _ | refine hs_ne (by omega) ?_ | assumption))⟩, ?_⟩
  exact hsr.free (by omega)

set_option maxRecDepth 20000 in
set_option maxHeartbeats 1000000 in
theorem ct_X3_passMinutes (l : Launch) (D : va_G) (tc : Nat → ClassId) (base : Nat) (oo : Nat) (zrr : RZ) (hpp : AH) (hS : SAt hpp oo zrr) (hi : zInv zrr) (ha : zrr 18 + zrr 19 ≤ zrr 13) (nn : Nat) (hn : zrr 13 + nn ≤ 100000) : CT l D tc base yX3_passMinutes cX3_passMinutes 3 none 5 [aR oo, aI nn] hpp (fun r h' => r = none ∧ SAt h' oo (zGo zrr nn) ∧ Fr hpp h' oo 15) := by
  refine CT.of [some (aR oo), some (aI nn), none] (by decide +kernel) rfl (Nat.le_of_ble_eq_true rfl) ?_
  intro p e s m args below meth c C hr hnm
  have v13 := hi.1.2.2.2.2.2.2.2.1
  refine k_iconst C dX3_passMinutes_0 ?_
  refine k_istore_n C dX3_passMinutes_1 (by decide) rfl ?_
  have loop2 : ∀ (n : Nat) (kk : Nat) (hkk : AH), kk ≤ nn → SAt hkk oo (zGo zrr kk) → Fr hpp hkk oo 15 → (nn : Int) - kk < (n : Int) → Wk D tc base 3 p l e (lvR 5) s m args below meth c 0 0 (MQ below (Qx D tc base (fun r h' => r = none ∧ SAt h' oo (zGo zrr nn) ∧ Fr hpp h' oo 15)) args s 0 0 (fun q => base ≤ q)) 2 [some (aR oo), some (aI nn), some (aI kk)] [] hkk := by
    intro n
    induction n with
    | zero =>
      intro kk hkk hk hS1 hF1 hmu
      exfalso
      omega
    | succ n ih =>
      intro kk hkk hk hS1 hF1 hmu
      have hok := zOk_go ⟨hi, ha⟩ kk
      obtain ⟨fs1, k1⟩ := hS1.obj
      refine k_iload_n C dX3_passMinutes_2 rfl ?_
      refine k_iload_n C dX3_passMinutes_3 rfl ?_
      refine k_icmp_ge (tgt := 17) C dX3_passMinutes_4 (by decide) ⟨by omega, by omega⟩ ⟨by omega, by omega⟩ (fun c4 => ?_) (fun c4 => ?_)
      · try (exfalso; omega)
        all_goals (
          refine k_vret C hr dX3_passMinutes_17 ?_
          have ek : kk = nn := by omega
          subst ek
          exact ⟨rfl, hS1, hF1⟩)
      · try (exfalso; omega)
        all_goals (
          refine k_aload_n C dX3_passMinutes_7 rfl ?_
          refine k_callV C (n := 0) (as := []) (ct_X3_passMinute l D tc base oo _ _ hS1 hok.1.1 (by omega) hok.1.2) ml_X3_102 im_X3_passMinute se_X3_passMinute ini_X3 co_X3_passMinute ⟨rfl, by decide, by decide, by decide +kernel⟩ rfl (ci := 3) rfl (by repeat (first | exact hs_eq _ _ _ | refine hs_ne (by omega) ?_ | assumption)) ⟨by decide, by decide⟩ rfl (Nat.le_of_ble_eq_true rfl) ⟨Nat.zero_le _, Nat.zero_le _⟩ dX3_passMinutes_8 ?_
          rintro _ _ ⟨rfl, hS2, hF2⟩
          refine k_iinc C dX3_passMinutes_11 rfl (by decide) rfl ?_
          refine k_goto (tgt := 2) C dX3_passMinutes_14 (by decide) ?_
          have q1 := ih (kk + 1) _ (by omega) hS2 (hF1.tr hF2) (by omega)
          have e1 : ((kk + 1 : Nat) : Int) = (kk : Int) + 1 := by omega
          rw [e1] at q1
          exact k_sub q1 (And.intro rfl (And.intro rfl (And.intro rfl trivial))))
  exact loop2 (nn + 1) 0 hpp (by omega) hS (Fr.rf _ _ _) (by omega)

set_option maxRecDepth 20000 in
set_option maxHeartbeats 1000000 in
theorem ct_X3_isDueAndKeptOut (l : Launch) (D : va_G) (tc : Nat → ClassId) (base : Nat) (oo : Nat) (zrr : RZ) (hpp : AH) (hS : SAt hpp oo zrr) (hi : zInv zrr) (hm : zrr 13 ≤ 100000) (ww : Int) (hw : 0 ≤ ww) (hw2 : ww < zrr 21) : CT l D tc base yX3_isDueAndKeptOut cX3_isDueAndKeptOut 2 (some .boolean) 1 [aR oo, aI ww] hpp (fun r h' => (r = some (aI 1) ∧ hpp = h' ∧ zDue zrr ww ∧ zKept zrr ww) ∨ (r = some (aI 0) ∧ hpp = h' ∧ ¬ (zDue zrr ww ∧ zKept zrr ww))) := by
  refine CT.of [some (aR oo), some (aI ww)] (by decide +kernel) rfl (Nat.le_of_ble_eq_true rfl) ?_
  intro p e s m args below meth c C hr hnm
  obtain ⟨f1, f2, f3, w1, w2, w3, w4, w5, d1, d2, se, ⟨g0, g1, g2, g3, g4, g5, g6, g7, g8, g9, g10, g11, g12, g13, g14⟩, hsr⟩ := id hS
  obtain ⟨r1, r2, r3, r4⟩ := id hsr
  obtain ⟨⟨v0, v1, v2, v9, v10, v11, v12, v13, v21, v52, v61, v62, v63, v64, v65, v66⟩, hwi, hde⟩ := id hi
  have rc := r2 ww hw hw2
  have wc := hwi ww hw hw2
  refine k_iload_n C dX3_isDueAndKeptOut_0 rfl ?_
  refine k_if_lt (tgt := 61) C dX3_isDueAndKeptOut_1 (by decide) ⟨by omega, by omega⟩ (fun c1 => ?_) (fun c1 => ?_)
  · try (exfalso; omega)
    all_goals (
      refine k_iconst C dX3_isDueAndKeptOut_61 ?_
      refine k_zret C hr dX3_isDueAndKeptOut_62 (by omega) ?_
      first | exact Or.inl ⟨rfl, rfl, by omega, by omega, by omega, by omega⟩ | exact Or.inr ⟨rfl, rfl, by omega⟩)
  · try (exfalso; omega)
    all_goals (
      refine k_iload_n C dX3_isDueAndKeptOut_4 rfl ?_
      refine k_aload_n C dX3_isDueAndKeptOut_5 rfl ?_
      refine k_get C (k := 1) inX3 (ci := 3) rfl (by decide) fl_X3_21 dX3_isDueAndKeptOut_6 (by repeat (first | exact hs_eq _ _ _ | refine hs_ne (by omega) ?_ | assumption)) rfl ?_
      refine k_get C (k := 0) inX6 (ci := 6) rfl (by decide) fl_X3_187 dX3_isDueAndKeptOut_9 (by repeat (first | exact hs_eq _ _ _ | refine hs_ne (by omega) ?_ | assumption)) rfl ?_
      refine k_icmp_ge (tgt := 61) C dX3_isDueAndKeptOut_12 (by decide) ⟨by omega, by omega⟩ ⟨by omega, by omega⟩ (fun c12 => ?_) (fun c12 => ?_)
      · try (exfalso; omega)
        all_goals (
          refine k_iconst C dX3_isDueAndKeptOut_61 ?_
          refine k_zret C hr dX3_isDueAndKeptOut_62 (by omega) ?_
          first | exact Or.inl ⟨rfl, rfl, by omega, by omega, by omega, by omega⟩ | exact Or.inr ⟨rfl, rfl, by omega⟩)
      · try (exfalso; omega)
        all_goals (
          refine k_iload_n C dX3_isDueAndKeptOut_15 rfl ?_
          refine k_bipush C dX3_isDueAndKeptOut_16 (by decide +kernel) ?_
          refine k_icmp_ge (tgt := 61) C dX3_isDueAndKeptOut_18 (by decide) ⟨by omega, by omega⟩ ⟨by omega, by omega⟩ (fun c18 => ?_) (fun c18 => ?_)
          · try (exfalso; omega)
            all_goals (
              refine k_iconst C dX3_isDueAndKeptOut_61 ?_
              refine k_zret C hr dX3_isDueAndKeptOut_62 (by omega) ?_
              first | exact Or.inl ⟨rfl, rfl, by omega, by omega, by omega, by omega⟩ | exact Or.inr ⟨rfl, rfl, by omega⟩)
          · try (exfalso; omega)
            all_goals (
              refine k_aload_n C dX3_isDueAndKeptOut_21 rfl ?_
              refine k_get C (k := 1) inX3 (ci := 3) rfl (by decide) fl_X3_21 dX3_isDueAndKeptOut_22 (by repeat (first | exact hs_eq _ _ _ | refine hs_ne (by omega) ?_ | assumption)) rfl ?_
              refine k_get C (k := 4) inX6 (ci := 6) rfl (by decide) fl_X3_146 dX3_isDueAndKeptOut_25 (by repeat (first | exact hs_eq _ _ _ | refine hs_ne (by omega) ?_ | assumption)) rfl ?_
              refine k_iload_n C dX3_isDueAndKeptOut_28 rfl ?_
              refine k_iaload C dX3_isDueAndKeptOut_29 (by repeat (first | exact hs_eq _ _ _ | refine hs_ne (by omega) ?_ | assumption)) (by omega) (by omega) (by omega) ?_
              refine k_aload_n C dX3_isDueAndKeptOut_30 rfl ?_
              refine k_get C (k := 4) inX3 (ci := 3) rfl (by decide) fl_X3_59 dX3_isDueAndKeptOut_31 (by repeat (first | exact hs_eq _ _ _ | refine hs_ne (by omega) ?_ | assumption)) rfl ?_
              refine k_icmp_gt (tgt := 61) C dX3_isDueAndKeptOut_34 (by decide) ⟨by omega, by omega⟩ ⟨by omega, by omega⟩ (fun c34 => ?_) (fun c34 => ?_)
              · try (exfalso; omega)
                all_goals (
                  refine k_iconst C dX3_isDueAndKeptOut_61 ?_
                  refine k_zret C hr dX3_isDueAndKeptOut_62 (by omega) ?_
                  first | exact Or.inl ⟨rfl, rfl, by omega, by omega, by omega, by omega⟩ | exact Or.inr ⟨rfl, rfl, by omega⟩)
              · try (exfalso; omega)
                all_goals (
                  refine k_aload_n C dX3_isDueAndKeptOut_37 rfl ?_
                  refine k_get C (k := 1) inX3 (ci := 3) rfl (by decide) fl_X3_21 dX3_isDueAndKeptOut_38 (by repeat (first | exact hs_eq _ _ _ | refine hs_ne (by omega) ?_ | assumption)) rfl ?_
                  refine k_get C (k := 1) inX6 (ci := 6) rfl (by decide) fl_X3_134 dX3_isDueAndKeptOut_41 (by repeat (first | exact hs_eq _ _ _ | refine hs_ne (by omega) ?_ | assumption)) rfl ?_
                  refine k_iload_n C dX3_isDueAndKeptOut_44 rfl ?_
                  refine k_iaload C dX3_isDueAndKeptOut_45 (by repeat (first | exact hs_eq _ _ _ | refine hs_ne (by omega) ?_ | assumption)) (by omega) (by omega) (by omega) ?_
                  refine k_iconst C dX3_isDueAndKeptOut_46 ?_
                  refine k_icmp_ne (tgt := 61) C dX3_isDueAndKeptOut_47 (by decide) ⟨by omega, by omega⟩ ⟨by omega, by omega⟩ (fun c47 => ?_) (fun c47 => ?_)
                  · try (exfalso; omega)
                    all_goals (
                      refine k_iconst C dX3_isDueAndKeptOut_61 ?_
                      refine k_zret C hr dX3_isDueAndKeptOut_62 (by omega) ?_
                      first | exact Or.inl ⟨rfl, rfl, by omega, by omega, by omega, by omega⟩ | exact Or.inr ⟨rfl, rfl, by omega⟩)
                  · try (exfalso; omega)
                    all_goals (
                      refine k_aload_n C dX3_isDueAndKeptOut_50 rfl ?_
                      refine k_callV C (n := 0) (as := []) (ct_X3_areStrikersKeptOut l D tc base oo zrr _ hS hi) ml_X3_127 im_X3_areStrikersKeptOut se_X3_areStrikersKeptOut ini_X3 co_X3_areStrikersKeptOut ⟨rfl, by decide, by decide, by decide +kernel⟩ rfl (ci := 3) rfl (by repeat (first | exact hs_eq _ _ _ | refine hs_ne (by omega) ?_ | assumption)) ⟨by decide, by decide⟩ rfl (Nat.le_of_ble_eq_true rfl) ⟨Nat.zero_le _, Nat.zero_le _⟩ dX3_isDueAndKeptOut_51 ?_
                      rintro _ _ (⟨rfl, rfl, hq⟩ | ⟨rfl, rfl, hq⟩)
                      · skip
                        refine k_if_eq (tgt := 61) C dX3_isDueAndKeptOut_54 (by decide) ⟨by omega, by omega⟩ (fun c54 => ?_) (fun c54 => ?_)
                        · try (exfalso; omega)
                          all_goals (
                            refine k_iconst C dX3_isDueAndKeptOut_61 ?_
                            refine k_zret C hr dX3_isDueAndKeptOut_62 (by omega) ?_
                            first | exact Or.inl ⟨rfl, rfl, by omega, by omega, by omega, by omega⟩ | exact Or.inr ⟨rfl, rfl, by omega⟩)
                        · try (exfalso; omega)
                          all_goals (
                            refine k_iconst C dX3_isDueAndKeptOut_57 ?_
                            refine k_goto (tgt := 62) C dX3_isDueAndKeptOut_58 (by decide) ?_
                            refine k_zret C hr dX3_isDueAndKeptOut_62 (by omega) ?_
                            first | exact Or.inl ⟨rfl, rfl, by omega, by omega, by omega, by omega⟩ | exact Or.inr ⟨rfl, rfl, by omega⟩)
                      · skip
                        refine k_if_eq (tgt := 61) C dX3_isDueAndKeptOut_54 (by decide) ⟨by omega, by omega⟩ (fun c54 => ?_) (fun c54 => ?_)
                        · try (exfalso; omega)
                          all_goals (
                            refine k_iconst C dX3_isDueAndKeptOut_61 ?_
                            refine k_zret C hr dX3_isDueAndKeptOut_62 (by omega) ?_
                            first | exact Or.inl ⟨rfl, rfl, by omega, by omega, by omega, by omega⟩ | exact Or.inr ⟨rfl, rfl, by omega⟩)
                        · try (exfalso; omega)
                          all_goals (
                            refine k_iconst C dX3_isDueAndKeptOut_57 ?_
                            refine k_goto (tgt := 62) C dX3_isDueAndKeptOut_58 (by decide) ?_
                            refine k_zret C hr dX3_isDueAndKeptOut_62 (by omega) ?_
                            first | exact Or.inl ⟨rfl, rfl, by omega, by omega, by omega, by omega⟩ | exact Or.inr ⟨rfl, rfl, by omega⟩))))))

