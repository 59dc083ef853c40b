set_option maxRecDepth 20000 in
set_option maxHeartbeats 1000000 in
theorem ct_L_at (l : Launch) (D : va_G) (tc : Nat → ClassId) (base : Nat) (xx nn : Int) (hpp : AH) (hn : 0 < nn ∧ nn < 100000) : CT l D tc base yL_at cL_at 2 (some .int) 0 [aI xx, aI nn] hpp (fun r h' => (∃ vv : Int, r = some (aI vv) ∧ 0 ≤ vv ∧ vv < nn) ∧ hpp = h') := by
  refine CT.of [some (aI xx), some (aI nn)] (by decide +kernel) rfl (Nat.le_of_ble_eq_true rfl) ?_
  intro p e s m args below meth c C hr hnm
  refine k_iload_n C dL_at_0 rfl ?_
  refine k_iconst C dL_at_1 ?_
  refine k_iushr1 C dL_at_2 (fun v2 u2 w2 => ?_)
  refine k_iload_n C dL_at_3 rfl ?_
  refine k_irem C dL_at_4 (by omega) (by omega) (by omega) (by omega) ?_
  refine k_iret C hr dL_at_5 ?_
  exact ⟨⟨_, rfl, Int.emod_nonneg _ (by omega), Int.emod_lt_of_pos _ (by omega)⟩, rfl⟩

set_option maxRecDepth 20000 in
set_option maxHeartbeats 1000000 in
theorem ct_L_hour (l : Launch) (D : va_G) (tc : Nat → ClassId) (base : Nat) (tt : Int) (hpp : AH) (h0 : 0 ≤ tt) (h1 : tt < 720) : CT l D tc base yL_hour cL_hour 1 (some .int) 0 [aI tt] hpp (fun r h' => r = some (aI (zHour tt)) ∧ hpp = h') := by
  refine CT.of [some (aI tt)] (by decide +kernel) rfl (Nat.le_of_ble_eq_true rfl) ?_
  intro p e s m args below meth c C hr hnm
  refine k_iload_n C dL_hour_0 rfl ?_
  refine k_bipush C dL_hour_1 (by decide +kernel) ?_
  refine k_icmp_ge (tgt := 11) C dL_hour_3 (by decide) ⟨by omega, by omega⟩ ⟨by omega, by omega⟩ (fun c3 => ?_) (fun c3 => ?_)
  · try (exfalso; omega)
    all_goals (
      refine k_iload_n C dL_hour_11 rfl ?_
      refine k_bipush C dL_hour_12 (by decide +kernel) ?_
      refine k_idiv C dL_hour_14 (by omega) (by omega) (by omega) (by omega) ?_
      refine k_iret C hr dL_hour_15 ?_
      refine ⟨?_, rfl⟩
      unfold zHour
      split <;> first | rfl | (exfalso; omega))
  · try (exfalso; omega)
    all_goals (
      refine k_bipush C dL_hour_6 (by decide +kernel) ?_
      refine k_goto (tgt := 15) C dL_hour_8 (by decide) ?_
      refine k_iret C hr dL_hour_15 ?_
      refine ⟨?_, rfl⟩
      unfold zHour
      split <;> first | rfl | (exfalso; omega))

set_option maxRecDepth 20000 in
set_option maxHeartbeats 1000000 in
theorem ct_L_silent (l : Launch) (D : va_G) (tc : Nat → ClassId) (base : Nat) (an : Nat) (zrr : RZ) (nu se : Int → Int) (hpp : AH) (y0 : hpp an = some (eA 0 15 nu)) (y2 : hpp (an + 2) = some (eA 0 6 se)) (hi : zInv zrr) (n1 : nu 1 = zrr 10) (s4 : se 4 = zrr 65) (s5 : se 5 = zrr 66) : CT l D tc base yL_silent cL_silent 3 (some .boolean) 1 [aR an, aR (an + 2)] hpp (fun r h' => (r = some (aI 1) ∧ hpp = h' ∧ zSil zrr) ∨ (r = some (aI 0) ∧ hpp = h' ∧ ¬ zSil zrr)) := by
  refine CT.of [some (aR an), some (aR (an + 2)), none] (by decide +kernel) rfl (Nat.le_of_ble_eq_true rfl) ?_
  intro p e s m args below meth c C hr hnm
  obtain ⟨⟨g0, g1, g2, g9, g10, g11, g12, g13, g21, g52, g61, g62, g63, g64, g65, g66⟩, hwi, hde⟩ := id hi
  have hh := zHour_rng g10.1 g10.2
  have eh : zHour (nu 1) = zHour (zrr 10) := by rw [n1]
  refine k_iconst C dL_silent_0 ?_
  refine k_istore_n C dL_silent_1 (by decide) rfl ?_
  have loop2 : ∀ (n : Nat) (kk : Nat), (kk : Int) ≤ zrr 66 → (0 < zrr 65 → (kk : Int) ≤ (zHour (zrr 10) + 12 - zrr 65) % 12) → (13 : Int) - kk < (n : Int) → Wk D tc base 3 p l e (lvR 1) s m args below meth c 0 0 (MQ below (Qx D tc base (fun r h' => (r = some (aI 1) ∧ hpp = h' ∧ zSil zrr) ∨ (r = some (aI 0) ∧ hpp = h' ∧ ¬ zSil zrr))) args s 0 0 (fun q => base ≤ q)) 2 [some (aR an), some (aR (an + 2)), some (aI kk)] [] hpp := by
    intro n
    induction n with
    | zero =>
      intro kk hk hq hmu
      exfalso
      omega
    | succ n ih =>
      intro kk hk hq hmu
      refine k_aload_n C dL_silent_2 rfl ?_
      refine k_iconst C dL_silent_3 ?_
      refine k_iaload C dL_silent_4 (by repeat (first | exact hs_eq _ _ _ | refine hs_ne (by omega) ?_ | assumption)) (by omega) (by omega) (by omega) ?_
      refine k_if_le (tgt := 44) C dL_silent_5 (by decide) ⟨by omega, by omega⟩ (fun c5 => ?_) (fun c5 => ?_)
      · try (exfalso; omega)
        all_goals (
          refine k_iconst C dL_silent_44 ?_
          refine k_zret C hr dL_silent_45 (by omega) ?_
          first
            | exact Or.inl ⟨rfl, rfl, zSil_iff hi (k := (kk : Int)) (by omega) (by omega) (by omega) (by omega)⟩
            | exact Or.inr ⟨rfl, rfl, fun hz => by have q1 := hz.1; have q2 := hz.2; have q3 := hq q1; omega⟩)
      · try (exfalso; omega)
        all_goals (
          refine k_iload_n C dL_silent_8 rfl ?_
          refine k_aload_n C dL_silent_9 rfl ?_
          refine k_iconst C dL_silent_10 ?_
          refine k_iaload C dL_silent_11 (by repeat (first | exact hs_eq _ _ _ | refine hs_ne (by omega) ?_ | assumption)) (by omega) (by omega) (by omega) ?_
          refine k_icmp_ge (tgt := 44) C dL_silent_12 (by decide) ⟨by omega, by omega⟩ ⟨by omega, by omega⟩ (fun c12 => ?_) (fun c12 => ?_)
          · try (exfalso; omega)
            all_goals (
              refine k_iconst C dL_silent_44 ?_
              refine k_zret C hr dL_silent_45 (by omega) ?_
              first
                | exact Or.inl ⟨rfl, rfl, zSil_iff hi (k := (kk : Int)) (by omega) (by omega) (by omega) (by omega)⟩
                | exact Or.inr ⟨rfl, rfl, fun hz => by have q1 := hz.1; have q2 := hz.2; have q3 := hq q1; omega⟩)
          · try (exfalso; omega)
            all_goals (
              refine k_aload_n C dL_silent_15 rfl ?_
              refine k_iconst C dL_silent_16 ?_
              refine k_iaload C dL_silent_17 (by repeat (first | exact hs_eq _ _ _ | refine hs_ne (by omega) ?_ | assumption)) (by omega) (by omega) (by omega) ?_
              refine k_iconst C dL_silent_18 ?_
              refine k_isub C dL_silent_19 ?_
              refine k_iload_n C dL_silent_20 rfl ?_
              refine k_iadd C dL_silent_21 ?_
              refine k_bipush C dL_silent_22 (by decide +kernel) ?_
              refine k_irem C dL_silent_24 (by omega) (by omega) (by omega) (by omega) ?_
              refine k_iconst C dL_silent_25 ?_
              refine k_iadd C dL_silent_26 ?_
              refine k_aload_n C dL_silent_27 rfl ?_
              refine k_iconst C dL_silent_28 ?_
              refine k_iaload C dL_silent_29 (by repeat (first | exact hs_eq _ _ _ | refine hs_ne (by omega) ?_ | assumption)) (by omega) (by omega) (by omega) ?_
              refine k_callS C (n := 1) (as := [_]) (ct_L_hour l D tc base _ _ (by omega) (by omega)) ml_L_8 sm_L_hour ini_L co_L_hour ⟨by decide, by decide, by decide +kernel⟩ rfl ⟨by decide, by decide⟩ rfl (Nat.le_of_ble_eq_true rfl) ⟨Nat.zero_le _, Nat.zero_le _⟩ dL_silent_30 ?_
              rintro _ _ ⟨rfl, rfl⟩
              refine k_icmp_ne (tgt := 38) C dL_silent_33 (by decide) ⟨by omega, by omega⟩ ⟨by omega, by omega⟩ (fun c33 => ?_) (fun c33 => ?_)
              · try (exfalso; omega)
                all_goals (
                  refine k_iinc C dL_silent_38 rfl (by decide) rfl ?_
                  refine k_goto (tgt := 2) C dL_silent_41 (by decide) ?_
                  have e2 : ((kk + 1 : Nat) : Int) = (kk : Int) + 1 := by omega
                  have q1 := ih (kk + 1) (by omega) (fun hz => by have := hq hz; omega) (by omega)
                  rw [e2] at q1
                  exact q1)
              · try (exfalso; omega)
                all_goals (
                  refine k_iconst C dL_silent_36 ?_
                  refine k_zret C hr dL_silent_37 (by omega) ?_
                  first
                    | exact Or.inl ⟨rfl, rfl, zSil_iff hi (k := (kk : Int)) (by omega) (by omega) (by omega) (by omega)⟩
                    | exact Or.inr ⟨rfl, rfl, fun hz => by have q1 := hz.1; have q2 := hz.2; have q3 := hq q1; omega⟩)))
  exact loop2 14 0 (by omega) (fun _ => by omega) (by omega)

set_option maxRecDepth 20000 in
set_option maxHeartbeats 1000000 in
theorem ct_L_drop (l : Launch) (D : va_G) (tc : Nat → ClassId) (base : Nat) (an : Nat) (nu de : Int → Int) (hpp : AH) (y0 : hpp an = some (eA 0 15 nu)) (y4 : hpp (an + 4) = some (eA 0 10 de)) (h13 : 1 ≤ nu 13 ∧ nu 13 ≤ 4) : CT l D tc base yL_drop cL_drop 3 none 0 [aR an, aR (an + 4)] hpp (fun r h' => r = none ∧ h' = hs (hs hpp (an + 4) (eA 0 10 (dDr de (2 * (nu 13 - 1))))) an (eA 0 15 (iu nu 13 (nu 13 - 1)))) := by
  refine CT.of [some (aR an), some (aR (an + 4)), none] (by decide +kernel) rfl (Nat.le_of_ble_eq_true rfl) ?_
  intro p e s m args below meth c C hr hnm
  refine k_iconst C dL_drop_0 ?_
  refine k_istore_n C dL_drop_1 (by decide) rfl ?_
  have loop2 : ∀ (n : Nat) (kk : Int), 0 ≤ kk → kk ≤ 2 * (nu 13 - 1) → 2 * (nu 13 - 1) - kk < (n : Int) → Wk D tc base 3 p l e (lvR 0) s m args below meth c 0 0 (MQ below (Qx D tc base (fun r h' => r = none ∧ h' = hs (hs hpp (an + 4) (eA 0 10 (dDr de (2 * (nu 13 - 1))))) an (eA 0 15 (iu nu 13 (nu 13 - 1))))) args s 0 0 (fun q => base ≤ q)) 2 [some (aR an), some (aR (an + 4)), some (aI (kk + 2))] [] (hs hpp (an + 4) (eA 0 10 (dDr de kk))) := by
    intro n
    induction n with
    | zero =>
      intro kk hk0 hk hmu
      exfalso
      omega
    | succ n ih =>
      intro kk hk0 hk hmu
      refine k_iload_n C dL_drop_2 rfl ?_
      refine k_iconst C dL_drop_3 ?_
      refine k_aload_n C dL_drop_4 rfl ?_
      refine k_bipush C dL_drop_5 (by decide +kernel) ?_
      refine k_iaload C dL_drop_7 (by repeat (first | exact hs_eq _ _ _ | refine hs_ne (by omega) ?_ | assumption)) (by omega) (by omega) (by omega) ?_
      refine k_imul C dL_drop_8 ?_
      refine k_icmp_ge (tgt := 26) C dL_drop_9 (by decide) ⟨by omega, by omega⟩ ⟨by omega, by omega⟩ (fun c9 => ?_) (fun c9 => ?_)
      · try (exfalso; omega)
        all_goals (
          refine k_aload_n C dL_drop_26 rfl ?_
          refine k_bipush C dL_drop_27 (by decide +kernel) ?_
          refine k_dup2 C dL_drop_29 rfl rfl ?_
          refine k_iaload C dL_drop_30 (by repeat (first | exact hs_eq _ _ _ | refine hs_ne (by omega) ?_ | assumption)) (by omega) (by omega) (by omega) ?_
          refine k_iconst C dL_drop_31 ?_
          refine k_isub C dL_drop_32 ?_
          refine k_iastore C dL_drop_33 (by repeat (first | exact hs_eq _ _ _ | refine hs_ne (by omega) ?_ | assumption)) (by omega) (by omega) (by omega) ?_
          refine k_vret C hr dL_drop_34 ?_
          refine ⟨rfl, ?_⟩
          have ek : kk = 2 * (nu 13 - 1) := by omega
          rw [ek])
      · try (exfalso; omega)
        all_goals (
          refine k_aload_n C dL_drop_12 rfl ?_
          refine k_iload_n C dL_drop_13 rfl ?_
          refine k_iconst C dL_drop_14 ?_
          refine k_isub C dL_drop_15 ?_
          refine k_aload_n C dL_drop_16 rfl ?_
          refine k_iload_n C dL_drop_17 rfl ?_
          refine k_iaload C dL_drop_18 (by repeat (first | exact hs_eq _ _ _ | refine hs_ne (by omega) ?_ | assumption)) (by omega) (by omega) (by omega) ?_
          refine k_iastore C dL_drop_19 (by repeat (first | exact hs_eq _ _ _ | refine hs_ne (by omega) ?_ | assumption)) (by omega) (by omega) (by omega) ?_
          refine k_iinc C dL_drop_20 rfl (by decide) rfl ?_
          refine k_goto (tgt := 2) C dL_drop_23 (by decide) ?_
          have q1 := ih (kk + 1) (by omega) (by omega) (by omega)
          rw [show kk + 1 + 2 = kk + 2 + 1 by omega] at q1
          rw [hs_hs, dDr_s de hk0]
          exact q1)
  have q1 := loop2 (2 * (nu 13 - 1) + 1).toNat 0 (by omega) (by omega) (by omega)
  rw [dDr_0, hs_same y4, show (0 : Int) + 2 = 2 from rfl] at q1
  exact q1

set_option maxRecDepth 20000 in
set_option maxHeartbeats 1000000 in
theorem ct_L_up (l : Launch) (D : va_G) (tc : Nat → ClassId) (base : Nat) (an : Nat) (ww tt : Int) (hh : Int → Int) (hpp : AH) (y1 : hpp (an + 1) = some (eA 0 9 hh)) (hw : 0 ≤ ww ∧ ww ≤ 2) (ht : 0 ≤ tt ∧ tt ≤ 1000) (hb : 0 ≤ hh ww ∧ hh ww ≤ 200) : CT l D tc base yL_up cL_up 4 (some .int) 0 [aI ww, aI tt, aR (an + 1)] hpp (fun r h' => r = some (aI (zMore hh ww tt)) ∧ h' = hs hpp (an + 1) (eA 0 9 (zWind hh ww tt))) := by
  refine CT.of [some (aI ww), some (aI tt), some (aR (an + 1)), none] (by decide +kernel) rfl (Nat.le_of_ble_eq_true rfl) ?_
  intro p e s m args below meth c C hr hnm
  refine k_iconst C dL_up_0 ?_
  refine k_istore_n C dL_up_1 (by decide) rfl ?_
  have loop2 : ∀ (n : Nat) (kk : Nat), (kk : Int) ≤ tt → hh ww + kk ≤ 200 → tt - kk < (n : Int) → Wk D tc base 4 p l e (lvR 0) s m args below meth c 0 0 (MQ below (Qx D tc base (fun r h' => r = some (aI (zMore hh ww tt)) ∧ h' = hs hpp (an + 1) (eA 0 9 (zWind hh ww tt)))) args s 0 0 (fun q => base ≤ q)) 2 [some (aI ww), some (aI tt), some (aR (an + 1)), some (aI kk)] [] (hs hpp (an + 1) (eA 0 9 (iu hh ww (hh ww + kk)))) := by
    intro n
    induction n with
    | zero =>
      intro kk hk hk2 hmu
      exfalso
      omega
    | succ n ih =>
      intro kk hk hk2 hmu
      refine k_iload_n C dL_up_2 rfl ?_
      refine k_iload_n C dL_up_3 rfl ?_
      refine k_icmp_ge (tgt := 29) C dL_up_4 (by decide) ⟨by omega, by omega⟩ ⟨by omega, by omega⟩ (fun c4 => ?_) (fun c4 => ?_)
      · try (exfalso; omega)
        all_goals (
          refine k_aload_n C dL_up_29 rfl ?_
          refine k_bipush C dL_up_30 (by decide +kernel) ?_
          refine k_iload_n C dL_up_32 rfl ?_
          refine k_iadd C dL_up_33 ?_
          refine k_dup2 C dL_up_34 rfl rfl ?_
          refine k_iaload C dL_up_35 (by repeat (first | exact hs_eq _ _ _ | refine hs_ne (by omega) ?_ | assumption)) (by omega) (by omega) (by omega) ?_
          try simp (disch := omega) only [hs_hs, iu_ne, iu_eq]
          refine k_iload_n C dL_up_36 rfl ?_
          refine k_iadd C dL_up_37 ?_
          refine k_iastore C dL_up_38 (by repeat (first | exact hs_eq _ _ _ | refine hs_ne (by omega) ?_ | assumption)) (by omega) (by omega) (by omega) ?_
          refine k_iload_n C dL_up_39 rfl ?_
          refine k_iret C hr dL_up_40 ?_
          have ek : zMore hh ww tt = (kk : Int) := by
            have := mnI_le tt (200 - hh ww)
            unfold zMore
            omega
          refine ⟨by rw [ek], ?_⟩
          unfold zWind
          rw [ek]
          try simp only [hs_hs])
      · try (exfalso; omega)
        all_goals (
          refine k_aload_n C dL_up_7 rfl ?_
          refine k_iload_n C dL_up_8 rfl ?_
          refine k_iaload C dL_up_9 (by repeat (first | exact hs_eq _ _ _ | refine hs_ne (by omega) ?_ | assumption)) (by omega) (by omega) (by omega) ?_
          try simp (disch := omega) only [hs_hs, iu_ne, iu_eq]
          refine k_sipush C dL_up_10 (by decide +kernel) ?_
          refine k_icmp_ge (tgt := 29) C dL_up_13 (by decide) ⟨by omega, by omega⟩ ⟨by omega, by omega⟩ (fun c13 => ?_) (fun c13 => ?_)
          · try (exfalso; omega)
            all_goals (
              refine k_aload_n C dL_up_29 rfl ?_
              refine k_bipush C dL_up_30 (by decide +kernel) ?_
              refine k_iload_n C dL_up_32 rfl ?_
              refine k_iadd C dL_up_33 ?_
              refine k_dup2 C dL_up_34 rfl rfl ?_
              refine k_iaload C dL_up_35 (by repeat (first | exact hs_eq _ _ _ | refine hs_ne (by omega) ?_ | assumption)) (by omega) (by omega) (by omega) ?_
              try simp (disch := omega) only [hs_hs, iu_ne, iu_eq]
              refine k_iload_n C dL_up_36 rfl ?_
              refine k_iadd C dL_up_37 ?_
              refine k_iastore C dL_up_38 (by repeat (first | exact hs_eq _ _ _ | refine hs_ne (by omega) ?_ | assumption)) (by omega) (by omega) (by omega) ?_
              refine k_iload_n C dL_up_39 rfl ?_
              refine k_iret C hr dL_up_40 ?_
              have ek : zMore hh ww tt = (kk : Int) := by
                have := mnI_le tt (200 - hh ww)
                unfold zMore
                omega
              refine ⟨by rw [ek], ?_⟩
              unfold zWind
              rw [ek]
              try simp only [hs_hs])
          · try (exfalso; omega)
            all_goals (
              refine k_aload_n C dL_up_16 rfl ?_
              refine k_iload_n C dL_up_17 rfl ?_
              refine k_dup2 C dL_up_18 rfl rfl ?_
              refine k_iaload C dL_up_19 (by repeat (first | exact hs_eq _ _ _ | refine hs_ne (by omega) ?_ | assumption)) (by omega) (by omega) (by omega) ?_
              try simp (disch := omega) only [hs_hs, iu_ne, iu_eq]
              refine k_iconst C dL_up_20 ?_
              refine k_iadd C dL_up_21 ?_
              refine k_iastore C dL_up_22 (by repeat (first | exact hs_eq _ _ _ | refine hs_ne (by omega) ?_ | assumption)) (by omega) (by omega) (by omega) ?_
              refine k_iinc C dL_up_23 rfl (by decide) rfl ?_
              refine k_goto (tgt := 2) C dL_up_26 (by decide) ?_
              have e2 : ((kk + 1 : Nat) : Int) = (kk : Int) + 1 := by omega
              have q1 := ih (kk + 1) (by omega) (by omega) (by omega)
              rw [e2, ← Int.add_assoc] at q1
              simp only [hs_hs, iu_iu]
              exact q1))
  have q1 := loop2 (tt + 1).toNat 0 (by omega) (by omega) (by omega)
  rw [show hh ww + ((0 : Nat) : Int) = hh ww by omega, iu_self, hs_same y1] at q1
  exact q1

theorem zInit_row : zInit 13 = 0 ∧ zInit 21 = 0 ∧ zInit 52 = 0 := by decide
set_option maxRecDepth 20000 in
theorem LR_init : LR zInit 0 (iu (fun _ => 0) 2 10) (iu (iu (iu (fun _ => 0) 0 200) 1 200) 2 200) (iu (iu (iu (iu (iu (fun _ => 0) 0 10) 1 2) 2 8) 3 6) 5 6) (fun _ => 0) (fun _ => 0) := by
  refine ⟨⟨?_, ?_, ?_, ?_, ?_, ?_, ?_, ?_, ?_, ?_, ?_, ?_, ?_, ?_, ?_⟩, fun k h0 h1 => ?_, fun k h0 h1 => ?_, fun k h0 h1 => ?_, fun k h0 h1 => ?_⟩
  iterate 15 decide
  · rcases (show k = 0 ∨ k = 1 ∨ k = 2 ∨ k = 3 ∨ k = 4 ∨ k = 5 ∨ k = 6 ∨ k = 7 ∨ k = 8 by omega) with rfl | rfl | rfl | rfl | rfl | rfl | rfl | rfl | rfl <;> decide
  · rcases (show k = 0 ∨ k = 1 ∨ k = 2 ∨ k = 3 ∨ k = 4 ∨ k = 5 by omega) with rfl | rfl | rfl | rfl | rfl | rfl <;> decide
  · unfold zInit
    simp (disch := omega) only [iu_ne]
  · unfold zInit
    simp (disch := omega) only [iu_ne]
set_option maxRecDepth 20000 in
set_option maxHeartbeats 1000000 in
theorem ct_L_fresh (l : Launch) (D : va_G) (tc : Nat → ClassId) (base : Nat) (an : Nat) (hpp : AH) (y0 : hpp an = some (eA 0 15 (fun _ => 0))) (y1 : hpp (an + 1) = some (eA 0 9 (fun _ => 0))) (y2 : hpp (an + 2) = some (eA 0 6 (fun _ => 0))) (y3 : hpp (an + 3) = some (eA 0 30 (fun _ => 0))) (y4 : hpp (an + 4) = some (eA 0 10 (fun _ => 0))) : CT l D tc base yL_fresh cL_fresh 3 none 0 [aR an, aR (an + 1), aR (an + 2)] hpp (fun r h' => r = none ∧ LA h' an zInit 0 ∧ Fr hpp h' an 5) := by
  refine CT.of [some (aR an), some (aR (an + 1)), some (aR (an + 2))] (by decide +kernel) rfl (Nat.le_of_ble_eq_true rfl) ?_
  intro p e s m args below meth c C hr hnm
  refine k_aload_n C dL_fresh_0 rfl ?_
  refine k_iconst C dL_fresh_1 ?_
  refine k_bipush C dL_fresh_2 (by decide +kernel) ?_
  refine k_iastore C dL_fresh_4 (by repeat (first | exact hs_eq _ _ _ | refine hs_ne (by omega) ?_ | assumption)) (by omega) (by omega) (by omega) ?_
  refine k_aload_n C dL_fresh_5 rfl ?_
  refine k_iconst C dL_fresh_6 ?_
  refine k_sipush C dL_fresh_7 (by decide +kernel) ?_
  refine k_iastore C dL_fresh_10 (by repeat (first | exact hs_eq _ _ _ | refine hs_ne (by omega) ?_ | assumption)) (by omega) (by omega) (by omega) ?_
  refine k_aload_n C dL_fresh_11 rfl ?_
  refine k_iconst C dL_fresh_12 ?_
  refine k_sipush C dL_fresh_13 (by decide +kernel) ?_
  refine k_iastore C dL_fresh_16 (by repeat (first | exact hs_eq _ _ _ | refine hs_ne (by omega) ?_ | assumption)) (by omega) (by omega) (by omega) ?_
  refine k_aload_n C dL_fresh_17 rfl ?_
  refine k_iconst C dL_fresh_18 ?_
  refine k_sipush C dL_fresh_19 (by decide +kernel) ?_
  refine k_iastore C dL_fresh_22 (by repeat (first | exact hs_eq _ _ _ | refine hs_ne (by omega) ?_ | assumption)) (by omega) (by omega) (by omega) ?_
  refine k_aload_n C dL_fresh_23 rfl ?_
  refine k_iconst C dL_fresh_24 ?_
  refine k_bipush C dL_fresh_25 (by decide +kernel) ?_
  refine k_iastore C dL_fresh_27 (by repeat (first | exact hs_eq _ _ _ | refine hs_ne (by omega) ?_ | assumption)) (by omega) (by omega) (by omega) ?_
  refine k_aload_n C dL_fresh_28 rfl ?_
  refine k_iconst C dL_fresh_29 ?_
  refine k_iconst C dL_fresh_30 ?_
  refine k_iastore C dL_fresh_31 (by repeat (first | exact hs_eq _ _ _ | refine hs_ne (by omega) ?_ | assumption)) (by omega) (by omega) (by omega) ?_
  refine k_aload_n C dL_fresh_32 rfl ?_
  refine k_iconst C dL_fresh_33 ?_
  refine k_bipush C dL_fresh_34 (by decide +kernel) ?_
  refine k_iastore C dL_fresh_36 (by repeat (first | exact hs_eq _ _ _ | refine hs_ne (by omega) ?_ | assumption)) (by omega) (by omega) (by omega) ?_
  refine k_aload_n C dL_fresh_37 rfl ?_
  refine k_iconst C dL_fresh_38 ?_
  refine k_bipush C dL_fresh_39 (by decide +kernel) ?_
  refine k_iastore C dL_fresh_41 (by repeat (first | exact hs_eq _ _ _ | refine hs_ne (by omega) ?_ | assumption)) (by omega) (by omega) (by omega) ?_
  refine k_aload_n C dL_fresh_42 rfl ?_
  refine k_iconst C dL_fresh_43 ?_
  refine k_bipush C dL_fresh_44 (by decide +kernel) ?_
  refine k_iastore C dL_fresh_46 (by repeat (first | exact hs_eq _ _ _ | refine hs_ne (by omega) ?_ | assumption)) (by omega) (by omega) (by omega) ?_
  refine k_vret C hr dL_fresh_47 ?_
  exact ⟨rfl, ⟨_, _, _, _, _, ⟨(by repeat (first | exact hs_eq _ _ _ | refine hs_ne (by omega) ?_ | assumption)), (by repeat (first | exact hs_eq _ _ _ | refine hs_ne (by omega) ?_ | assumption)), (by repeat (first | exact hs_eq _ _ _ | refine hs_ne (by omega) ?_ | assumption)), (by repeat (first | exact hs_eq _ _ _ | refine hs_ne (by omega) ?_ | assumption)), (by repeat (first | exact hs_eq _ _ _ | refine hs_ne (by omega) ?_ | assumption))⟩, LR_init⟩, fun aaa haa => by repeat (first | rfl | refine hs_ne (by omega) ?_)⟩
