set_option maxRecDepth 20000 in
set_option maxHeartbeats 1000000 in
theorem ct_X5_copyFrom (l : Launch) (D : va_G) (tc : Nat → ClassId) (base : Nat) (qq : Nat) (f1 f2 f3 : Int → Int) (hpp : AH) (g0 : hpp qq = some (eO 5 [aR (qq + 1), aR (qq + 2), aR (qq + 3)])) (g1 : hpp (qq + 1) = some (eA 0 3 f1)) (g2 : hpp (qq + 2) = some (eA 0 3 f2)) (g3 : hpp (qq + 3) = some (eA 0 3 f3)) (pp : Nat) (e1 e2 e3 : Int → Int) (k0 : hpp pp = some (eO 5 [aR (pp + 1), aR (pp + 2), aR (pp + 3)])) (k1 : hpp (pp + 1) = some (eA 0 3 e1)) (k2 : hpp (pp + 2) = some (eA 0 3 e2)) (k3 : hpp (pp + 3) = some (eA 0 3 e3)) (hdj : qq + 4 ≤ pp ∨ pp + 4 ≤ qq) : CT l D tc base yX5_copyFrom cX5_copyFrom 3 none 0 [aR qq, aR pp] hpp (fun r h' => r = none ∧ ∃ F1 F2 F3 : Int → Int, ((∀ jj : Int, 0 ≤ jj → jj < 3 → F1 jj = e1 jj) ∧ (∀ jj : Int, 0 ≤ jj → jj < 3 → F2 jj = e2 jj) ∧ (∀ jj : Int, 0 ≤ jj → jj < 3 → F3 jj = e3 jj)) ∧ h' = (hs (hs (hs hpp (qq + 1) (eA 0 3 F1)) (qq + 2) (eA 0 3 F2)) (qq + 3) (eA 0 3 F3))) := by
  refine CT.of [some (aR qq), some (aR pp), none] (by decide +kernel) rfl (Nat.le_of_ble_eq_true rfl) ?_
  intro p e s m args below meth c C hr hnm
  refine k_iconst C dX5_copyFrom_0 ?_
  refine k_istore_n C dX5_copyFrom_1 (by decide) rfl ?_
  have loop2 : ∀ (n : Nat) (kk : Int) (F1 F2 F3 : Int → Int), 0 ≤ kk → kk ≤ 3 → ((∀ jj : Int, 0 ≤ jj → jj < kk → F1 jj = e1 jj) ∧ (∀ jj : Int, 0 ≤ jj → jj < kk → F2 jj = e2 jj) ∧ (∀ jj : Int, 0 ≤ jj → jj < kk → F3 jj = e3 jj)) → (3 : Int) - kk < (n : Int) → Wk D tc base 3 p l e (lvR 0) s m args below meth c 0 0 (MQ below (Qx D tc base (fun r h' => r = none ∧ ∃ F1 F2 F3 : Int → Int, ((∀ jj : Int, 0 ≤ jj → jj < 3 → F1 jj = e1 jj) ∧ (∀ jj : Int, 0 ≤ jj → jj < 3 → F2 jj = e2 jj) ∧ (∀ jj : Int, 0 ≤ jj → jj < 3 → F3 jj = e3 jj)) ∧ h' = (hs (hs (hs hpp (qq + 1) (eA 0 3 F1)) (qq + 2) (eA 0 3 F2)) (qq + 3) (eA 0 3 F3)))) args s 0 0 (fun q => base ≤ q)) 2 [some (aR qq), some (aR pp), some (aI kk)] [] (hs (hs (hs hpp (qq + 1) (eA 0 3 F1)) (qq + 2) (eA 0 3 F2)) (qq + 3) (eA 0 3 F3)) := by
    intro n
    induction n with
    | zero =>
      intro kk F1 F2 F3 hk0 hk1 hk2 hmu
      exfalso
      omega
    | succ n ih =>
      intro kk F1 F2 F3 hk0 hk1 hk2 hmu
      refine k_iload_n C dX5_copyFrom_2 rfl ?_
      refine k_iconst C dX5_copyFrom_3 ?_
      refine k_icmp_ge (tgt := 49) C dX5_copyFrom_4 (by decide) ⟨by omega, by omega⟩ ⟨by omega, by omega⟩ (fun c4 => ?_) (fun c4 => ?_)
      · try (exfalso; omega)
        all_goals (
          refine k_vret C hr dX5_copyFrom_49 ?_
          have ek : kk = 3 := by omega
          subst ek
          exact ⟨rfl, F1, F2, F3, hk2, rfl⟩)
      · try (exfalso; omega)
        all_goals (
          refine k_aload_n C dX5_copyFrom_7 rfl ?_
          refine k_get C (k := 0) inX5 (ci := 5) rfl (by decide) fl_X5_9 dX5_copyFrom_8 (by repeat (first | exact hs_eq _ _ _ | refine hs_ne (by omega) ?_ | assumption)) rfl ?_
          refine k_iload_n C dX5_copyFrom_11 rfl ?_
          refine k_aload_n C dX5_copyFrom_12 rfl ?_
          refine k_get C (k := 0) inX5 (ci := 5) rfl (by decide) fl_X5_9 dX5_copyFrom_13 (by repeat (first | exact hs_eq _ _ _ | refine hs_ne (by omega) ?_ | assumption)) rfl ?_
          refine k_iload_n C dX5_copyFrom_16 rfl ?_
          refine k_iaload C dX5_copyFrom_17 (by repeat (first | exact hs_eq _ _ _ | refine hs_ne (by omega) ?_ | assumption)) (by omega) (by omega) (by omega) ?_
          refine k_iastore C dX5_copyFrom_18 (by repeat (first | exact hs_eq _ _ _ | refine hs_ne (by omega) ?_ | assumption)) (by omega) (by omega) (by omega) ?_
          refine k_aload_n C dX5_copyFrom_19 rfl ?_
          refine k_get C (k := 1) inX5 (ci := 5) rfl (by decide) fl_X5_15 dX5_copyFrom_20 (by repeat (first | exact hs_eq _ _ _ | refine hs_ne (by omega) ?_ | assumption)) rfl ?_
          refine k_iload_n C dX5_copyFrom_23 rfl ?_
          refine k_aload_n C dX5_copyFrom_24 rfl ?_
          refine k_get C (k := 1) inX5 (ci := 5) rfl (by decide) fl_X5_15 dX5_copyFrom_25 (by repeat (first | exact hs_eq _ _ _ | refine hs_ne (by omega) ?_ | assumption)) rfl ?_
          refine k_iload_n C dX5_copyFrom_28 rfl ?_
          refine k_iaload C dX5_copyFrom_29 (by repeat (first | exact hs_eq _ _ _ | refine hs_ne (by omega) ?_ | assumption)) (by omega) (by omega) (by omega) ?_
          refine k_iastore C dX5_copyFrom_30 (by repeat (first | exact hs_eq _ _ _ | refine hs_ne (by omega) ?_ | assumption)) (by omega) (by omega) (by omega) ?_
          refine k_aload_n C dX5_copyFrom_31 rfl ?_
          refine k_get C (k := 2) inX5 (ci := 5) rfl (by decide) fl_X5_18 dX5_copyFrom_32 (by repeat (first | exact hs_eq _ _ _ | refine hs_ne (by omega) ?_ | assumption)) rfl ?_
          refine k_iload_n C dX5_copyFrom_35 rfl ?_
          refine k_aload_n C dX5_copyFrom_36 rfl ?_
          refine k_get C (k := 2) inX5 (ci := 5) rfl (by decide) fl_X5_18 dX5_copyFrom_37 (by repeat (first | exact hs_eq _ _ _ | refine hs_ne (by omega) ?_ | assumption)) rfl ?_
          refine k_iload_n C dX5_copyFrom_40 rfl ?_
          refine k_iaload C dX5_copyFrom_41 (by repeat (first | exact hs_eq _ _ _ | refine hs_ne (by omega) ?_ | assumption)) (by omega) (by omega) (by omega) ?_
          refine k_iastore C dX5_copyFrom_42 (by repeat (first | exact hs_eq _ _ _ | refine hs_ne (by omega) ?_ | assumption)) (by omega) (by omega) (by omega) ?_
          refine k_iinc C dX5_copyFrom_43 rfl (by decide) rfl ?_
          refine k_goto (tgt := 2) C dX5_copyFrom_46 (by decide) ?_
          have q1 := ih (kk + 1) (iu F1 kk (e1 kk)) (iu F2 kk (e2 kk)) (iu F3 kk (e3 kk)) (by omega) (by omega) ⟨cpy_s hk2.1, cpy_s hk2.2.1, cpy_s hk2.2.2⟩ (by omega)
          rw [hs3]
          exact q1)
  have q1 := loop2 4 0 f1 f2 f3 (by omega) (by omega) ⟨cpy_0, cpy_0, cpy_0⟩ (by omega)
  rw [hs_same g1, hs_same g2, hs_same g3] at q1
  exact q1

set_option maxRecDepth 20000 in
set_option maxHeartbeats 1000000 in
theorem ct_X6_copyWinder (l : Launch) (D : va_G) (tc : Nat → ClassId) (base : Nat) (hpp : AH) (qq : Nat) (f1 f2 f3 f4 f5 : Int → Int) (sz : Int) (g0 : hpp qq = some (eO 6 [aI sz, aR (qq + 1), aR (qq + 2), aR (qq + 3), aR (qq + 4), aR (qq + 5)])) (g1 : hpp (qq + 1) = some (eA 0 6 f1)) (g2 : hpp (qq + 2) = some (eA 0 6 f2)) (g3 : hpp (qq + 3) = some (eA 0 6 f3)) (g4 : hpp (qq + 4) = some (eA 0 6 f4)) (g5 : hpp (qq + 5) = some (eA 0 6 f5)) (pp : Nat) (e1 e2 e3 e4 e5 : Int → Int) (sy : Int) (k0 : hpp pp = some (eO 6 [aI sy, aR (pp + 1), aR (pp + 2), aR (pp + 3), aR (pp + 4), aR (pp + 5)])) (k1 : hpp (pp + 1) = some (eA 0 6 e1)) (k2 : hpp (pp + 2) = some (eA 0 6 e2)) (k3 : hpp (pp + 3) = some (eA 0 6 e3)) (k4 : hpp (pp + 4) = some (eA 0 6 e4)) (k5 : hpp (pp + 5) = some (eA 0 6 e5)) (hdj : qq + 6 ≤ pp ∨ pp + 6 ≤ qq) (fr to : Int) (h1 : 0 ≤ fr) (h2 : fr < 6) (h3 : 0 ≤ to) (h4 : to < 6) : CT l D tc base yX6_copyWinder cX6_copyWinder 4 none 0 [aR qq, aR pp, aI fr, aI to] hpp (fun r h' => r = none ∧ h' = (hs (hs (hs (hs (hs hpp (qq + 1) (eA 0 6 (iu f1 to (e1 fr)))) (qq + 2) (eA 0 6 (iu f2 to (e2 fr)))) (qq + 3) (eA 0 6 (iu f3 to (e3 fr)))) (qq + 4) (eA 0 6 (iu f4 to (e4 fr)))) (qq + 5) (eA 0 6 (iu f5 to (e5 fr))))) := by
  refine CT.of [some (aR qq), some (aR pp), some (aI fr), some (aI to)] (by decide +kernel) rfl (Nat.le_of_ble_eq_true rfl) ?_
  intro p e s m args below meth c C hr hnm
  refine k_iload_n C dX6_copyWinder_0 rfl ?_
  refine k_if_lt (tgt := 20) C dX6_copyWinder_1 (by decide) ⟨by omega, by omega⟩ (fun c1 => ?_) (fun c1 => ?_)
  · try (exfalso; omega)
    all_goals (
      refine k_vret C hr dX6_copyWinder_20 ?_
      exact ⟨rfl, rfl⟩)
  · try (exfalso; omega)
    all_goals (
      refine k_iload_n C dX6_copyWinder_4 rfl ?_
      refine k_bipush C dX6_copyWinder_5 (by decide +kernel) ?_
      refine k_icmp_ge (tgt := 20) C dX6_copyWinder_7 (by decide) ⟨by omega, by omega⟩ ⟨by omega, by omega⟩ (fun c7 => ?_) (fun c7 => ?_)
      · try (exfalso; omega)
        all_goals (
          refine k_vret C hr dX6_copyWinder_20 ?_
          exact ⟨rfl, rfl⟩)
      · try (exfalso; omega)
        all_goals (
          refine k_iload_n C dX6_copyWinder_10 rfl ?_
          refine k_if_lt (tgt := 20) C dX6_copyWinder_11 (by decide) ⟨by omega, by omega⟩ (fun c11 => ?_) (fun c11 => ?_)
          · try (exfalso; omega)
            all_goals (
              refine k_vret C hr dX6_copyWinder_20 ?_
              exact ⟨rfl, rfl⟩)
          · try (exfalso; omega)
            all_goals (
              refine k_iload_n C dX6_copyWinder_14 rfl ?_
              refine k_bipush C dX6_copyWinder_15 (by decide +kernel) ?_
              refine k_icmp_lt (tgt := 21) C dX6_copyWinder_17 (by decide) ⟨by omega, by omega⟩ ⟨by omega, by omega⟩ (fun c17 => ?_) (fun c17 => ?_)
              · try (exfalso; omega)
                all_goals (
                  refine k_aload_n C dX6_copyWinder_21 rfl ?_
                  refine k_get C (k := 1) inX6 (ci := 6) rfl (by decide) fl_X6_9 dX6_copyWinder_22 (by repeat (first | exact hs_eq _ _ _ | refine hs_ne (by omega) ?_ | assumption)) rfl ?_
                  refine k_iload_n C dX6_copyWinder_25 rfl ?_
                  refine k_aload_n C dX6_copyWinder_26 rfl ?_
                  refine k_get C (k := 1) inX6 (ci := 6) rfl (by decide) fl_X6_9 dX6_copyWinder_27 (by repeat (first | exact hs_eq _ _ _ | refine hs_ne (by omega) ?_ | assumption)) rfl ?_
                  refine k_iload_n C dX6_copyWinder_30 rfl ?_
                  refine k_iaload C dX6_copyWinder_31 (by repeat (first | exact hs_eq _ _ _ | refine hs_ne (by omega) ?_ | assumption)) (by omega) (by omega) (by omega) ?_
                  refine k_iastore C dX6_copyWinder_32 (by repeat (first | exact hs_eq _ _ _ | refine hs_ne (by omega) ?_ | assumption)) (by omega) (by omega) (by omega) ?_
                  refine k_aload_n C dX6_copyWinder_33 rfl ?_
                  refine k_get C (k := 2) inX6 (ci := 6) rfl (by decide) fl_X6_15 dX6_copyWinder_34 (by repeat (first | exact hs_eq _ _ _ | refine hs_ne (by omega) ?_ | assumption)) rfl ?_
                  refine k_iload_n C dX6_copyWinder_37 rfl ?_
                  refine k_aload_n C dX6_copyWinder_38 rfl ?_
                  refine k_get C (k := 2) inX6 (ci := 6) rfl (by decide) fl_X6_15 dX6_copyWinder_39 (by repeat (first | exact hs_eq _ _ _ | refine hs_ne (by omega) ?_ | assumption)) rfl ?_
                  refine k_iload_n C dX6_copyWinder_42 rfl ?_
                  refine k_iaload C dX6_copyWinder_43 (by repeat (first | exact hs_eq _ _ _ | refine hs_ne (by omega) ?_ | assumption)) (by omega) (by omega) (by omega) ?_
                  refine k_iastore C dX6_copyWinder_44 (by repeat (first | exact hs_eq _ _ _ | refine hs_ne (by omega) ?_ | assumption)) (by omega) (by omega) (by omega) ?_
                  refine k_aload_n C dX6_copyWinder_45 rfl ?_
                  refine k_get C (k := 3) inX6 (ci := 6) rfl (by decide) fl_X6_18 dX6_copyWinder_46 (by repeat (first | exact hs_eq _ _ _ | refine hs_ne (by omega) ?_ | assumption)) rfl ?_
                  refine k_iload_n C dX6_copyWinder_49 rfl ?_
                  refine k_aload_n C dX6_copyWinder_50 rfl ?_
                  refine k_get C (k := 3) inX6 (ci := 6) rfl (by decide) fl_X6_18 dX6_copyWinder_51 (by repeat (first | exact hs_eq _ _ _ | refine hs_ne (by omega) ?_ | assumption)) rfl ?_
                  refine k_iload_n C dX6_copyWinder_54 rfl ?_
                  refine k_iaload C dX6_copyWinder_55 (by repeat (first | exact hs_eq _ _ _ | refine hs_ne (by omega) ?_ | assumption)) (by omega) (by omega) (by omega) ?_
                  refine k_iastore C dX6_copyWinder_56 (by repeat (first | exact hs_eq _ _ _ | refine hs_ne (by omega) ?_ | assumption)) (by omega) (by omega) (by omega) ?_
                  refine k_aload_n C dX6_copyWinder_57 rfl ?_
                  refine k_get C (k := 4) inX6 (ci := 6) rfl (by decide) fl_X6_21 dX6_copyWinder_58 (by repeat (first | exact hs_eq _ _ _ | refine hs_ne (by omega) ?_ | assumption)) rfl ?_
                  refine k_iload_n C dX6_copyWinder_61 rfl ?_
                  refine k_aload_n C dX6_copyWinder_62 rfl ?_
                  refine k_get C (k := 4) inX6 (ci := 6) rfl (by decide) fl_X6_21 dX6_copyWinder_63 (by repeat (first | exact hs_eq _ _ _ | refine hs_ne (by omega) ?_ | assumption)) rfl ?_
                  refine k_iload_n C dX6_copyWinder_66 rfl ?_
                  refine k_iaload C dX6_copyWinder_67 (by repeat (first | exact hs_eq _ _ _ | refine hs_ne (by omega) ?_ | assumption)) (by omega) (by omega) (by omega) ?_
                  refine k_iastore C dX6_copyWinder_68 (by repeat (first | exact hs_eq _ _ _ | refine hs_ne (by omega) ?_ | assumption)) (by omega) (by omega) (by omega) ?_
                  refine k_aload_n C dX6_copyWinder_69 rfl ?_
                  refine k_get C (k := 5) inX6 (ci := 6) rfl (by decide) fl_X6_24 dX6_copyWinder_70 (by repeat (first | exact hs_eq _ _ _ | refine hs_ne (by omega) ?_ | assumption)) rfl ?_
                  refine k_iload_n C dX6_copyWinder_73 rfl ?_
                  refine k_aload_n C dX6_copyWinder_74 rfl ?_
                  refine k_get C (k := 5) inX6 (ci := 6) rfl (by decide) fl_X6_24 dX6_copyWinder_75 (by repeat (first | exact hs_eq _ _ _ | refine hs_ne (by omega) ?_ | assumption)) rfl ?_
                  refine k_iload_n C dX6_copyWinder_78 rfl ?_
                  refine k_iaload C dX6_copyWinder_79 (by repeat (first | exact hs_eq _ _ _ | refine hs_ne (by omega) ?_ | assumption)) (by omega) (by omega) (by omega) ?_
                  refine k_iastore C dX6_copyWinder_80 (by repeat (first | exact hs_eq _ _ _ | refine hs_ne (by omega) ?_ | assumption)) (by omega) (by omega) (by omega) ?_
                  refine k_vret C hr dX6_copyWinder_81 ?_
                  exact ⟨rfl, rfl⟩)
              · try (exfalso; omega)
                all_goals (
                  refine k_vret C hr dX6_copyWinder_20 ?_
                  exact ⟨rfl, rfl⟩))))

set_option maxRecDepth 20000 in
set_option maxHeartbeats 1000000 in
theorem ct_X6_copyWinderS (l : Launch) (D : va_G) (tc : Nat → ClassId) (base : Nat) (hpp : AH) (qq : Nat) (f1 f2 f3 f4 f5 : Int → Int) (sz : Int) (g0 : hpp qq = some (eO 6 [aI sz, aR (qq + 1), aR (qq + 2), aR (qq + 3), aR (qq + 4), aR (qq + 5)])) (g1 : hpp (qq + 1) = some (eA 0 6 f1)) (g2 : hpp (qq + 2) = some (eA 0 6 f2)) (g3 : hpp (qq + 3) = some (eA 0 6 f3)) (g4 : hpp (qq + 4) = some (eA 0 6 f4)) (g5 : hpp (qq + 5) = some (eA 0 6 f5)) (fr to : Int) (h1 : 0 ≤ fr) (h2 : fr < 6) (h3 : 0 ≤ to) (h4 : to < 6) : CT l D tc base yX6_copyWinder cX6_copyWinder 4 none 0 [aR qq, aR qq, aI fr, aI to] hpp (fun r h' => r = none ∧ h' = (hs (hs (hs (hs (hs hpp (qq + 1) (eA 0 6 (iu f1 to (f1 fr)))) (qq + 2) (eA 0 6 (iu f2 to (f2 fr)))) (qq + 3) (eA 0 6 (iu f3 to (f3 fr)))) (qq + 4) (eA 0 6 (iu f4 to (f4 fr)))) (qq + 5) (eA 0 6 (iu f5 to (f5 fr))))) := by
  refine CT.of [some (aR qq), some (aR qq), some (aI fr), some (aI to)] (by decide +kernel) rfl (Nat.le_of_ble_eq_true rfl) ?_
  intro p e s m args below meth c C hr hnm
  refine k_iload_n C dX6_copyWinder_0 rfl ?_
  refine k_if_lt (tgt := 20) C dX6_copyWinder_1 (by decide) ⟨by omega, by omega⟩ (fun c1 => ?_) (fun c1 => ?_)
  · try (exfalso; omega)
    all_goals (
      refine k_vret C hr dX6_copyWinder_20 ?_
      exact ⟨rfl, rfl⟩)
  · try (exfalso; omega)
    all_goals (
      refine k_iload_n C dX6_copyWinder_4 rfl ?_
      refine k_bipush C dX6_copyWinder_5 (by decide +kernel) ?_
      refine k_icmp_ge (tgt := 20) C dX6_copyWinder_7 (by decide) ⟨by omega, by omega⟩ ⟨by omega, by omega⟩ (fun c7 => ?_) (fun c7 => ?_)
      · try (exfalso; omega)
        all_goals (
          refine k_vret C hr dX6_copyWinder_20 ?_
          exact ⟨rfl, rfl⟩)
      · try (exfalso; omega)
        all_goals (
          refine k_iload_n C dX6_copyWinder_10 rfl ?_
          refine k_if_lt (tgt := 20) C dX6_copyWinder_11 (by decide) ⟨by omega, by omega⟩ (fun c11 => ?_) (fun c11 => ?_)
          · try (exfalso; omega)
            all_goals (
              refine k_vret C hr dX6_copyWinder_20 ?_
              exact ⟨rfl, rfl⟩)
          · try (exfalso; omega)
            all_goals (
              refine k_iload_n C dX6_copyWinder_14 rfl ?_
              refine k_bipush C dX6_copyWinder_15 (by decide +kernel) ?_
              refine k_icmp_lt (tgt := 21) C dX6_copyWinder_17 (by decide) ⟨by omega, by omega⟩ ⟨by omega, by omega⟩ (fun c17 => ?_) (fun c17 => ?_)
              · try (exfalso; omega)
                all_goals (
                  refine k_aload_n C dX6_copyWinder_21 rfl ?_
                  refine k_get C (k := 1) inX6 (ci := 6) rfl (by decide) fl_X6_9 dX6_copyWinder_22 (by repeat (first | exact hs_eq _ _ _ | refine hs_ne (by omega) ?_ | assumption)) rfl ?_
                  refine k_iload_n C dX6_copyWinder_25 rfl ?_
                  refine k_aload_n C dX6_copyWinder_26 rfl ?_
                  refine k_get C (k := 1) inX6 (ci := 6) rfl (by decide) fl_X6_9 dX6_copyWinder_27 (by repeat (first | exact hs_eq _ _ _ | refine hs_ne (by omega) ?_ | assumption)) rfl ?_
                  refine k_iload_n C dX6_copyWinder_30 rfl ?_
                  refine k_iaload C dX6_copyWinder_31 (by repeat (first | exact hs_eq _ _ _ | refine hs_ne (by omega) ?_ | assumption)) (by omega) (by omega) (by omega) ?_
                  refine k_iastore C dX6_copyWinder_32 (by repeat (first | exact hs_eq _ _ _ | refine hs_ne (by omega) ?_ | assumption)) (by omega) (by omega) (by omega) ?_
                  refine k_aload_n C dX6_copyWinder_33 rfl ?_
                  refine k_get C (k := 2) inX6 (ci := 6) rfl (by decide) fl_X6_15 dX6_copyWinder_34 (by repeat (first | exact hs_eq _ _ _ | refine hs_ne (by omega) ?_ | assumption)) rfl ?_
                  refine k_iload_n C dX6_copyWinder_37 rfl ?_
                  refine k_aload_n C dX6_copyWinder_38 rfl ?_
                  refine k_get C (k := 2) inX6 (ci := 6) rfl (by decide) fl_X6_15 dX6_copyWinder_39 (by repeat (first | exact hs_eq _ _ _ | refine hs_ne (by omega) ?_ | assumption)) rfl ?_
                  refine k_iload_n C dX6_copyWinder_42 rfl ?_
                  refine k_iaload C dX6_copyWinder_43 (by repeat (first | exact hs_eq _ _ _ | refine hs_ne (by omega) ?_ | assumption)) (by omega) (by omega) (by omega) ?_
                  refine k_iastore C dX6_copyWinder_44 (by repeat (first | exact hs_eq _ _ _ | refine hs_ne (by omega) ?_ | assumption)) (by omega) (by omega) (by omega) ?_
                  refine k_aload_n C dX6_copyWinder_45 rfl ?_
                  refine k_get C (k := 3) inX6 (ci := 6) rfl (by decide) fl_X6_18 dX6_copyWinder_46 (by repeat (first | exact hs_eq _ _ _ | refine hs_ne (by omega) ?_ | assumption)) rfl ?_
                  refine k_iload_n C dX6_copyWinder_49 rfl ?_
                  refine k_aload_n C dX6_copyWinder_50 rfl ?_
                  refine k_get C (k := 3) inX6 (ci := 6) rfl (by decide) fl_X6_18 dX6_copyWinder_51 (by repeat (first | exact hs_eq _ _ _ | refine hs_ne (by omega) ?_ | assumption)) rfl ?_
                  refine k_iload_n C dX6_copyWinder_54 rfl ?_
                  refine k_iaload C dX6_copyWinder_55 (by repeat (first | exact hs_eq _ _ _ | refine hs_ne (by omega) ?_ | assumption)) (by omega) (by omega) (by omega) ?_
                  refine k_iastore C dX6_copyWinder_56 (by repeat (first | exact hs_eq _ _ _ | refine hs_ne (by omega) ?_ | assumption)) (by omega) (by omega) (by omega) ?_
                  refine k_aload_n C dX6_copyWinder_57 rfl ?_
                  refine k_get C (k := 4) inX6 (ci := 6) rfl (by decide) fl_X6_21 dX6_copyWinder_58 (by repeat (first | exact hs_eq _ _ _ | refine hs_ne (by omega) ?_ | assumption)) rfl ?_
                  refine k_iload_n C dX6_copyWinder_61 rfl ?_
                  refine k_aload_n C dX6_copyWinder_62 rfl ?_
                  refine k_get C (k := 4) inX6 (ci := 6) rfl (by decide) fl_X6_21 dX6_copyWinder_63 (by repeat (first | exact hs_eq _ _ _ | refine hs_ne (by omega) ?_ | assumption)) rfl ?_
                  refine k_iload_n C dX6_copyWinder_66 rfl ?_
                  refine k_iaload C dX6_copyWinder_67 (by repeat (first | exact hs_eq _ _ _ | refine hs_ne (by omega) ?_ | assumption)) (by omega) (by omega) (by omega) ?_
                  refine k_iastore C dX6_copyWinder_68 (by repeat (first | exact hs_eq _ _ _ | refine hs_ne (by omega) ?_ | assumption)) (by omega) (by omega) (by omega) ?_
                  refine k_aload_n C dX6_copyWinder_69 rfl ?_
                  refine k_get C (k := 5) inX6 (ci := 6) rfl (by decide) fl_X6_24 dX6_copyWinder_70 (by repeat (first | exact hs_eq _ _ _ | refine hs_ne (by omega) ?_ | assumption)) rfl ?_
                  refine k_iload_n C dX6_copyWinder_73 rfl ?_
                  refine k_aload_n C dX6_copyWinder_74 rfl ?_
                  refine k_get C (k := 5) inX6 (ci := 6) rfl (by decide) fl_X6_24 dX6_copyWinder_75 (by repeat (first | exact hs_eq _ _ _ | refine hs_ne (by omega) ?_ | assumption)) rfl ?_
                  refine k_iload_n C dX6_copyWinder_78 rfl ?_
                  refine k_iaload C dX6_copyWinder_79 (by repeat (first | exact hs_eq _ _ _ | refine hs_ne (by omega) ?_ | assumption)) (by omega) (by omega) (by omega) ?_
                  refine k_iastore C dX6_copyWinder_80 (by repeat (first | exact hs_eq _ _ _ | refine hs_ne (by omega) ?_ | assumption)) (by omega) (by omega) (by omega) ?_
                  refine k_vret C hr dX6_copyWinder_81 ?_
                  exact ⟨rfl, rfl⟩)
              · try (exfalso; omega)
                all_goals (
                  refine k_vret C hr dX6_copyWinder_20 ?_
                  exact ⟨rfl, rfl⟩))))

set_option maxRecDepth 20000 in
set_option maxHeartbeats 1000000 in
theorem ct_X6_copyFrom (l : Launch) (D : va_G) (tc : Nat → ClassId) (base : Nat) (hpp : AH) (qq : Nat) (f1 f2 f3 f4 f5 : Int → Int) (sz : Int) (g0 : hpp qq = some (eO 6 [aI sz, aR (qq + 1), aR (qq + 2), aR (qq + 3), aR (qq + 4), aR (qq + 5)])) (g1 : hpp (qq + 1) = some (eA 0 6 f1)) (g2 : hpp (qq + 2) = some (eA 0 6 f2)) (g3 : hpp (qq + 3) = some (eA 0 6 f3)) (g4 : hpp (qq + 4) = some (eA 0 6 f4)) (g5 : hpp (qq + 5) = some (eA 0 6 f5)) (pp : Nat) (e1 e2 e3 e4 e5 : Int → Int) (sy : Int) (k0 : hpp pp = some (eO 6 [aI sy, aR (pp + 1), aR (pp + 2), aR (pp + 3), aR (pp + 4), aR (pp + 5)])) (k1 : hpp (pp + 1) = some (eA 0 6 e1)) (k2 : hpp (pp + 2) = some (eA 0 6 e2)) (k3 : hpp (pp + 3) = some (eA 0 6 e3)) (k4 : hpp (pp + 4) = some (eA 0 6 e4)) (k5 : hpp (pp + 5) = some (eA 0 6 e5)) (hdj : qq + 6 ≤ pp ∨ pp + 6 ≤ qq) (h1 : 0 ≤ sy) (h2 : sy ≤ 6) : CT l D tc base yX6_copyFrom cX6_copyFrom 3 none 1 [aR qq, aR pp] hpp (fun r h' => r = none ∧ ∃ F1 F2 F3 F4 F5 : Int → Int, ((∀ jj : Int, 0 ≤ jj → jj < sy → F1 jj = e1 jj) ∧ (∀ jj : Int, 0 ≤ jj → jj < sy → F2 jj = e2 jj) ∧ (∀ jj : Int, 0 ≤ jj → jj < sy → F3 jj = e3 jj) ∧ (∀ jj : Int, 0 ≤ jj → jj < sy → F4 jj = e4 jj) ∧ (∀ jj : Int, 0 ≤ jj → jj < sy → F5 jj = e5 jj)) ∧ h' = (hs (hs (hs (hs (hs (hs hpp qq (eO 6 [aI sy, aR (qq + 1), aR (qq + 2), aR (qq + 3), aR (qq + 4), aR (qq + 5)])) (qq + 1) (eA 0 6 F1)) (qq + 2) (eA 0 6 F2)) (qq + 3) (eA 0 6 F3)) (qq + 4) (eA 0 6 F4)) (qq + 5) (eA 0 6 F5))) := by
  refine CT.of [some (aR qq), some (aR pp), none] (by decide +kernel) rfl (Nat.le_of_ble_eq_true rfl) ?_
  intro p e s m args below meth c C hr hnm
  refine k_aload_n C dX6_copyFrom_0 rfl ?_
  refine k_aload_n C dX6_copyFrom_1 rfl ?_
  refine k_get C (k := 0) inX6 (ci := 6) rfl (by decide) fl_X6_27 dX6_copyFrom_2 (by repeat (first | exact hs_eq _ _ _ | refine hs_ne (by omega) ?_ | assumption)) rfl ?_
  refine k_put C (k := 0) inX6 tyX6_ok nmX6 (ci := 6) rfl (by decide) fl_X6_27 rfl (Nat.le_of_ble_eq_true rfl) dX6_copyFrom_5 (by repeat (first | exact hs_eq _ _ _ | refine hs_ne (by omega) ?_ | assumption)) ?_
  refine k_iconst C dX6_copyFrom_8 ?_
  refine k_istore_n C dX6_copyFrom_9 (by decide) rfl ?_
  have loop10 : ∀ (n : Nat) (kk : Int) (F1 F2 F3 F4 F5 : Int → Int), 0 ≤ kk → kk ≤ sy → ((∀ jj : Int, 0 ≤ jj → jj < kk → F1 jj = e1 jj) ∧ (∀ jj : Int, 0 ≤ jj → jj < kk → F2 jj = e2 jj) ∧ (∀ jj : Int, 0 ≤ jj → jj < kk → F3 jj = e3 jj) ∧ (∀ jj : Int, 0 ≤ jj → jj < kk → F4 jj = e4 jj) ∧ (∀ jj : Int, 0 ≤ jj → jj < kk → F5 jj = e5 jj)) → sy - kk < (n : Int) → Wk D tc base 3 p l e (lvR 1) s m args below meth c 0 0 (MQ below (Qx D tc base (fun r h' => r = none ∧ ∃ F1 F2 F3 F4 F5 : Int → Int, ((∀ jj : Int, 0 ≤ jj → jj < sy → F1 jj = e1 jj) ∧ (∀ jj : Int, 0 ≤ jj → jj < sy → F2 jj = e2 jj) ∧ (∀ jj : Int, 0 ≤ jj → jj < sy → F3 jj = e3 jj) ∧ (∀ jj : Int, 0 ≤ jj → jj < sy → F4 jj = e4 jj) ∧ (∀ jj : Int, 0 ≤ jj → jj < sy → F5 jj = e5 jj)) ∧ h' = (hs (hs (hs (hs (hs (hs hpp qq (eO 6 [aI sy, aR (qq + 1), aR (qq + 2), aR (qq + 3), aR (qq + 4), aR (qq + 5)])) (qq + 1) (eA 0 6 F1)) (qq + 2) (eA 0 6 F2)) (qq + 3) (eA 0 6 F3)) (qq + 4) (eA 0 6 F4)) (qq + 5) (eA 0 6 F5)))) args s 0 0 (fun q => base ≤ q)) 10 [some (aR qq), some (aR pp), some (aI kk)] [] (hs (hs (hs (hs (hs (hs hpp qq (eO 6 [aI sy, aR (qq + 1), aR (qq + 2), aR (qq + 3), aR (qq + 4), aR (qq + 5)])) (qq + 1) (eA 0 6 F1)) (qq + 2) (eA 0 6 F2)) (qq + 3) (eA 0 6 F3)) (qq + 4) (eA 0 6 F4)) (qq + 5) (eA 0 6 F5)) := by
    intro n
    induction n with
    | zero =>
      intro kk F1 F2 F3 F4 F5 hk0 hk1 hk2 hmu
      exfalso
      omega
    | succ n ih =>
      intro kk F1 F2 F3 F4 F5 hk0 hk1 hk2 hmu
      refine k_iload_n C dX6_copyFrom_10 rfl ?_
      refine k_aload_n C dX6_copyFrom_11 rfl ?_
      refine k_get C (k := 0) inX6 (ci := 6) rfl (by decide) fl_X6_27 dX6_copyFrom_12 (by repeat (first | exact hs_eq _ _ _ | refine hs_ne (by omega) ?_ | assumption)) rfl ?_
      refine k_icmp_ge (tgt := 37) C dX6_copyFrom_15 (by decide) ⟨by omega, by omega⟩ ⟨by omega, by omega⟩ (fun c15 => ?_) (fun c15 => ?_)
      · try (exfalso; omega)
        all_goals (
          refine k_vret C hr dX6_copyFrom_37 ?_
          have ek : kk = sy := by omega
          subst ek
          exact ⟨rfl, F1, F2, F3, F4, F5, hk2, rfl⟩)
      · try (exfalso; omega)
        all_goals (
          refine k_iload_n C dX6_copyFrom_18 rfl ?_
          refine k_bipush C dX6_copyFrom_19 (by decide +kernel) ?_
          refine k_icmp_ge (tgt := 37) C dX6_copyFrom_21 (by decide) ⟨by omega, by omega⟩ ⟨by omega, by omega⟩ (fun c21 => ?_) (fun c21 => ?_)
          · try (exfalso; omega)
            all_goals (
              refine k_vret C hr dX6_copyFrom_37 ?_
              have ek : kk = sy := by omega
              subst ek
              exact ⟨rfl, F1, F2, F3, F4, F5, hk2, rfl⟩)
          · try (exfalso; omega)
            all_goals (
              refine k_aload_n C dX6_copyFrom_24 rfl ?_
              refine k_aload_n C dX6_copyFrom_25 rfl ?_
              refine k_iload_n C dX6_copyFrom_26 rfl ?_
              refine k_iload_n C dX6_copyFrom_27 rfl ?_
              refine k_callV C (n := 3) (as := [_, _, _]) (ct_X6_copyWinder l D tc base _ qq F1 F2 F3 F4 F5 sy (by repeat (first | exact hs_eq _ _ _ | refine hs_ne (by omega) ?_ | assumption)) (by repeat (first | exact hs_eq _ _ _ | refine hs_ne (by omega) ?_ | assumption)) (by repeat (first | exact hs_eq _ _ _ | refine hs_ne (by omega) ?_ | assumption)) (by repeat (first | exact hs_eq _ _ _ | refine hs_ne (by omega) ?_ | assumption)) (by repeat (first | exact hs_eq _ _ _ | refine hs_ne (by omega) ?_ | assumption)) (by repeat (first | exact hs_eq _ _ _ | refine hs_ne (by omega) ?_ | assumption)) pp e1 e2 e3 e4 e5 sy (by repeat (first | exact hs_eq _ _ _ | refine hs_ne (by omega) ?_ | assumption)) (by repeat (first | exact hs_eq _ _ _ | refine hs_ne (by omega) ?_ | assumption)) (by repeat (first | exact hs_eq _ _ _ | refine hs_ne (by omega) ?_ | assumption)) (by repeat (first | exact hs_eq _ _ _ | refine hs_ne (by omega) ?_ | assumption)) (by repeat (first | exact hs_eq _ _ _ | refine hs_ne (by omega) ?_ | assumption)) (by repeat (first | exact hs_eq _ _ _ | refine hs_ne (by omega) ?_ | assumption)) hdj _ _ (by omega) (by omega) (by omega) (by omega)) ml_X6_31 im_X6_copyWinder se_X6_copyWinder ini_X6 co_X6_copyWinder ⟨rfl, by decide, by decide, by decide +kernel⟩ rfl (ci := 6) rfl (by repeat (first | exact hs_eq _ _ _ | refine hs_ne (by omega) ?_ | assumption)) ⟨by decide, by decide⟩ rfl (Nat.le_of_ble_eq_true rfl) ⟨Nat.zero_le _, Nat.zero_le _⟩ dX6_copyFrom_28 ?_
              rintro _ _ ⟨rfl, rfl⟩
              refine k_iinc C dX6_copyFrom_31 rfl (by decide) rfl ?_
              refine k_goto (tgt := 10) C dX6_copyFrom_34 (by decide) ?_
              have q1 := ih (kk + 1) (iu F1 kk (e1 kk)) (iu F2 kk (e2 kk)) (iu F3 kk (e3 kk)) (iu F4 kk (e4 kk)) (iu F5 kk (e5 kk)) (by omega) (by omega) ⟨cpy_s hk2.1, cpy_s hk2.2.1, cpy_s hk2.2.2.1, cpy_s hk2.2.2.2.1, cpy_s hk2.2.2.2.2⟩ (by omega)
              rw [hs5]
              exact q1))
  have q1 := loop10 (sy + 1).toNat 0 f1 f2 f3 f4 f5 (by omega) (by omega) ⟨cpy_0, cpy_0, cpy_0, cpy_0, cpy_0⟩ (by omega)
  rw [hs_same (hs_ne (by omega) g1), hs_same (hs_ne (by omega) g2), hs_same (hs_ne (by omega) g3), hs_same (hs_ne (by omega) g4), hs_same (hs_ne (by omega) g5)] at q1
  exact q1

set_option maxRecDepth 20000 in
set_option maxHeartbeats 1000000 in
theorem ct_X6_add (l : Launch) (D : va_G) (tc : Nat → ClassId) (base : Nat) (hpp : AH) (qq : Nat) (f1 f2 f3 f4 f5 : Int → Int) (sz : Int) (g0 : hpp qq = some (eO 6 [aI sz, aR (qq + 1), aR (qq + 2), aR (qq + 3), aR (qq + 4), aR (qq + 5)])) (g1 : hpp (qq + 1) = some (eA 0 6 f1)) (g2 : hpp (qq + 2) = some (eA 0 6 f2)) (g3 : hpp (qq + 3) = some (eA 0 6 f3)) (g4 : hpp (qq + 4) = some (eA 0 6 f4)) (g5 : hpp (qq + 5) = some (eA 0 6 f5)) (ww tt pd fd : Int) (h1 : 0 ≤ sz) (h2 : sz < 6) : CT l D tc base yX6_add cX6_add 5 none 0 [aR qq, aI ww, aI tt, aI pd, aI fd] hpp (fun r h' => r = none ∧ h' = hs (hs (hs (hs (hs (hs hpp (qq + 1) (eA 0 6 (iu f1 sz (ww)))) (qq + 2) (eA 0 6 (iu f2 sz (tt)))) (qq + 3) (eA 0 6 (iu f3 sz (pd)))) (qq + 4) (eA 0 6 (iu f4 sz (fd)))) (qq + 5) (eA 0 6 (iu f5 sz (0)))) qq (eO 6 [aI (sz + 1), aR (qq + 1), aR (qq + 2), aR (qq + 3), aR (qq + 4), aR (qq + 5)])) := by
  refine CT.of [some (aR qq), some (aI ww), some (aI tt), some (aI pd), some (aI fd)] (by decide +kernel) rfl (Nat.le_of_ble_eq_true rfl) ?_
  intro p e s m args below meth c C hr hnm
  refine k_aload_n C dX6_add_0 rfl ?_
  refine k_get C (k := 0) inX6 (ci := 6) rfl (by decide) fl_X6_27 dX6_add_1 (by repeat (first | exact hs_eq _ _ _ | refine hs_ne (by omega) ?_ | assumption)) rfl ?_
  refine k_if_lt (tgt := 16) C dX6_add_4 (by decide) ⟨by omega, by omega⟩ (fun c4 => ?_) (fun c4 => ?_)
  · try (exfalso; omega)
    all_goals (
      refine k_vret C hr dX6_add_16 ?_
      exact ⟨rfl, rfl⟩)
  · try (exfalso; omega)
    all_goals (
      refine k_aload_n C dX6_add_7 rfl ?_
      refine k_get C (k := 0) inX6 (ci := 6) rfl (by decide) fl_X6_27 dX6_add_8 (by repeat (first | exact hs_eq _ _ _ | refine hs_ne (by omega) ?_ | assumption)) rfl ?_
      refine k_bipush C dX6_add_11 (by decide +kernel) ?_
      refine k_icmp_lt (tgt := 17) C dX6_add_13 (by decide) ⟨by omega, by omega⟩ ⟨by omega, by omega⟩ (fun c13 => ?_) (fun c13 => ?_)
      · try (exfalso; omega)
        all_goals (
          refine k_aload_n C dX6_add_17 rfl ?_
          refine k_get C (k := 1) inX6 (ci := 6) rfl (by decide) fl_X6_9 dX6_add_18 (by repeat (first | exact hs_eq _ _ _ | refine hs_ne (by omega) ?_ | assumption)) rfl ?_
          refine k_aload_n C dX6_add_21 rfl ?_
          refine k_get C (k := 0) inX6 (ci := 6) rfl (by decide) fl_X6_27 dX6_add_22 (by repeat (first | exact hs_eq _ _ _ | refine hs_ne (by omega) ?_ | assumption)) rfl ?_
          refine k_iload_n C dX6_add_25 rfl ?_
          refine k_iastore C dX6_add_26 (by repeat (first | exact hs_eq _ _ _ | refine hs_ne (by omega) ?_ | assumption)) (by omega) (by omega) (by omega) ?_
          refine k_aload_n C dX6_add_27 rfl ?_
          refine k_get C (k := 2) inX6 (ci := 6) rfl (by decide) fl_X6_15 dX6_add_28 (by repeat (first | exact hs_eq _ _ _ | refine hs_ne (by omega) ?_ | assumption)) rfl ?_
          refine k_aload_n C dX6_add_31 rfl ?_
          refine k_get C (k := 0) inX6 (ci := 6) rfl (by decide) fl_X6_27 dX6_add_32 (by repeat (first | exact hs_eq _ _ _ | refine hs_ne (by omega) ?_ | assumption)) rfl ?_
          refine k_iload_n C dX6_add_35 rfl ?_
          refine k_iastore C dX6_add_36 (by repeat (first | exact hs_eq _ _ _ | refine hs_ne (by omega) ?_ | assumption)) (by omega) (by omega) (by omega) ?_
          refine k_aload_n C dX6_add_37 rfl ?_
          refine k_get C (k := 3) inX6 (ci := 6) rfl (by decide) fl_X6_18 dX6_add_38 (by repeat (first | exact hs_eq _ _ _ | refine hs_ne (by omega) ?_ | assumption)) rfl ?_
          refine k_aload_n C dX6_add_41 rfl ?_
          refine k_get C (k := 0) inX6 (ci := 6) rfl (by decide) fl_X6_27 dX6_add_42 (by repeat (first | exact hs_eq _ _ _ | refine hs_ne (by omega) ?_ | assumption)) rfl ?_
          refine k_iload_n C dX6_add_45 rfl ?_
          refine k_iastore C dX6_add_46 (by repeat (first | exact hs_eq _ _ _ | refine hs_ne (by omega) ?_ | assumption)) (by omega) (by omega) (by omega) ?_
          refine k_aload_n C dX6_add_47 rfl ?_
          refine k_get C (k := 4) inX6 (ci := 6) rfl (by decide) fl_X6_21 dX6_add_48 (by repeat (first | exact hs_eq _ _ _ | refine hs_ne (by omega) ?_ | assumption)) rfl ?_
          refine k_aload_n C dX6_add_51 rfl ?_
          refine k_get C (k := 0) inX6 (ci := 6) rfl (by decide) fl_X6_27 dX6_add_52 (by repeat (first | exact hs_eq _ _ _ | refine hs_ne (by omega) ?_ | assumption)) rfl ?_
          refine k_iload C dX6_add_55 rfl ?_
          refine k_iastore C dX6_add_57 (by repeat (first | exact hs_eq _ _ _ | refine hs_ne (by omega) ?_ | assumption)) (by omega) (by omega) (by omega) ?_
          refine k_aload_n C dX6_add_58 rfl ?_
          refine k_get C (k := 5) inX6 (ci := 6) rfl (by decide) fl_X6_24 dX6_add_59 (by repeat (first | exact hs_eq _ _ _ | refine hs_ne (by omega) ?_ | assumption)) rfl ?_
          refine k_aload_n C dX6_add_62 rfl ?_
          refine k_get C (k := 0) inX6 (ci := 6) rfl (by decide) fl_X6_27 dX6_add_63 (by repeat (first | exact hs_eq _ _ _ | refine hs_ne (by omega) ?_ | assumption)) rfl ?_
          refine k_iconst C dX6_add_66 ?_
          refine k_iastore C dX6_add_67 (by repeat (first | exact hs_eq _ _ _ | refine hs_ne (by omega) ?_ | assumption)) (by omega) (by omega) (by omega) ?_
          refine k_aload_n C dX6_add_68 rfl ?_
          refine k_dup C dX6_add_69 rfl ?_
          refine k_get C (k := 0) inX6 (ci := 6) rfl (by decide) fl_X6_27 dX6_add_70 (by repeat (first | exact hs_eq _ _ _ | refine hs_ne (by omega) ?_ | assumption)) rfl ?_
          refine k_iconst C dX6_add_73 ?_
          refine k_iadd C dX6_add_74 ?_
          refine k_put C (k := 0) inX6 tyX6_ok nmX6 (ci := 6) rfl (by decide) fl_X6_27 rfl (Nat.le_of_ble_eq_true rfl) dX6_add_75 (by repeat (first | exact hs_eq _ _ _ | refine hs_ne (by omega) ?_ | assumption)) ?_
          refine k_vret C hr dX6_add_78 ?_
          exact ⟨rfl, rfl⟩)
      · try (exfalso; omega)
        all_goals (
          refine k_vret C hr dX6_add_16 ?_
          exact ⟨rfl, rfl⟩))

set_option maxRecDepth 20000 in
set_option maxHeartbeats 1000000 in
theorem ct_X6_remove (l : Launch) (D : va_G) (tc : Nat → ClassId) (base : Nat) (hpp : AH) (qq : Nat) (f1 f2 f3 f4 f5 : Int → Int) (sz : Int) (g0 : hpp qq = some (eO 6 [aI sz, aR (qq + 1), aR (qq + 2), aR (qq + 3), aR (qq + 4), aR (qq + 5)])) (g1 : hpp (qq + 1) = some (eA 0 6 f1)) (g2 : hpp (qq + 2) = some (eA 0 6 f2)) (g3 : hpp (qq + 3) = some (eA 0 6 f3)) (g4 : hpp (qq + 4) = some (eA 0 6 f4)) (g5 : hpp (qq + 5) = some (eA 0 6 f5)) (gn : Int) (h1 : 0 ≤ gn) (h2 : gn < sz) (h3 : sz ≤ 6) : CT l D tc base yX6_remove cX6_remove 3 none 1 [aR qq, aI gn] hpp (fun r h' => r = none ∧ ∃ F1 F2 F3 F4 F5 : Int → Int, ((∀ jj : Int, 0 ≤ jj → jj < sz - 1 → F1 jj = if jj < gn then f1 jj else f1 (jj + 1)) ∧ (∀ jj : Int, 0 ≤ jj → jj < sz - 1 → F2 jj = if jj < gn then f2 jj else f2 (jj + 1)) ∧ (∀ jj : Int, 0 ≤ jj → jj < sz - 1 → F3 jj = if jj < gn then f3 jj else f3 (jj + 1)) ∧ (∀ jj : Int, 0 ≤ jj → jj < sz - 1 → F4 jj = if jj < gn then f4 jj else f4 (jj + 1)) ∧ (∀ jj : Int, 0 ≤ jj → jj < sz - 1 → F5 jj = if jj < gn then f5 jj else f5 (jj + 1))) ∧ h' = hs (hs (hs (hs (hs (hs hpp (qq + 1) (eA 0 6 F1)) (qq + 2) (eA 0 6 F2)) (qq + 3) (eA 0 6 F3)) (qq + 4) (eA 0 6 F4)) (qq + 5) (eA 0 6 F5)) qq (eO 6 [aI (sz - 1), aR (qq + 1), aR (qq + 2), aR (qq + 3), aR (qq + 4), aR (qq + 5)])) := by
  refine CT.of [some (aR qq), some (aI gn), none] (by decide +kernel) rfl (Nat.le_of_ble_eq_true rfl) ?_
  intro p e s m args below meth c C hr hnm
  refine k_iload_n C dX6_remove_0 rfl ?_
  refine k_istore_n C dX6_remove_1 (by decide) rfl ?_
  have loop2 : ∀ (n : Nat) (kk : Int) (F1 F2 F3 F4 F5 : Int → Int), gn ≤ kk → kk ≤ sz - 1 → ((∀ jj : Int, 0 ≤ jj → jj < sz → F1 jj = if jj < gn ∨ kk ≤ jj then f1 jj else f1 (jj + 1)) ∧ (∀ jj : Int, 0 ≤ jj → jj < sz → F2 jj = if jj < gn ∨ kk ≤ jj then f2 jj else f2 (jj + 1)) ∧ (∀ jj : Int, 0 ≤ jj → jj < sz → F3 jj = if jj < gn ∨ kk ≤ jj then f3 jj else f3 (jj + 1)) ∧ (∀ jj : Int, 0 ≤ jj → jj < sz → F4 jj = if jj < gn ∨ kk ≤ jj then f4 jj else f4 (jj + 1)) ∧ (∀ jj : Int, 0 ≤ jj → jj < sz → F5 jj = if jj < gn ∨ kk ≤ jj then f5 jj else f5 (jj + 1))) → sz - kk < (n : Int) → Wk D tc base 3 p l e (lvR 1) s m args below meth c 0 0 (MQ below (Qx D tc base (fun r h' => r = none ∧ ∃ F1 F2 F3 F4 F5 : Int → Int, ((∀ jj : Int, 0 ≤ jj → jj < sz - 1 → F1 jj = if jj < gn then f1 jj else f1 (jj + 1)) ∧ (∀ jj : Int, 0 ≤ jj → jj < sz - 1 → F2 jj = if jj < gn then f2 jj else f2 (jj + 1)) ∧ (∀ jj : Int, 0 ≤ jj → jj < sz - 1 → F3 jj = if jj < gn then f3 jj else f3 (jj + 1)) ∧ (∀ jj : Int, 0 ≤ jj → jj < sz - 1 → F4 jj = if jj < gn then f4 jj else f4 (jj + 1)) ∧ (∀ jj : Int, 0 ≤ jj → jj < sz - 1 → F5 jj = if jj < gn then f5 jj else f5 (jj + 1))) ∧ h' = hs (hs (hs (hs (hs (hs hpp (qq + 1) (eA 0 6 F1)) (qq + 2) (eA 0 6 F2)) (qq + 3) (eA 0 6 F3)) (qq + 4) (eA 0 6 F4)) (qq + 5) (eA 0 6 F5)) qq (eO 6 [aI (sz - 1), aR (qq + 1), aR (qq + 2), aR (qq + 3), aR (qq + 4), aR (qq + 5)]))) args s 0 0 (fun q => base ≤ q)) 2 [some (aR qq), some (aI gn), some (aI kk)] [] (hs (hs (hs (hs (hs hpp (qq + 1) (eA 0 6 F1)) (qq + 2) (eA 0 6 F2)) (qq + 3) (eA 0 6 F3)) (qq + 4) (eA 0 6 F4)) (qq + 5) (eA 0 6 F5)) := by
    intro n
    induction n with
    | zero =>
      intro kk F1 F2 F3 F4 F5 hk0 hk1 hk2 hmu
      exfalso
      omega
    | succ n ih =>
      intro kk F1 F2 F3 F4 F5 hk0 hk1 hk2 hmu
      refine k_iload_n C dX6_remove_2 rfl ?_
      refine k_aload_n C dX6_remove_3 rfl ?_
      refine k_get C (k := 0) inX6 (ci := 6) rfl (by decide) fl_X6_27 dX6_remove_4 (by repeat (first | exact hs_eq _ _ _ | refine hs_ne (by omega) ?_ | assumption)) rfl ?_
      refine k_iconst C dX6_remove_7 ?_
      refine k_isub C dX6_remove_8 ?_
      refine k_icmp_ge (tgt := 27) C dX6_remove_9 (by decide) ⟨by omega, by omega⟩ ⟨by omega, by omega⟩ (fun c9 => ?_) (fun c9 => ?_)
      · try (exfalso; omega)
        all_goals (
          refine k_aload_n C dX6_remove_27 rfl ?_
          refine k_dup C dX6_remove_28 rfl ?_
          refine k_get C (k := 0) inX6 (ci := 6) rfl (by decide) fl_X6_27 dX6_remove_29 (by repeat (first | exact hs_eq _ _ _ | refine hs_ne (by omega) ?_ | assumption)) rfl ?_
          refine k_iconst C dX6_remove_32 ?_
          refine k_isub C dX6_remove_33 ?_
          refine k_put C (k := 0) inX6 tyX6_ok nmX6 (ci := 6) rfl (by decide) fl_X6_27 rfl (Nat.le_of_ble_eq_true rfl) dX6_remove_34 (by repeat (first | exact hs_eq _ _ _ | refine hs_ne (by omega) ?_ | assumption)) ?_
          refine k_vret C hr dX6_remove_37 ?_
          have ek : kk = sz - 1 := by omega
          subst ek
          have qe : ∀ FF ff : Int → Int, (∀ jj : Int, 0 ≤ jj → jj < sz → FF jj = if jj < gn ∨ sz - 1 ≤ jj then ff jj else ff (jj + 1)) → ∀ jj : Int, 0 ≤ jj → jj < sz - 1 → FF jj = if jj < gn then ff jj else ff (jj + 1) := by
            intro FF ff hff jj hj0 hj1
            rw [hff jj hj0 (by omega)]
            by_cases hc : jj < gn
            · rw [if_pos (by omega), if_pos hc]
            · rw [if_neg (by omega), if_neg hc]
          exact ⟨rfl, F1, F2, F3, F4, F5, ⟨qe _ _ hk2.1, qe _ _ hk2.2.1, qe _ _ hk2.2.2.1, qe _ _ hk2.2.2.2.1, qe _ _ hk2.2.2.2.2⟩, rfl⟩)
      · try (exfalso; omega)
        all_goals (
          refine k_aload_n C dX6_remove_12 rfl ?_
          refine k_aload_n C dX6_remove_13 rfl ?_
          refine k_iload_n C dX6_remove_14 rfl ?_
          refine k_iconst C dX6_remove_15 ?_
          refine k_iadd C dX6_remove_16 ?_
          refine k_iload_n C dX6_remove_17 rfl ?_
          refine k_callV C (n := 3) (as := [_, _, _]) (ct_X6_copyWinderS l D tc base _ qq F1 F2 F3 F4 F5 sz (by repeat (first | exact hs_eq _ _ _ | refine hs_ne (by omega) ?_ | assumption)) (by repeat (first | exact hs_eq _ _ _ | refine hs_ne (by omega) ?_ | assumption)) (by repeat (first | exact hs_eq _ _ _ | refine hs_ne (by omega) ?_ | assumption)) (by repeat (first | exact hs_eq _ _ _ | refine hs_ne (by omega) ?_ | assumption)) (by repeat (first | exact hs_eq _ _ _ | refine hs_ne (by omega) ?_ | assumption)) (by repeat (first | exact hs_eq _ _ _ | refine hs_ne (by omega) ?_ | assumption)) _ _ (by omega) (by omega) (by omega) (by omega)) ml_X6_31 im_X6_copyWinder se_X6_copyWinder ini_X6 co_X6_copyWinder ⟨rfl, by decide, by decide, by decide +kernel⟩ rfl (ci := 6) rfl (by repeat (first | exact hs_eq _ _ _ | refine hs_ne (by omega) ?_ | assumption)) ⟨by decide, by decide⟩ rfl (Nat.le_of_ble_eq_true rfl) ⟨Nat.zero_le _, Nat.zero_le _⟩ dX6_remove_18 ?_
          rintro _ _ ⟨rfl, rfl⟩
          refine k_iinc C dX6_remove_21 rfl (by decide) rfl ?_
          refine k_goto (tgt := 2) C dX6_remove_24 (by decide) ?_
          have qs : ∀ FF ff : Int → Int, (∀ jj : Int, 0 ≤ jj → jj < sz → FF jj = if jj < gn ∨ kk ≤ jj then ff jj else ff (jj + 1)) → ∀ jj : Int, 0 ≤ jj → jj < sz → iu FF kk (FF (kk + 1)) jj = if jj < gn ∨ kk + 1 ≤ jj then ff jj else ff (jj + 1) := by
            intro FF ff hff jj hj0 hj1
            by_cases hj : jj = kk
            · subst hj
              rw [iu_eq, hff _ (by omega) (by omega), if_pos (by omega), if_neg (by omega)]
            · rw [iu_ne hj, hff jj hj0 hj1]
              by_cases hc : jj < gn ∨ kk ≤ jj
              · rw [if_pos hc, if_pos (by omega)]
              · rw [if_neg hc, if_neg (by omega)]
          have q1 := ih (kk + 1) (iu F1 kk (F1 (kk + 1))) (iu F2 kk (F2 (kk + 1))) (iu F3 kk (F3 (kk + 1))) (iu F4 kk (F4 (kk + 1))) (iu F5 kk (F5 (kk + 1))) (by omega) (by omega) ⟨qs _ _ hk2.1, qs _ _ hk2.2.1, qs _ _ hk2.2.2.1, qs _ _ hk2.2.2.2.1, qs _ _ hk2.2.2.2.2⟩ (by omega)
          rw [hs5]
          exact q1)
  have qz : ∀ ff : Int → Int, ∀ jj : Int, 0 ≤ jj → jj < sz → ff jj = if jj < gn ∨ gn ≤ jj then ff jj else ff (jj + 1) := fun ff jj _ _ => by rw [if_pos (by omega)]
  have q1 := loop2 (sz - gn + 1).toNat gn f1 f2 f3 f4 f5 (by omega) (by omega) ⟨qz f1, qz f2, qz f3, qz f4, qz f5⟩ (by omega)
  rw [hs_same g1, hs_same g2, hs_same g3, hs_same g4, hs_same g5] at q1
  exact q1

