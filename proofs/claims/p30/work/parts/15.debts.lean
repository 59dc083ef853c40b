set_option maxRecDepth 20000 in
set_option maxHeartbeats 1000000 in
theorem ct_X0_copyFrom (l : Launch) (D : va_G) (tc : Nat → ClassId) (base : Nat) (hpp : AH) (qq : Nat) (f1 f2 : Int → Int) (sz : Int) (g0 : hpp qq = some (eO 0 [aI sz, aR (qq + 1), aR (qq + 2)])) (g1 : hpp (qq + 1) = some (eA 0 4 f1)) (g2 : hpp (qq + 2) = some (eA 0 4 f2)) (pp : Nat) (e1 e2 : Int → Int) (sy : Int) (k0 : hpp pp = some (eO 0 [aI sy, aR (pp + 1), aR (pp + 2)])) (k1 : hpp (pp + 1) = some (eA 0 4 e1)) (k2 : hpp (pp + 2) = some (eA 0 4 e2)) (hdj : qq + 3 ≤ pp ∨ pp + 3 ≤ qq) (h1 : 0 ≤ sy) (h2 : sy ≤ 4) : CT l D tc base yX0_copyFrom cX0_copyFrom 3 none 0 [aR qq, aR pp] hpp (fun r h' => r = none ∧ ∃ F1 F2 : Int → Int, ((∀ jj : Int, 0 ≤ jj → jj < sy → F1 jj = e1 jj) ∧ (∀ jj : Int, 0 ≤ jj → jj < sy → F2 jj = e2 jj)) ∧ h' = (hs (hs (hs hpp qq (eO 0 [aI sy, aR (qq + 1), aR (qq + 2)])) (qq + 1) (eA 0 4 F1)) (qq + 2) (eA 0 4 F2))) := by
  refine CT.of [some (aR qq), some (aR pp), none] (by decide +kernel) rfl (Nat.le_of_ble_eq_true rfl) ?_
  intro p e s m args below meth c C hr hnm
  refine k_aload_n C dX0_copyFrom_0 rfl ?_
  refine k_aload_n C dX0_copyFrom_1 rfl ?_
  refine k_get C (k := 0) inX0 (ci := 0) rfl (by decide) fl_X0_18 dX0_copyFrom_2 (by repeat (first | exact hs_eq _ _ _ | refine hs_ne (by omega) ?_ | assumption)) rfl ?_
  refine k_put C (k := 0) inX0 tyX0_ok nmX0 (ci := 0) rfl (by decide) fl_X0_18 rfl (Nat.le_of_ble_eq_true rfl) dX0_copyFrom_5 (by repeat (first | exact hs_eq _ _ _ | refine hs_ne (by omega) ?_ | assumption)) ?_
  refine k_iconst C dX0_copyFrom_8 ?_
  refine k_istore_n C dX0_copyFrom_9 (by decide) rfl ?_
  have loop10 : ∀ (n : Nat) (kk : Int) (F1 F2 : Int → Int), 0 ≤ kk → kk ≤ sy → ((∀ jj : Int, 0 ≤ jj → jj < kk → F1 jj = e1 jj) ∧ (∀ jj : Int, 0 ≤ jj → jj < kk → F2 jj = e2 jj)) → sy - kk < (n : Int) → Wk D tc base 3 p l e (lvR 0) s m args below meth c 0 0 (MQ below (Qx D tc base (fun r h' => r = none ∧ ∃ F1 F2 : Int → Int, ((∀ jj : Int, 0 ≤ jj → jj < sy → F1 jj = e1 jj) ∧ (∀ jj : Int, 0 ≤ jj → jj < sy → F2 jj = e2 jj)) ∧ h' = (hs (hs (hs hpp qq (eO 0 [aI sy, aR (qq + 1), aR (qq + 2)])) (qq + 1) (eA 0 4 F1)) (qq + 2) (eA 0 4 F2)))) args s 0 0 (fun q => base ≤ q)) 10 [some (aR qq), some (aR pp), some (aI kk)] [] (hs (hs (hs hpp qq (eO 0 [aI sy, aR (qq + 1), aR (qq + 2)])) (qq + 1) (eA 0 4 F1)) (qq + 2) (eA 0 4 F2)) := by
    intro n
    induction n with
    | zero =>
      intro kk F1 F2 hk0 hk1 hk2 hmu
      exfalso
      omega
    | succ n ih =>
      intro kk F1 F2 hk0 hk1 hk2 hmu
      refine k_iload_n C dX0_copyFrom_10 rfl ?_
      refine k_aload_n C dX0_copyFrom_11 rfl ?_
      refine k_get C (k := 0) inX0 (ci := 0) rfl (by decide) fl_X0_18 dX0_copyFrom_12 (by repeat (first | exact hs_eq _ _ _ | refine hs_ne (by omega) ?_ | assumption)) rfl ?_
      refine k_icmp_ge (tgt := 53) C dX0_copyFrom_15 (by decide) ⟨by omega, by omega⟩ ⟨by omega, by omega⟩ (fun c15 => ?_) (fun c15 => ?_)
      · try (exfalso; omega)
        all_goals (
          refine k_vret C hr dX0_copyFrom_53 ?_
          have ek : kk = sy := by omega
          subst ek
          exact ⟨rfl, F1, F2, hk2, rfl⟩)
      · try (exfalso; omega)
        all_goals (
          refine k_iload_n C dX0_copyFrom_18 rfl ?_
          refine k_iconst C dX0_copyFrom_19 ?_
          refine k_icmp_ge (tgt := 53) C dX0_copyFrom_20 (by decide) ⟨by omega, by omega⟩ ⟨by omega, by omega⟩ (fun c20 => ?_) (fun c20 => ?_)
          · try (exfalso; omega)
            all_goals (
              refine k_vret C hr dX0_copyFrom_53 ?_
              have ek : kk = sy := by omega
              subst ek
              exact ⟨rfl, F1, F2, hk2, rfl⟩)
          · try (exfalso; omega)
            all_goals (
              refine k_aload_n C dX0_copyFrom_23 rfl ?_
              refine k_get C (k := 1) inX0 (ci := 0) rfl (by decide) fl_X0_9 dX0_copyFrom_24 (by repeat (first | exact hs_eq _ _ _ | refine hs_ne (by omega) ?_ | assumption)) rfl ?_
              refine k_iload_n C dX0_copyFrom_27 rfl ?_
              refine k_aload_n C dX0_copyFrom_28 rfl ?_
              refine k_get C (k := 1) inX0 (ci := 0) rfl (by decide) fl_X0_9 dX0_copyFrom_29 (by repeat (first | exact hs_eq _ _ _ | refine hs_ne (by omega) ?_ | assumption)) rfl ?_
              refine k_iload_n C dX0_copyFrom_32 rfl ?_
              refine k_iaload C dX0_copyFrom_33 (by repeat (first | exact hs_eq _ _ _ | refine hs_ne (by omega) ?_ | assumption)) (by omega) (by omega) (by omega) ?_
              refine k_iastore C dX0_copyFrom_34 (by repeat (first | exact hs_eq _ _ _ | refine hs_ne (by omega) ?_ | assumption)) (by omega) (by omega) (by omega) ?_
              refine k_aload_n C dX0_copyFrom_35 rfl ?_
              refine k_get C (k := 2) inX0 (ci := 0) rfl (by decide) fl_X0_15 dX0_copyFrom_36 (by repeat (first | exact hs_eq _ _ _ | refine hs_ne (by omega) ?_ | assumption)) rfl ?_
              refine k_iload_n C dX0_copyFrom_39 rfl ?_
              refine k_aload_n C dX0_copyFrom_40 rfl ?_
              refine k_get C (k := 2) inX0 (ci := 0) rfl (by decide) fl_X0_15 dX0_copyFrom_41 (by repeat (first | exact hs_eq _ _ _ | refine hs_ne (by omega) ?_ | assumption)) rfl ?_
              refine k_iload_n C dX0_copyFrom_44 rfl ?_
              refine k_iaload C dX0_copyFrom_45 (by repeat (first | exact hs_eq _ _ _ | refine hs_ne (by omega) ?_ | assumption)) (by omega) (by omega) (by omega) ?_
              refine k_iastore C dX0_copyFrom_46 (by repeat (first | exact hs_eq _ _ _ | refine hs_ne (by omega) ?_ | assumption)) (by omega) (by omega) (by omega) ?_
              refine k_iinc C dX0_copyFrom_47 rfl (by decide) rfl ?_
              refine k_goto (tgt := 10) C dX0_copyFrom_50 (by decide) ?_
              have q1 := ih (kk + 1) (iu F1 kk (e1 kk)) (iu F2 kk (e2 kk)) (by omega) (by omega) ⟨cpy_s hk2.1, cpy_s hk2.2⟩ (by omega)
              rw [hs2]
              exact q1))
  have q1 := loop10 (sy + 1).toNat 0 f1 f2 (by omega) (by omega) ⟨cpy_0, cpy_0⟩ (by omega)
  rw [hs_same (hs_ne (by omega) g1), hs_same (hs_ne (by omega) g2)] at q1
  exact q1

set_option maxRecDepth 20000 in
set_option maxHeartbeats 1000000 in
theorem ct_X0_owed (l : Launch) (D : va_G) (tc : Nat → ClassId) (base : Nat) (hpp : AH) (qq : Nat) (f1 f2 : Int → Int) (sz : Int) (g0 : hpp qq = some (eO 0 [aI sz, aR (qq + 1), aR (qq + 2)])) (g1 : hpp (qq + 1) = some (eA 0 4 f1)) (g2 : hpp (qq + 2) = some (eA 0 4 f2)) (nn : Nat) (h1 : sz = nn) (h2 : nn ≤ 4) : CT l D tc base yX0_owed cX0_owed 3 (some .int) 0 [aR qq] hpp (fun r h' => r = some (aI (sN f2 nn)) ∧ hpp = h') := by
  refine CT.of [some (aR qq), none, none] (by decide +kernel) rfl (Nat.le_of_ble_eq_true rfl) ?_
  intro p e s m args below meth c C hr hnm
  refine k_iconst C dX0_owed_0 ?_
  refine k_istore_n C dX0_owed_1 (by decide) rfl ?_
  refine k_iconst C dX0_owed_2 ?_
  refine k_istore_n C dX0_owed_3 (by decide) rfl ?_
  have loop4 : ∀ (n : Nat) (kk : Nat), kk ≤ nn → (nn : Int) - kk < (n : Int) → Wk D tc base 3 p l e (lvR 0) s m args below meth c 0 0 (MQ below (Qx D tc base (fun r h' => r = some (aI (sN f2 nn)) ∧ hpp = h')) args s 0 0 (fun q => base ≤ q)) 4 [some (aR qq), some (aI (sN f2 kk)), some (aI kk)] [] hpp := by
    intro n
    induction n with
    | zero =>
      intro kk hk hmu
      exfalso
      omega
    | succ n ih =>
      intro kk hk hmu
      refine k_iload_n C dX0_owed_4 rfl ?_
      refine k_aload_n C dX0_owed_5 rfl ?_
      refine k_get C (k := 0) inX0 (ci := 0) rfl (by decide) fl_X0_18 dX0_owed_6 (by repeat (first | exact hs_eq _ _ _ | refine hs_ne (by omega) ?_ | assumption)) rfl ?_
      refine k_icmp_ge (tgt := 32) C dX0_owed_9 (by decide) ⟨by omega, by omega⟩ ⟨by omega, by omega⟩ (fun c9 => ?_) (fun c9 => ?_)
      · try (exfalso; omega)
        all_goals (
          refine k_iload_n C dX0_owed_32 rfl ?_
          refine k_iret C hr dX0_owed_33 ?_
          refine ⟨?_, rfl⟩
          have e1 : nn = kk := by omega
          rw [e1])
      · try (exfalso; omega)
        all_goals (
          refine k_iload_n C dX0_owed_12 rfl ?_
          refine k_iconst C dX0_owed_13 ?_
          refine k_icmp_ge (tgt := 32) C dX0_owed_14 (by decide) ⟨by omega, by omega⟩ ⟨by omega, by omega⟩ (fun c14 => ?_) (fun c14 => ?_)
          · try (exfalso; omega)
            all_goals (
              refine k_iload_n C dX0_owed_32 rfl ?_
              refine k_iret C hr dX0_owed_33 ?_
              refine ⟨?_, rfl⟩
              have e1 : nn = kk := by omega
              rw [e1])
          · try (exfalso; omega)
            all_goals (
              refine k_iload_n C dX0_owed_17 rfl ?_
              refine k_aload_n C dX0_owed_18 rfl ?_
              refine k_get C (k := 2) inX0 (ci := 0) rfl (by decide) fl_X0_15 dX0_owed_19 (by repeat (first | exact hs_eq _ _ _ | refine hs_ne (by omega) ?_ | assumption)) rfl ?_
              refine k_iload_n C dX0_owed_22 rfl ?_
              refine k_iaload C dX0_owed_23 (by repeat (first | exact hs_eq _ _ _ | refine hs_ne (by omega) ?_ | assumption)) (by omega) (by omega) (by omega) ?_
              refine k_iadd C dX0_owed_24 ?_
              refine k_istore_n C dX0_owed_25 (by decide) rfl ?_
              refine k_iinc C dX0_owed_26 rfl (by decide) rfl ?_
              refine k_goto (tgt := 4) C dX0_owed_29 (by decide) ?_
              have e1 : sN f2 (kk + 1) = sN f2 kk + f2 kk := rfl
              have e2 : ((kk + 1 : Nat) : Int) = (kk : Int) + 1 := by omega
              have q1 := ih (kk + 1) (by omega) (by omega)
              rw [e1, e2] at q1
              exact q1))
  exact loop4 (nn + 1) 0 (by omega) (by omega)

set_option maxRecDepth 20000 in
set_option maxHeartbeats 1000000 in
theorem ct_X0_add (l : Launch) (D : va_G) (tc : Nat → ClassId) (base : Nat) (hpp : AH) (qq : Nat) (f1 f2 : Int → Int) (sz : Int) (g0 : hpp qq = some (eO 0 [aI sz, aR (qq + 1), aR (qq + 2)])) (g1 : hpp (qq + 1) = some (eA 0 4 f1)) (g2 : hpp (qq + 2) = some (eA 0 4 f2)) (hr : Int) (h1 : 0 ≤ sz) (h2 : sz < 4) : CT l D tc base yX0_add cX0_add 2 none 0 [aR qq, aI hr] hpp (fun r h' => r = none ∧ h' = hs (hs (hs hpp (qq + 1) (eA 0 4 (iu f1 sz hr))) (qq + 2) (eA 0 4 (iu f2 sz hr))) qq (eO 0 [aI (sz + 1), aR (qq + 1), aR (qq + 2)])) := by
  refine CT.of [some (aR qq), some (aI hr)] (by decide +kernel) rfl (Nat.le_of_ble_eq_true rfl) ?_
  intro p e s m args below meth c C hr hnm
  refine k_aload_n C dX0_add_0 rfl ?_
  refine k_get C (k := 0) inX0 (ci := 0) rfl (by decide) fl_X0_18 dX0_add_1 (by repeat (first | exact hs_eq _ _ _ | refine hs_ne (by omega) ?_ | assumption)) rfl ?_
  refine k_if_lt (tgt := 15) C dX0_add_4 (by decide) ⟨by omega, by omega⟩ (fun c4 => ?_) (fun c4 => ?_)
  · try (exfalso; omega)
    all_goals (
      refine k_vret C hr dX0_add_15 ?_
      exact ⟨rfl, rfl⟩)
  · try (exfalso; omega)
    all_goals (
      refine k_aload_n C dX0_add_7 rfl ?_
      refine k_get C (k := 0) inX0 (ci := 0) rfl (by decide) fl_X0_18 dX0_add_8 (by repeat (first | exact hs_eq _ _ _ | refine hs_ne (by omega) ?_ | assumption)) rfl ?_
      refine k_iconst C dX0_add_11 ?_
      refine k_icmp_lt (tgt := 16) C dX0_add_12 (by decide) ⟨by omega, by omega⟩ ⟨by omega, by omega⟩ (fun c12 => ?_) (fun c12 => ?_)
      · try (exfalso; omega)
        all_goals (
          refine k_aload_n C dX0_add_16 rfl ?_
          refine k_get C (k := 1) inX0 (ci := 0) rfl (by decide) fl_X0_9 dX0_add_17 (by repeat (first | exact hs_eq _ _ _ | refine hs_ne (by omega) ?_ | assumption)) rfl ?_
          refine k_aload_n C dX0_add_20 rfl ?_
          refine k_get C (k := 0) inX0 (ci := 0) rfl (by decide) fl_X0_18 dX0_add_21 (by repeat (first | exact hs_eq _ _ _ | refine hs_ne (by omega) ?_ | assumption)) rfl ?_
          refine k_iload_n C dX0_add_24 rfl ?_
          refine k_iastore C dX0_add_25 (by repeat (first | exact hs_eq _ _ _ | refine hs_ne (by omega) ?_ | assumption)) (by omega) (by omega) (by omega) ?_
          refine k_aload_n C dX0_add_26 rfl ?_
          refine k_get C (k := 2) inX0 (ci := 0) rfl (by decide) fl_X0_15 dX0_add_27 (by repeat (first | exact hs_eq _ _ _ | refine hs_ne (by omega) ?_ | assumption)) rfl ?_
          refine k_aload_n C dX0_add_30 rfl ?_
          refine k_get C (k := 0) inX0 (ci := 0) rfl (by decide) fl_X0_18 dX0_add_31 (by repeat (first | exact hs_eq _ _ _ | refine hs_ne (by omega) ?_ | assumption)) rfl ?_
          refine k_iload_n C dX0_add_34 rfl ?_
          refine k_iastore C dX0_add_35 (by repeat (first | exact hs_eq _ _ _ | refine hs_ne (by omega) ?_ | assumption)) (by omega) (by omega) (by omega) ?_
          refine k_aload_n C dX0_add_36 rfl ?_
          refine k_dup C dX0_add_37 rfl ?_
          refine k_get C (k := 0) inX0 (ci := 0) rfl (by decide) fl_X0_18 dX0_add_38 (by repeat (first | exact hs_eq _ _ _ | refine hs_ne (by omega) ?_ | assumption)) rfl ?_
          refine k_iconst C dX0_add_41 ?_
          refine k_iadd C dX0_add_42 ?_
          refine k_put C (k := 0) inX0 tyX0_ok nmX0 (ci := 0) rfl (by decide) fl_X0_18 rfl (Nat.le_of_ble_eq_true rfl) dX0_add_43 (by repeat (first | exact hs_eq _ _ _ | refine hs_ne (by omega) ?_ | assumption)) ?_
          refine k_vret C hr dX0_add_46 ?_
          exact ⟨rfl, rfl⟩)
      · try (exfalso; omega)
        all_goals (
          refine k_vret C hr dX0_add_15 ?_
          exact ⟨rfl, rfl⟩))

set_option maxRecDepth 20000 in
set_option maxHeartbeats 1000000 in
theorem ct_X0_dropFirst (l : Launch) (D : va_G) (tc : Nat → ClassId) (base : Nat) (hpp : AH) (qq : Nat) (f1 f2 : Int → Int) (sz : Int) (g0 : hpp qq = some (eO 0 [aI sz, aR (qq + 1), aR (qq + 2)])) (g1 : hpp (qq + 1) = some (eA 0 4 f1)) (g2 : hpp (qq + 2) = some (eA 0 4 f2)) (h1 : 1 ≤ sz) (h2 : sz ≤ 4) : CT l D tc base yX0_dropFirst cX0_dropFirst 2 none 0 [aR qq] hpp (fun r h' => r = none ∧ ∃ F1 F2 : Int → Int, ((∀ jj : Int, 0 ≤ jj → jj < sz - 1 → F1 jj = f1 (jj + 1)) ∧ (∀ jj : Int, 0 ≤ jj → jj < sz - 1 → F2 jj = f2 (jj + 1))) ∧ h' = hs (hs (hs hpp (qq + 1) (eA 0 4 F1)) (qq + 2) (eA 0 4 F2)) qq (eO 0 [aI (sz - 1), aR (qq + 1), aR (qq + 2)])) := by
  refine CT.of [some (aR qq), none] (by decide +kernel) rfl (Nat.le_of_ble_eq_true rfl) ?_
  intro p e s m args below meth c C hr hnm
  refine k_iconst C dX0_dropFirst_0 ?_
  refine k_istore_n C dX0_dropFirst_1 (by decide) rfl ?_
  have loop2 : ∀ (n : Nat) (kk : Int) (F1 F2 : Int → Int), 1 ≤ kk → kk ≤ sz → ((∀ jj : Int, 0 ≤ jj → jj < sz → F1 jj = if jj + 1 < kk then f1 (jj + 1) else f1 jj) ∧ (∀ jj : Int, 0 ≤ jj → jj < sz → F2 jj = if jj + 1 < kk then f2 (jj + 1) else f2 jj)) → sz - kk < (n : Int) → Wk D tc base 2 p l e (lvR 0) s m args below meth c 0 0 (MQ below (Qx D tc base (fun r h' => r = none ∧ ∃ F1 F2 : Int → Int, ((∀ jj : Int, 0 ≤ jj → jj < sz - 1 → F1 jj = f1 (jj + 1)) ∧ (∀ jj : Int, 0 ≤ jj → jj < sz - 1 → F2 jj = f2 (jj + 1))) ∧ h' = hs (hs (hs hpp (qq + 1) (eA 0 4 F1)) (qq + 2) (eA 0 4 F2)) qq (eO 0 [aI (sz - 1), aR (qq + 1), aR (qq + 2)]))) args s 0 0 (fun q => base ≤ q)) 2 [some (aR qq), some (aI kk)] [] (hs (hs hpp (qq + 1) (eA 0 4 F1)) (qq + 2) (eA 0 4 F2)) := by
    intro n
    induction n with
    | zero =>
      intro kk F1 F2 hk0 hk1 hk2 hmu
      exfalso
      omega
    | succ n ih =>
      intro kk F1 F2 hk0 hk1 hk2 hmu
      refine k_iload_n C dX0_dropFirst_2 rfl ?_
      refine k_aload_n C dX0_dropFirst_3 rfl ?_
      refine k_get C (k := 0) inX0 (ci := 0) rfl (by decide) fl_X0_18 dX0_dropFirst_4 (by repeat (first | exact hs_eq _ _ _ | refine hs_ne (by omega) ?_ | assumption)) rfl ?_
      refine k_icmp_ge (tgt := 49) C dX0_dropFirst_7 (by decide) ⟨by omega, by omega⟩ ⟨by omega, by omega⟩ (fun c7 => ?_) (fun c7 => ?_)
      · try (exfalso; omega)
        all_goals (
          refine k_aload_n C dX0_dropFirst_49 rfl ?_
          refine k_dup C dX0_dropFirst_50 rfl ?_
          refine k_get C (k := 0) inX0 (ci := 0) rfl (by decide) fl_X0_18 dX0_dropFirst_51 (by repeat (first | exact hs_eq _ _ _ | refine hs_ne (by omega) ?_ | assumption)) rfl ?_
          refine k_iconst C dX0_dropFirst_54 ?_
          refine k_isub C dX0_dropFirst_55 ?_
          refine k_put C (k := 0) inX0 tyX0_ok nmX0 (ci := 0) rfl (by decide) fl_X0_18 rfl (Nat.le_of_ble_eq_true rfl) dX0_dropFirst_56 (by repeat (first | exact hs_eq _ _ _ | refine hs_ne (by omega) ?_ | assumption)) ?_
          refine k_vret C hr dX0_dropFirst_59 ?_
          have ek : kk = sz := by omega
          subst ek
          have qe : ∀ FF ff : Int → Int, (∀ jj : Int, 0 ≤ jj → jj < kk → FF jj = if jj + 1 < kk then ff (jj + 1) else ff jj) → ∀ jj : Int, 0 ≤ jj → jj < kk - 1 → FF jj = ff (jj + 1) := by
            intro FF ff hff jj hj0 hj1
            rw [hff jj hj0 (by omega), if_pos (by omega)]
          exact ⟨rfl, F1, F2, ⟨qe _ _ hk2.1, qe _ _ hk2.2⟩, rfl⟩)
      · try (exfalso; omega)
        all_goals (
          refine k_iload_n C dX0_dropFirst_10 rfl ?_
          refine k_iconst C dX0_dropFirst_11 ?_
          refine k_icmp_ge (tgt := 49) C dX0_dropFirst_12 (by decide) ⟨by omega, by omega⟩ ⟨by omega, by omega⟩ (fun c12 => ?_) (fun c12 => ?_)
          · try (exfalso; omega)
            all_goals (
              refine k_aload_n C dX0_dropFirst_49 rfl ?_
              refine k_dup C dX0_dropFirst_50 rfl ?_
              refine k_get C (k := 0) inX0 (ci := 0) rfl (by decide) fl_X0_18 dX0_dropFirst_51 (by repeat (first | exact hs_eq _ _ _ | refine hs_ne (by omega) ?_ | assumption)) rfl ?_
              refine k_iconst C dX0_dropFirst_54 ?_
              refine k_isub C dX0_dropFirst_55 ?_
              refine k_put C (k := 0) inX0 tyX0_ok nmX0 (ci := 0) rfl (by decide) fl_X0_18 rfl (Nat.le_of_ble_eq_true rfl) dX0_dropFirst_56 (by repeat (first | exact hs_eq _ _ _ | refine hs_ne (by omega) ?_ | assumption)) ?_
              refine k_vret C hr dX0_dropFirst_59 ?_
              have ek : kk = sz := by omega
              subst ek
              have qe : ∀ FF ff : Int → Int, (∀ jj : Int, 0 ≤ jj → jj < kk → FF jj = if jj + 1 < kk then ff (jj + 1) else ff jj) → ∀ jj : Int, 0 ≤ jj → jj < kk - 1 → FF jj = ff (jj + 1) := by
                intro FF ff hff jj hj0 hj1
                rw [hff jj hj0 (by omega), if_pos (by omega)]
              exact ⟨rfl, F1, F2, ⟨qe _ _ hk2.1, qe _ _ hk2.2⟩, rfl⟩)
          · try (exfalso; omega)
            all_goals (
              refine k_aload_n C dX0_dropFirst_15 rfl ?_
              refine k_get C (k := 1) inX0 (ci := 0) rfl (by decide) fl_X0_9 dX0_dropFirst_16 (by repeat (first | exact hs_eq _ _ _ | refine hs_ne (by omega) ?_ | assumption)) rfl ?_
              refine k_iload_n C dX0_dropFirst_19 rfl ?_
              refine k_iconst C dX0_dropFirst_20 ?_
              refine k_isub C dX0_dropFirst_21 ?_
              refine k_aload_n C dX0_dropFirst_22 rfl ?_
              refine k_get C (k := 1) inX0 (ci := 0) rfl (by decide) fl_X0_9 dX0_dropFirst_23 (by repeat (first | exact hs_eq _ _ _ | refine hs_ne (by omega) ?_ | assumption)) rfl ?_
              refine k_iload_n C dX0_dropFirst_26 rfl ?_
              refine k_iaload C dX0_dropFirst_27 (by repeat (first | exact hs_eq _ _ _ | refine hs_ne (by omega) ?_ | assumption)) (by omega) (by omega) (by omega) ?_
              refine k_iastore C dX0_dropFirst_28 (by repeat (first | exact hs_eq _ _ _ | refine hs_ne (by omega) ?_ | assumption)) (by omega) (by omega) (by omega) ?_
              refine k_aload_n C dX0_dropFirst_29 rfl ?_
              refine k_get C (k := 2) inX0 (ci := 0) rfl (by decide) fl_X0_15 dX0_dropFirst_30 (by repeat (first | exact hs_eq _ _ _ | refine hs_ne (by omega) ?_ | assumption)) rfl ?_
              refine k_iload_n C dX0_dropFirst_33 rfl ?_
              refine k_iconst C dX0_dropFirst_34 ?_
              refine k_isub C dX0_dropFirst_35 ?_
              refine k_aload_n C dX0_dropFirst_36 rfl ?_
              refine k_get C (k := 2) inX0 (ci := 0) rfl (by decide) fl_X0_15 dX0_dropFirst_37 (by repeat (first | exact hs_eq _ _ _ | refine hs_ne (by omega) ?_ | assumption)) rfl ?_
              refine k_iload_n C dX0_dropFirst_40 rfl ?_
              refine k_iaload C dX0_dropFirst_41 (by repeat (first | exact hs_eq _ _ _ | refine hs_ne (by omega) ?_ | assumption)) (by omega) (by omega) (by omega) ?_
              refine k_iastore C dX0_dropFirst_42 (by repeat (first | exact hs_eq _ _ _ | refine hs_ne (by omega) ?_ | assumption)) (by omega) (by omega) (by omega) ?_
              refine k_iinc C dX0_dropFirst_43 rfl (by decide) rfl ?_
              refine k_goto (tgt := 2) C dX0_dropFirst_46 (by decide) ?_
              have qs : ∀ FF ff : Int → Int, (∀ jj : Int, 0 ≤ jj → jj < sz → FF jj = if jj + 1 < kk then ff (jj + 1) else ff jj) → ∀ jj : Int, 0 ≤ jj → jj < sz → iu FF (kk - 1) (FF kk) jj = if jj + 1 < kk + 1 then ff (jj + 1) else ff jj := by
                intro FF ff hff jj hj0 hj1
                by_cases hj : jj = kk - 1
                · subst hj
                  rw [iu_eq, hff _ (by omega) (by omega), if_neg (by omega), if_pos (by omega)]
                  congr 1
                  omega
                · rw [iu_ne hj, hff jj hj0 hj1]
                  by_cases hc : jj + 1 < kk
                  · rw [if_pos hc, if_pos (by omega)]
                  · rw [if_neg hc, if_neg (by omega)]
              have q1 := ih (kk + 1) (iu F1 (kk - 1) (F1 kk)) (iu F2 (kk - 1) (F2 kk)) (by omega) (by omega) ⟨qs _ _ hk2.1, qs _ _ hk2.2⟩ (by omega)
              rw [hs2]
              exact q1))
  have qz : ∀ ff : Int → Int, ∀ jj : Int, 0 ≤ jj → jj < sz → ff jj = if jj + 1 < 1 then ff (jj + 1) else ff jj := fun ff jj _ _ => by rw [if_neg (by omega)]
  have q1 := loop2 (sz + 1).toNat 1 f1 f2 (by omega) (by omega) ⟨qz f1, qz f2⟩ (by omega)
  rw [hs_same g1, hs_same g2] at q1
  exact q1

set_option maxRecDepth 20000 in
set_option maxHeartbeats 1000000 in
theorem ct_X0_payFirst (l : Launch) (D : va_G) (tc : Nat → ClassId) (base : Nat) (hpp : AH) (qq : Nat) (f1 f2 : Int → Int) (sz : Int) (g0 : hpp qq = some (eO 0 [aI sz, aR (qq + 1), aR (qq + 2)])) (g1 : hpp (qq + 1) = some (eA 0 4 f1)) (g2 : hpp (qq + 2) = some (eA 0 4 f2)) (pd : Int) (h1 : 1 ≤ sz) (h2 : sz ≤ 4) (h3 : r32 (f2 0 - pd)) : CT l D tc base yX0_payFirst cX0_payFirst 2 none 1 [aR qq, aI pd] hpp (fun r h' => r = none ∧ ((f2 0 - pd = 0 ∧ ∃ F1 F2 : Int → Int, ((∀ jj : Int, 0 ≤ jj → jj < sz - 1 → F1 jj = f1 (jj + 1)) ∧ (∀ jj : Int, 0 ≤ jj → jj < sz - 1 → F2 jj = f2 (jj + 1))) ∧ h' = hs (hs (hs hpp (qq + 1) (eA 0 4 F1)) (qq + 2) (eA 0 4 F2)) qq (eO 0 [aI (sz - 1), aR (qq + 1), aR (qq + 2)])) ∨ (¬ f2 0 - pd = 0 ∧ h' = hs hpp (qq + 2) (eA 0 4 (iu f2 0 (f2 0 - pd)))))) := by
  refine CT.of [some (aR qq), some (aI pd)] (by decide +kernel) rfl (Nat.le_of_ble_eq_true rfl) ?_
  intro p e s m args below meth c C hr hnm
  refine k_aload_n C dX0_payFirst_0 rfl ?_
  refine k_get C (k := 2) inX0 (ci := 0) rfl (by decide) fl_X0_15 dX0_payFirst_1 (by repeat (first | exact hs_eq _ _ _ | refine hs_ne (by omega) ?_ | assumption)) rfl ?_
  refine k_iconst C dX0_payFirst_4 ?_
  refine k_dup2 C dX0_payFirst_5 rfl rfl ?_
  refine k_iaload C dX0_payFirst_6 (by repeat (first | exact hs_eq _ _ _ | refine hs_ne (by omega) ?_ | assumption)) (by omega) (by omega) (by omega) ?_
  refine k_iload_n C dX0_payFirst_7 rfl ?_
  refine k_isub C dX0_payFirst_8 ?_
  refine k_iastore C dX0_payFirst_9 (by repeat (first | exact hs_eq _ _ _ | refine hs_ne (by omega) ?_ | assumption)) (by omega) (by omega) (by omega) ?_
  refine k_aload_n C dX0_payFirst_10 rfl ?_
  refine k_get C (k := 2) inX0 (ci := 0) rfl (by decide) fl_X0_15 dX0_payFirst_11 (by repeat (first | exact hs_eq _ _ _ | refine hs_ne (by omega) ?_ | assumption)) rfl ?_
  refine k_iconst C dX0_payFirst_14 ?_
  refine k_iaload C dX0_payFirst_15 (by repeat (first | exact hs_eq _ _ _ | refine hs_ne (by omega) ?_ | assumption)) (by omega) (by omega) (by omega) ?_
  try simp only [iu_eq]
  refine k_if_ne (tgt := 23) C dX0_payFirst_16 (by decide) ⟨by omega, by omega⟩ (fun c16 => ?_) (fun c16 => ?_)
  · try (exfalso; omega)
    all_goals (
      refine k_vret C hr dX0_payFirst_23 ?_
      first
        | exact ⟨rfl, Or.inr ⟨by omega, rfl⟩⟩
        | (refine ⟨rfl, Or.inl ⟨by omega, F1, F2, ⟨hF.1, fun jj hj0 hj1 => ?_⟩, ?_⟩⟩
           · rw [hF.2 jj hj0 hj1, iu_ne (by omega)]
           · funext aaa
             simp only [hs]
             (repeat' split) <;> first | rfl | contradiction))
  · try (exfalso; omega)
    all_goals (
      refine k_aload_n C dX0_payFirst_19 rfl ?_
      refine k_callV C (n := 0) (as := []) (ct_X0_dropFirst l D tc base _ qq f1 (iu f2 0 (f2 0 - pd)) sz (by repeat (first | exact hs_eq _ _ _ | refine hs_ne (by omega) ?_ | assumption)) (by repeat (first | exact hs_eq _ _ _ | refine hs_ne (by omega) ?_ | assumption)) (by repeat (first | exact hs_eq _ _ _ | refine hs_ne (by omega) ?_ | assumption)) h1 h2) ml_X0_22 im_X0_dropFirst se_X0_dropFirst ini_X0 co_X0_dropFirst ⟨rfl, by decide, by decide, by decide +kernel⟩ rfl (ci := 0) rfl (by repeat (first | exact hs_eq _ _ _ | refine hs_ne (by omega) ?_ | assumption)) ⟨by decide, by decide⟩ rfl (Nat.le_of_ble_eq_true rfl) ⟨Nat.zero_le _, Nat.zero_le _⟩ dX0_payFirst_20 ?_
      rintro _ _ ⟨rfl, F1, F2, hF, rfl⟩
      refine k_vret C hr dX0_payFirst_23 ?_
      first
        | exact ⟨rfl, Or.inr ⟨by omega, rfl⟩⟩
        | (refine ⟨rfl, Or.inl ⟨by omega, F1, F2, ⟨hF.1, fun jj hj0 hj1 => ?_⟩, ?_⟩⟩
           · rw [hF.2 jj hj0 hj1, iu_ne (by omega)]
           · funext aaa
             simp only [hs]
             (repeat' split) <;> first | rfl | contradiction))

set_option maxRecDepth 20000 in
set_option maxHeartbeats 1000000 in
theorem ct_X6_whoComes (l : Launch) (D : va_G) (tc : Nat → ClassId) (base : Nat) (hpp : AH) (qq : Nat) (f1 f2 f3 f4 f5 : Int → Int) (sz : Int) (g0 : hpp qq = some (eO 6 [aI sz, aR (qq + 1), aR (qq + 2), aR (qq + 3), aR (qq + 4), aR (qq + 5)])) (g1 : hpp (qq + 1) = some (eA 0 6 f1)) (g2 : hpp (qq + 2) = some (eA 0 6 f2)) (g3 : hpp (qq + 3) = some (eA 0 6 f3)) (g4 : hpp (qq + 4) = some (eA 0 6 f4)) (g5 : hpp (qq + 5) = some (eA 0 6 f5)) (zrr : RZ) (kp : Int) (hi : zInv zrr) (hm : zrr 13 ≤ 100000) (hsz : sz = zrr 21) (hw : ∀ kk : Int, 0 ≤ kk → kk < sz → f1 kk = zrr (22 + 5 * kk) ∧ f4 kk = zrr (22 + 5 * kk + 3)) (hkp : (kp = 1 ∧ 0 < zrr 52 ∧ ¬ zrr 1 = 0) ∨ (kp = 0 ∧ ¬ (0 < zrr 52 ∧ ¬ zrr 1 = 0))) : CT l D tc base yX6_whoComes cX6_whoComes 7 (some .int) 0 [aR qq, aI (zrr 13), aI kp] hpp (fun r h' => r = some (aI (zCom zrr)) ∧ hpp = h') := by
  refine CT.of [some (aR qq), some (aI (zrr 13)), some (aI kp), none, none, none, none] (by decide +kernel) rfl (Nat.le_of_ble_eq_true rfl) ?_
  intro p e s m args below meth c C hr hnm
  obtain ⟨⟨-, -, -, -, -, -, -, g13, g21, -⟩, hwi, -⟩ := id hi
  refine k_iconst C dX6_whoComes_0 ?_
  refine k_istore_n C dX6_whoComes_1 (by decide) rfl ?_
  refine k_iload_n C dX6_whoComes_2 rfl ?_
  refine k_iconst C dX6_whoComes_3 ?_
  refine k_iadd C dX6_whoComes_4 ?_
  refine k_istore C dX6_whoComes_5 (by decide) rfl ?_
  refine k_iconst C dX6_whoComes_7 ?_
  refine k_istore C dX6_whoComes_8 (by decide) rfl ?_
  have loop10 : ∀ (n : Nat) (kk : Nat), (kk : Int) ≤ sz → sz - kk < (n : Int) → Wk D tc base 7 p l e (lvR 0) s m args below meth c 0 0 (MQ below (Qx D tc base (fun r h' => r = some (aI (zCom zrr)) ∧ hpp = h')) args s 0 0 (fun q => base ≤ q)) 10 [some (aR qq), some (aI (zrr 13)), some (aI kp), some (aI (zComN zrr kk)), some (aI (if zComN zrr kk = -1 then zrr 13 + 1 else zrr (22 + 5 * zComN zrr kk + 3))), some (aI kk), none] [] hpp := by
    intro n
    induction n with
    | zero =>
      intro kk hk hmu
      exfalso
      omega
    | succ n ih =>
      intro kk hk hmu
      have hb := zComN_rng zrr kk
      have hbd := zComN_due zrr kk
      have hbr : ¬ zComN zrr kk = -1 → _ := fun hh => hwi (zComN zrr kk) (by omega) (by omega)
      refine k_iload C dX6_whoComes_10 rfl ?_
      refine k_aload_n C dX6_whoComes_12 rfl ?_
      refine k_get C (k := 0) inX6 (ci := 6) rfl (by decide) fl_X6_27 dX6_whoComes_13 (by repeat (first | exact hs_eq _ _ _ | refine hs_ne (by omega) ?_ | assumption)) rfl ?_
      refine k_icmp_ge (tgt := 83) C dX6_whoComes_16 (by decide) ⟨by omega, by omega⟩ ⟨by omega, by omega⟩ (fun c16 => ?_) (fun c16 => ?_)
      · try (exfalso; omega)
        all_goals (
          refine k_iload_n C dX6_whoComes_83 rfl ?_
          refine k_iret C hr dX6_whoComes_84 ?_
          refine ⟨?_, rfl⟩
          have e1 : (zrr 21).toNat = kk := by omega
          unfold zCom
          rw [e1])
      · try (exfalso; omega)
        all_goals (
          have w0 := hwi kk (by omega) (by omega)
          have w1 := hw kk (by omega) (by omega)
          refine k_iload C dX6_whoComes_19 rfl ?_
          refine k_bipush C dX6_whoComes_21 (by decide +kernel) ?_
          refine k_icmp_ge (tgt := 83) C dX6_whoComes_23 (by decide) ⟨by omega, by omega⟩ ⟨by omega, by omega⟩ (fun c23 => ?_) (fun c23 => ?_)
          · try (exfalso; omega)
            all_goals (
              refine k_iload_n C dX6_whoComes_83 rfl ?_
              refine k_iret C hr dX6_whoComes_84 ?_
              refine ⟨?_, rfl⟩
              have e1 : (zrr 21).toNat = kk := by omega
              unfold zCom
              rw [e1])
          · try (exfalso; omega)
            all_goals (
              refine k_iload_n C dX6_whoComes_26 rfl ?_
              refine k_if_eq (tgt := 45) C dX6_whoComes_27 (by decide) ⟨by omega, by omega⟩ (fun c27 => ?_) (fun c27 => ?_)
              · try (exfalso; omega)
                all_goals (
                  refine k_iconst C dX6_whoComes_45 ?_
                  refine k_istore C dX6_whoComes_46 (by decide) rfl ?_
                  refine k_iload C dX6_whoComes_48 rfl ?_
                  refine k_if_ne (tgt := 77) C dX6_whoComes_50 (by decide) ⟨by omega, by omega⟩ (fun c50 => ?_) (fun c50 => ?_)
                  · try (exfalso; omega)
                    all_goals (
                      refine k_iinc C dX6_whoComes_77 rfl (by decide) rfl ?_
                      refine k_goto (tgt := 10) C dX6_whoComes_80 (by decide) ?_
                      have e2 : ((kk + 1 : Nat) : Int) = (kk : Int) + 1 := by omega
                      have q1 := ih (kk + 1) (by omega) (by omega)
                      first
                        | (have e1 : zComN zrr (kk + 1) = (kk : Int) := by
                             show (if zBetter zrr (zComN zrr kk) kk then (kk : Int) else zComN zrr kk) = _
                             rw [if_pos (by omega)]
                           rw [e1, if_neg (by omega), e2, ← (hw kk (by omega) (by omega)).2] at q1
                           exact k_sub q1 (And.intro rfl (And.intro rfl (And.intro rfl (And.intro rfl (And.intro rfl (And.intro rfl trivial)))))))
                        | (have e1 : zComN zrr (kk + 1) = zComN zrr kk := by
                             show (if zBetter zrr (zComN zrr kk) kk then (kk : Int) else zComN zrr kk) = _
                             rw [if_neg (by omega)]
                           rw [e1, e2] at q1
                           exact k_sub q1 (And.intro rfl (And.intro rfl (And.intro rfl (And.intro rfl (And.intro rfl (And.intro rfl trivial))))))))
                  · try (exfalso; omega)
                    all_goals (
                      refine k_aload_n C dX6_whoComes_53 rfl ?_
                      refine k_get C (k := 4) inX6 (ci := 6) rfl (by decide) fl_X6_21 dX6_whoComes_54 (by repeat (first | exact hs_eq _ _ _ | refine hs_ne (by omega) ?_ | assumption)) rfl ?_
                      refine k_iload C dX6_whoComes_57 rfl ?_
                      refine k_iaload C dX6_whoComes_59 (by repeat (first | exact hs_eq _ _ _ | refine hs_ne (by omega) ?_ | assumption)) (by omega) (by omega) (by omega) ?_
                      refine k_iload C dX6_whoComes_60 rfl ?_
                      have w3 := hbr
                      refine k_icmp_ge (tgt := 77) C dX6_whoComes_62 (by decide) ⟨by omega, by omega⟩ ⟨by omega, by omega⟩ (fun c62 => ?_) (fun c62 => ?_)
                      · try (exfalso; omega)
                        all_goals (
                          refine k_iinc C dX6_whoComes_77 rfl (by decide) rfl ?_
                          refine k_goto (tgt := 10) C dX6_whoComes_80 (by decide) ?_
                          have e2 : ((kk + 1 : Nat) : Int) = (kk : Int) + 1 := by omega
                          have q1 := ih (kk + 1) (by omega) (by omega)
                          first
                            | (have e1 : zComN zrr (kk + 1) = (kk : Int) := by
                                 show (if zBetter zrr (zComN zrr kk) kk then (kk : Int) else zComN zrr kk) = _
                                 rw [if_pos (by omega)]
                               rw [e1, if_neg (by omega), e2, ← (hw kk (by omega) (by omega)).2] at q1
                               exact k_sub q1 (And.intro rfl (And.intro rfl (And.intro rfl (And.intro rfl (And.intro rfl (And.intro rfl trivial)))))))
                            | (have e1 : zComN zrr (kk + 1) = zComN zrr kk := by
                                 show (if zBetter zrr (zComN zrr kk) kk then (kk : Int) else zComN zrr kk) = _
                                 rw [if_neg (by omega)]
                               rw [e1, e2] at q1
                               exact k_sub q1 (And.intro rfl (And.intro rfl (And.intro rfl (And.intro rfl (And.intro rfl (And.intro rfl trivial))))))))
                      · try (exfalso; omega)
                        all_goals (
                          refine k_iload C dX6_whoComes_65 rfl ?_
                          refine k_istore_n C dX6_whoComes_67 (by decide) rfl ?_
                          refine k_aload_n C dX6_whoComes_68 rfl ?_
                          refine k_get C (k := 4) inX6 (ci := 6) rfl (by decide) fl_X6_21 dX6_whoComes_69 (by repeat (first | exact hs_eq _ _ _ | refine hs_ne (by omega) ?_ | assumption)) rfl ?_
                          refine k_iload C dX6_whoComes_72 rfl ?_
                          refine k_iaload C dX6_whoComes_74 (by repeat (first | exact hs_eq _ _ _ | refine hs_ne (by omega) ?_ | assumption)) (by omega) (by omega) (by omega) ?_
                          refine k_istore C dX6_whoComes_75 (by decide) rfl ?_
                          refine k_iinc C dX6_whoComes_77 rfl (by decide) rfl ?_
                          refine k_goto (tgt := 10) C dX6_whoComes_80 (by decide) ?_
                          have e2 : ((kk + 1 : Nat) : Int) = (kk : Int) + 1 := by omega
                          have q1 := ih (kk + 1) (by omega) (by omega)
                          first
                            | (have e1 : zComN zrr (kk + 1) = (kk : Int) := by
                                 show (if zBetter zrr (zComN zrr kk) kk then (kk : Int) else zComN zrr kk) = _
                                 rw [if_pos (by omega)]
                               rw [e1, if_neg (by omega), e2, ← (hw kk (by omega) (by omega)).2] at q1
                               exact k_sub q1 (And.intro rfl (And.intro rfl (And.intro rfl (And.intro rfl (And.intro rfl (And.intro rfl trivial)))))))
                            | (have e1 : zComN zrr (kk + 1) = zComN zrr kk := by
                                 show (if zBetter zrr (zComN zrr kk) kk then (kk : Int) else zComN zrr kk) = _
                                 rw [if_neg (by omega)]
                               rw [e1, e2] at q1
                               exact k_sub q1 (And.intro rfl (And.intro rfl (And.intro rfl (And.intro rfl (And.intro rfl (And.intro rfl trivial))))))))))
              · try (exfalso; omega)
                all_goals (
                  refine k_aload_n C dX6_whoComes_30 rfl ?_
                  refine k_get C (k := 1) inX6 (ci := 6) rfl (by decide) fl_X6_9 dX6_whoComes_31 (by repeat (first | exact hs_eq _ _ _ | refine hs_ne (by omega) ?_ | assumption)) rfl ?_
                  refine k_iload C dX6_whoComes_34 rfl ?_
                  refine k_iaload C dX6_whoComes_36 (by repeat (first | exact hs_eq _ _ _ | refine hs_ne (by omega) ?_ | assumption)) (by omega) (by omega) (by omega) ?_
                  refine k_iconst C dX6_whoComes_37 ?_
                  refine k_icmp_ne (tgt := 45) C dX6_whoComes_38 (by decide) ⟨by omega, by omega⟩ ⟨by omega, by omega⟩ (fun c38 => ?_) (fun c38 => ?_)
                  · try (exfalso; omega)
                    all_goals (
                      refine k_iconst C dX6_whoComes_45 ?_
                      refine k_istore C dX6_whoComes_46 (by decide) rfl ?_
                      refine k_iload C dX6_whoComes_48 rfl ?_
                      refine k_if_ne (tgt := 77) C dX6_whoComes_50 (by decide) ⟨by omega, by omega⟩ (fun c50 => ?_) (fun c50 => ?_)
                      · try (exfalso; omega)
                        all_goals (
                          refine k_iinc C dX6_whoComes_77 rfl (by decide) rfl ?_
                          refine k_goto (tgt := 10) C dX6_whoComes_80 (by decide) ?_
                          have e2 : ((kk + 1 : Nat) : Int) = (kk : Int) + 1 := by omega
                          have q1 := ih (kk + 1) (by omega) (by omega)
                          first
                            | (have e1 : zComN zrr (kk + 1) = (kk : Int) := by
                                 show (if zBetter zrr (zComN zrr kk) kk then (kk : Int) else zComN zrr kk) = _
                                 rw [if_pos (by omega)]
                               rw [e1, if_neg (by omega), e2, ← (hw kk (by omega) (by omega)).2] at q1
                               exact k_sub q1 (And.intro rfl (And.intro rfl (And.intro rfl (And.intro rfl (And.intro rfl (And.intro rfl trivial)))))))
                            | (have e1 : zComN zrr (kk + 1) = zComN zrr kk := by
                                 show (if zBetter zrr (zComN zrr kk) kk then (kk : Int) else zComN zrr kk) = _
                                 rw [if_neg (by omega)]
                               rw [e1, e2] at q1
                               exact k_sub q1 (And.intro rfl (And.intro rfl (And.intro rfl (And.intro rfl (And.intro rfl (And.intro rfl trivial))))))))
                      · try (exfalso; omega)
                        all_goals (
                          refine k_aload_n C dX6_whoComes_53 rfl ?_
                          refine k_get C (k := 4) inX6 (ci := 6) rfl (by decide) fl_X6_21 dX6_whoComes_54 (by repeat (first | exact hs_eq _ _ _ | refine hs_ne (by omega) ?_ | assumption)) rfl ?_
                          refine k_iload C dX6_whoComes_57 rfl ?_
                          refine k_iaload C dX6_whoComes_59 (by repeat (first | exact hs_eq _ _ _ | refine hs_ne (by omega) ?_ | assumption)) (by omega) (by omega) (by omega) ?_
                          refine k_iload C dX6_whoComes_60 rfl ?_
                          have w3 := hbr
                          refine k_icmp_ge (tgt := 77) C dX6_whoComes_62 (by decide) ⟨by omega, by omega⟩ ⟨by omega, by omega⟩ (fun c62 => ?_) (fun c62 => ?_)
                          · try (exfalso; omega)
                            all_goals (
                              refine k_iinc C dX6_whoComes_77 rfl (by decide) rfl ?_
                              refine k_goto (tgt := 10) C dX6_whoComes_80 (by decide) ?_
                              have e2 : ((kk + 1 : Nat) : Int) = (kk : Int) + 1 := by omega
                              have q1 := ih (kk + 1) (by omega) (by omega)
                              first
                                | (have e1 : zComN zrr (kk + 1) = (kk : Int) := by
                                     show (if zBetter zrr (zComN zrr kk) kk then (kk : Int) else zComN zrr kk) = _
                                     rw [if_pos (by omega)]
                                   rw [e1, if_neg (by omega), e2, ← (hw kk (by omega) (by omega)).2] at q1
                                   exact k_sub q1 (And.intro rfl (And.intro rfl (And.intro rfl (And.intro rfl (And.intro rfl (And.intro rfl trivial)))))))
                                | (have e1 : zComN zrr (kk + 1) = zComN zrr kk := by
                                     show (if zBetter zrr (zComN zrr kk) kk then (kk : Int) else zComN zrr kk) = _
                                     rw [if_neg (by omega)]
                                   rw [e1, e2] at q1
                                   exact k_sub q1 (And.intro rfl (And.intro rfl (And.intro rfl (And.intro rfl (And.intro rfl (And.intro rfl trivial))))))))
                          · try (exfalso; omega)
                            all_goals (
                              refine k_iload C dX6_whoComes_65 rfl ?_
                              refine k_istore_n C dX6_whoComes_67 (by decide) rfl ?_
                              refine k_aload_n C dX6_whoComes_68 rfl ?_
                              refine k_get C (k := 4) inX6 (ci := 6) rfl (by decide) fl_X6_21 dX6_whoComes_69 (by repeat (first | exact hs_eq _ _ _ | refine hs_ne (by omega) ?_ | assumption)) rfl ?_
                              refine k_iload C dX6_whoComes_72 rfl ?_
                              refine k_iaload C dX6_whoComes_74 (by repeat (first | exact hs_eq _ _ _ | refine hs_ne (by omega) ?_ | assumption)) (by omega) (by omega) (by omega) ?_
                              refine k_istore C dX6_whoComes_75 (by decide) rfl ?_
                              refine k_iinc C dX6_whoComes_77 rfl (by decide) rfl ?_
                              refine k_goto (tgt := 10) C dX6_whoComes_80 (by decide) ?_
                              have e2 : ((kk + 1 : Nat) : Int) = (kk : Int) + 1 := by omega
                              have q1 := ih (kk + 1) (by omega) (by omega)
                              first
                                | (have e1 : zComN zrr (kk + 1) = (kk : Int) := by
                                     show (if zBetter zrr (zComN zrr kk) kk then (kk : Int) else zComN zrr kk) = _
                                     rw [if_pos (by omega)]
                                   rw [e1, if_neg (by omega), e2, ← (hw kk (by omega) (by omega)).2] at q1
                                   exact k_sub q1 (And.intro rfl (And.intro rfl (And.intro rfl (And.intro rfl (And.intro rfl (And.intro rfl trivial)))))))
                                | (have e1 : zComN zrr (kk + 1) = zComN zrr kk := by
                                     show (if zBetter zrr (zComN zrr kk) kk then (kk : Int) else zComN zrr kk) = _
                                     rw [if_neg (by omega)]
                                   rw [e1, e2] at q1
                                   exact k_sub q1 (And.intro rfl (And.intro rfl (And.intro rfl (And.intro rfl (And.intro rfl (And.intro rfl trivial))))))))))
                  · try (exfalso; omega)
                    all_goals (
                      refine k_iconst C dX6_whoComes_41 ?_
                      refine k_goto (tgt := 46) C dX6_whoComes_42 (by decide) ?_
                      refine k_istore C dX6_whoComes_46 (by decide) rfl ?_
                      refine k_iload C dX6_whoComes_48 rfl ?_
                      refine k_if_ne (tgt := 77) C dX6_whoComes_50 (by decide) ⟨by omega, by omega⟩ (fun c50 => ?_) (fun c50 => ?_)
                      · try (exfalso; omega)
                        all_goals (
                          refine k_iinc C dX6_whoComes_77 rfl (by decide) rfl ?_
                          refine k_goto (tgt := 10) C dX6_whoComes_80 (by decide) ?_
                          have e2 : ((kk + 1 : Nat) : Int) = (kk : Int) + 1 := by omega
                          have q1 := ih (kk + 1) (by omega) (by omega)
                          first
                            | (have e1 : zComN zrr (kk + 1) = (kk : Int) := by
                                 show (if zBetter zrr (zComN zrr kk) kk then (kk : Int) else zComN zrr kk) = _
                                 rw [if_pos (by omega)]
                               rw [e1, if_neg (by omega), e2, ← (hw kk (by omega) (by omega)).2] at q1
                               exact k_sub q1 (And.intro rfl (And.intro rfl (And.intro rfl (And.intro rfl (And.intro rfl (And.intro rfl trivial)))))))
                            | (have e1 : zComN zrr (kk + 1) = zComN zrr kk := by
                                 show (if zBetter zrr (zComN zrr kk) kk then (kk : Int) else zComN zrr kk) = _
                                 rw [if_neg (by omega)]
                               rw [e1, e2] at q1
                               exact k_sub q1 (And.intro rfl (And.intro rfl (And.intro rfl (And.intro rfl (And.intro rfl (And.intro rfl trivial))))))))
                      · try (exfalso; omega)
                        all_goals (
                          refine k_aload_n C dX6_whoComes_53 rfl ?_
                          refine k_get C (k := 4) inX6 (ci := 6) rfl (by decide) fl_X6_21 dX6_whoComes_54 (by repeat (first | exact hs_eq _ _ _ | refine hs_ne (by omega) ?_ | assumption)) rfl ?_
                          refine k_iload C dX6_whoComes_57 rfl ?_
                          refine k_iaload C dX6_whoComes_59 (by repeat (first | exact hs_eq _ _ _ | refine hs_ne (by omega) ?_ | assumption)) (by omega) (by omega) (by omega) ?_
                          refine k_iload C dX6_whoComes_60 rfl ?_
                          have w3 := hbr
                          refine k_icmp_ge (tgt := 77) C dX6_whoComes_62 (by decide) ⟨by omega, by omega⟩ ⟨by omega, by omega⟩ (fun c62 => ?_) (fun c62 => ?_)
                          · try (exfalso; omega)
                            all_goals (
                              refine k_iinc C dX6_whoComes_77 rfl (by decide) rfl ?_
                              refine k_goto (tgt := 10) C dX6_whoComes_80 (by decide) ?_
                              have e2 : ((kk + 1 : Nat) : Int) = (kk : Int) + 1 := by omega
                              have q1 := ih (kk + 1) (by omega) (by omega)
                              first
                                | (have e1 : zComN zrr (kk + 1) = (kk : Int) := by
                                     show (if zBetter zrr (zComN zrr kk) kk then (kk : Int) else zComN zrr kk) = _
                                     rw [if_pos (by omega)]
                                   rw [e1, if_neg (by omega), e2, ← (hw kk (by omega) (by omega)).2] at q1
                                   exact k_sub q1 (And.intro rfl (And.intro rfl (And.intro rfl (And.intro rfl (And.intro rfl (And.intro rfl trivial)))))))
                                | (have e1 : zComN zrr (kk + 1) = zComN zrr kk := by
                                     show (if zBetter zrr (zComN zrr kk) kk then (kk : Int) else zComN zrr kk) = _
                                     rw [if_neg (by omega)]
                                   rw [e1, e2] at q1
                                   exact k_sub q1 (And.intro rfl (And.intro rfl (And.intro rfl (And.intro rfl (And.intro rfl (And.intro rfl trivial))))))))
                          · try (exfalso; omega)
                            all_goals (
                              refine k_iload C dX6_whoComes_65 rfl ?_
                              refine k_istore_n C dX6_whoComes_67 (by decide) rfl ?_
                              refine k_aload_n C dX6_whoComes_68 rfl ?_
                              refine k_get C (k := 4) inX6 (ci := 6) rfl (by decide) fl_X6_21 dX6_whoComes_69 (by repeat (first | exact hs_eq _ _ _ | refine hs_ne (by omega) ?_ | assumption)) rfl ?_
                              refine k_iload C dX6_whoComes_72 rfl ?_
                              refine k_iaload C dX6_whoComes_74 (by repeat (first | exact hs_eq _ _ _ | refine hs_ne (by omega) ?_ | assumption)) (by omega) (by omega) (by omega) ?_
                              refine k_istore C dX6_whoComes_75 (by decide) rfl ?_
                              refine k_iinc C dX6_whoComes_77 rfl (by decide) rfl ?_
                              refine k_goto (tgt := 10) C dX6_whoComes_80 (by decide) ?_
                              have e2 : ((kk + 1 : Nat) : Int) = (kk : Int) + 1 := by omega
                              have q1 := ih (kk + 1) (by omega) (by omega)
                              first
                                | (have e1 : zComN zrr (kk + 1) = (kk : Int) := by
                                     show (if zBetter zrr (zComN zrr kk) kk then (kk : Int) else zComN zrr kk) = _
                                     rw [if_pos (by omega)]
                                   rw [e1, if_neg (by omega), e2, ← (hw kk (by omega) (by omega)).2] at q1
                                   exact k_sub q1 (And.intro rfl (And.intro rfl (And.intro rfl (And.intro rfl (And.intro rfl (And.intro rfl trivial)))))))
                                | (have e1 : zComN zrr (kk + 1) = zComN zrr kk := by
                                     show (if zBetter zrr (zComN zrr kk) kk then (kk : Int) else zComN zrr kk) = _
                                     rw [if_neg (by omega)]
                                   rw [e1, e2] at q1
                                   exact k_sub q1 (And.intro rfl (And.intro rfl (And.intro rfl (And.intro rfl (And.intro rfl (And.intro rfl trivial)))))))))))))
  have q1 := loop10 (sz + 1).toNat 0 (by omega) (by omega)
  exact k_sub q1 (And.intro rfl (And.intro rfl (And.intro rfl (And.intro rfl (And.intro rfl (And.intro rfl trivial))))))

