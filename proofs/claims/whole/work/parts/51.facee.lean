set_option maxRecDepth 20000 in
set_option maxHeartbeats 1000000 in
theorem ct_X7_noteGoingRounds (l : Launch) (D : va_G) (tc : Nat → ClassId) (base : Nat) (rc : Nat) (zrr hhi htx : Int → Int) (st ln : Int) (hpp : AH) (hX : XA hpp rc zrr hhi htx st ln) (nn : Nat) (hn : 1 ≤ nn ∧ nn ≤ 720) : CT l D tc base yX7_noteGoingRounds cX7_noteGoingRounds 4 (some .int) 5 [aR rc, aI nn] hpp (fun r h' => r = some (aI (zGs (fun k => zGt (zNt zrr k)) nn)) ∧ XA h' rc (zrr) (hhi) (htx) (st) (ln) ∧ SAt h' (rc + 16) (zNt zrr nn) ∧ (∃ gg : Int → Int, h' (rc + 126) = some (eA 0 720 gg) ∧ (∀ jj : Nat, jj < nn → gg jj = zGt (zNt zrr jj))) ∧ Fr hpp h' rc 127) := by
  refine CT.of [some (aR rc), some (aI nn), none, none] (by decide +kernel) rfl (Nat.le_of_ble_eq_true rfl) ?_
  intro p e s m args below meth c C hr hnm
  obtain ⟨zth, gr, x0, hS, hT, hH, hTx, x5, hok, h13, hst⟩ := id hX
  obtain ⟨ol, ff, hol, hj0, -⟩ := id hH
  obtain ⟨fsn, hsn0⟩ := hS.obj
  have hi := hok.1
  obtain ⟨⟨v0, v1, v2, v9, v10, v11, v12, v13, v21, v52, v61, v62, v63, v64, v65, v66⟩, hwi, hde⟩ := id hi
  obtain ⟨fst0, q0⟩ := hT.obj
  refine k_iconst C dX7_noteGoingRounds_0 ?_
  refine k_istore_n C dX7_noteGoingRounds_1 (by decide) rfl ?_
  refine k_aload_n C dX7_noteGoingRounds_2 rfl ?_
  refine k_get C (k := 1) inX7 (ci := 7) rfl (by decide) fl_X7_16 dX7_noteGoingRounds_3 (by repeat (first | exact hs_eq _ _ _ | refine hs_ne (by omega) ?_ | assumption)) rfl ?_
  refine k_aload_n C dX7_noteGoingRounds_6 rfl ?_
  refine k_get C (k := 0) inX7 (ci := 7) rfl (by decide) fl_X7_10 dX7_noteGoingRounds_7 (by repeat (first | exact hs_eq _ _ _ | refine hs_ne (by omega) ?_ | assumption)) rfl ?_
  refine k_callV C (n := 1) (as := [_]) (ct_X3_copyFrom l D tc base (rc + 16) (rc + 1) zth zrr _ hT hS hi (by omega)) ml_X7_242 im_X3_copyFrom se_X3_copyFrom ini_X3 co_X3_copyFrom ⟨rfl, by decide, by decide, by decide +kernel⟩ rfl (ci := 3) rfl (by repeat (first | exact hs_eq _ _ _ | refine hs_ne (by omega) ?_ | assumption)) ⟨by decide, by decide⟩ rfl (Nat.le_of_ble_eq_true rfl) ⟨Nat.zero_le _, Nat.zero_le _⟩ dX7_noteGoingRounds_10 ?_
  rintro _ hcp ⟨rfl, hSc, hFc⟩
  have hXc := hX.trial hFc hSc
  obtain ⟨fsc, q1⟩ := hSc.obj
  obtain ⟨ztc, grc, x0c, hS2, -, -, -, x5c, -⟩ := id hXc
  refine k_iconst C dX7_noteGoingRounds_13 ?_
  refine k_istore_n C dX7_noteGoingRounds_14 (by decide) rfl ?_
  have loop15 : ∀ (n : Nat) (kk : Nat) (hkk : AH) (gg : Int → Int), kk ≤ nn → XA hkk rc zrr hhi htx st ln → SAt hkk (rc + 16) (zNt zrr kk) → hkk (rc + 126) = some (eA 0 720 gg) → (∀ jj : Nat, jj < kk → gg jj = zGt (zNt zrr jj)) → Fr hpp hkk rc 127 → (nn : Int) - kk < (n : Int) → Wk D tc base 4 p l e (lvR 5) s m args below meth c 0 0 (MQ below (Qx D tc base (fun r h' => r = some (aI (zGs (fun k => zGt (zNt zrr k)) nn)) ∧ XA h' rc (zrr) (hhi) (htx) (st) (ln) ∧ SAt h' (rc + 16) (zNt zrr nn) ∧ (∃ gg : Int → Int, h' (rc + 126) = some (eA 0 720 gg) ∧ (∀ jj : Nat, jj < nn → gg jj = zGt (zNt zrr jj))) ∧ Fr hpp h' rc 127)) args s 0 0 (fun q => base ≤ q)) 15 [some (aR rc), some (aI nn), some (aI (zGs (fun k => zGt (zNt zrr k)) kk)), some (aI kk)] [] hkk := by
    intro n
    induction n with
    | zero =>
      intro kk hkk gg hk hXk hSk y5 hgg hFk hmu
      exfalso
      omega
    | succ n ih =>
      intro kk hkk gg hk hXk hSk y5 hgg hFk hmu
      have hzg := zOk_nt hok kk
      obtain ⟨ztk, grk, y0, hS2k, -⟩ := id hXk
      obtain ⟨fsk, q3⟩ := hSk.obj
      have hok9 := zOk_9 hzg.1 (v := 1) (by omega)
      have hgt := zGt_rng hzg.1.1
      obtain ⟨f1, f2, f3, w1, w2, w3, w4, w5, d1, d2, se, ⟨g0, g1, g2, g3, g4, g5, g6, g7, g8, g9, g10, g11, g12, g13, g14⟩, hsr⟩ := id hSk
      obtain ⟨r1, r2, r3, r4⟩ := id hsr
      refine k_iload_n C dX7_noteGoingRounds_15 rfl ?_
      refine k_iload_n C dX7_noteGoingRounds_16 rfl ?_
      refine k_icmp_ge (tgt := 72) C dX7_noteGoingRounds_17 (by decide) ⟨by omega, by omega⟩ ⟨by omega, by omega⟩ (fun c17 => ?_) (fun c17 => ?_)
      · try (exfalso; omega)
        all_goals (
          refine k_iload_n C dX7_noteGoingRounds_72 rfl ?_
          refine k_iret C hr dX7_noteGoingRounds_73 ?_
          have e1 : kk = nn := by omega
          subst e1
          exact ⟨rfl, hXk, hSk, ⟨gg, y5, hgg⟩, hFk⟩)
      · try (exfalso; omega)
        all_goals (
          refine k_iload_n C dX7_noteGoingRounds_20 rfl ?_
          refine k_aload_n C dX7_noteGoingRounds_21 rfl ?_
          refine k_get C (k := 4) inX7 (ci := 7) rfl (by decide) fl_X7_33 dX7_noteGoingRounds_22 (by repeat (first | exact hs_eq _ _ _ | refine hs_ne (by omega) ?_ | assumption)) rfl ?_
          refine k_alen C dX7_noteGoingRounds_25 y5 ?_
          refine k_icmp_ge (tgt := 72) C dX7_noteGoingRounds_26 (by decide) ⟨by omega, by omega⟩ ⟨by omega, by omega⟩ (fun c26 => ?_) (fun c26 => ?_)
          · try (exfalso; omega)
            all_goals (
              refine k_iload_n C dX7_noteGoingRounds_72 rfl ?_
              refine k_iret C hr dX7_noteGoingRounds_73 ?_
              have e1 : kk = nn := by omega
              subst e1
              exact ⟨rfl, hXk, hSk, ⟨gg, y5, hgg⟩, hFk⟩)
          · try (exfalso; omega)
            all_goals (
              refine k_aload_n C dX7_noteGoingRounds_29 rfl ?_
              refine k_get C (k := 4) inX7 (ci := 7) rfl (by decide) fl_X7_33 dX7_noteGoingRounds_30 (by repeat (first | exact hs_eq _ _ _ | refine hs_ne (by omega) ?_ | assumption)) rfl ?_
              refine k_iload_n C dX7_noteGoingRounds_33 rfl ?_
              refine k_aload_n C dX7_noteGoingRounds_34 rfl ?_
              refine k_get C (k := 1) inX7 (ci := 7) rfl (by decide) fl_X7_16 dX7_noteGoingRounds_35 (by repeat (first | exact hs_eq _ _ _ | refine hs_ne (by omega) ?_ | assumption)) rfl ?_
              refine k_callV C (n := 0) (as := []) (ct_X3_goingTurnsThatCome l D tc base (rc + 16) (zNt zrr kk) _ hSk hzg.1.1 (by omega)) ml_X7_315 im_X3_goingTurnsThatCome se_X3_goingTurnsThatCome ini_X3 co_X3_goingTurnsThatCome ⟨rfl, by decide, by decide, by decide +kernel⟩ rfl (ci := 3) rfl (by repeat (first | exact hs_eq _ _ _ | refine hs_ne (by omega) ?_ | assumption)) ⟨by decide, by decide⟩ rfl (Nat.le_of_ble_eq_true rfl) ⟨Nat.zero_le _, Nat.zero_le _⟩ dX7_noteGoingRounds_38 ?_
              rintro _ _ ⟨rfl, rfl⟩
              refine k_iastore C dX7_noteGoingRounds_41 (by repeat (first | exact hs_eq _ _ _ | refine hs_ne (by omega) ?_ | assumption)) (by omega) (by omega) (by omega) ?_
              refine k_iload_n C dX7_noteGoingRounds_42 rfl ?_
              refine k_aload_n C dX7_noteGoingRounds_43 rfl ?_
              refine k_get C (k := 4) inX7 (ci := 7) rfl (by decide) fl_X7_33 dX7_noteGoingRounds_44 (by repeat (first | exact hs_eq _ _ _ | refine hs_ne (by omega) ?_ | assumption)) rfl ?_
              refine k_iload_n C dX7_noteGoingRounds_47 rfl ?_
              refine k_iaload C dX7_noteGoingRounds_48 (by repeat (first | exact hs_eq _ _ _ | refine hs_ne (by omega) ?_ | assumption)) (by omega) (by omega) (by omega) ?_
              rw [iu_eq]
              refine k_iadd C dX7_noteGoingRounds_49 ?_
              refine k_istore_n C dX7_noteGoingRounds_50 (by decide) rfl ?_
              refine k_aload_n C dX7_noteGoingRounds_51 rfl ?_
              refine k_get C (k := 1) inX7 (ci := 7) rfl (by decide) fl_X7_16 dX7_noteGoingRounds_52 (by repeat (first | exact hs_eq _ _ _ | refine hs_ne (by omega) ?_ | assumption)) rfl ?_
              refine k_iconst C dX7_noteGoingRounds_55 ?_
              refine k_put C (k := 6) inX3 tyX3_ok nmX3 (ci := 3) rfl (by decide) fl_X7_71 rfl (Nat.le_of_ble_eq_true rfl) dX7_noteGoingRounds_56 (by repeat (first | exact hs_eq _ _ _ | refine hs_ne (by omega) ?_ | assumption)) ?_
              have hSq : SAt (hs (hs hkk (rc + 126) (eA 0 720 (iu gg kk (zGt (zNt zrr kk))))) (rc + 16) (eO 3 [aR (rc + 16 + 1), aR (rc + 16 + 5), aR (rc + 16 + 11), aR (rc + 16 + 14), aI (zNt zrr kk 13), aI (zNt zrr kk 10), aI 1, aI (zNt zrr kk 11), aI (zNt zrr kk 12), aI (zNt zrr kk 14), aI (zNt zrr kk 15), aI (zNt zrr kk 16), aI (zNt zrr kk 17), aI (zNt zrr kk 18), aI (zNt zrr kk 19), aI (zNt zrr kk 20)])) (rc + 16) (iu (zNt zrr kk) 9 1) := by
                refine ⟨f1, f2, f3, w1, w2, w3, w4, w5, d1, d2, se, ⟨by (try simp (disch := omega) only [iu_ne, iu_eq, zWind_ne, zTake_ne, zChim_ne, zChim_16]); repeat (first | exact hs_eq _ _ _ | refine hs_ne (by omega) ?_ | assumption), (by repeat (first | exact hs_eq _ _ _ | refine hs_ne (by omega) ?_ | assumption)), (by repeat (first | exact hs_eq _ _ _ | refine hs_ne (by omega) ?_ | assumption)), (by repeat (first | exact hs_eq _ _ _ | refine hs_ne (by omega) ?_ | assumption)), (by repeat (first | exact hs_eq _ _ _ | refine hs_ne (by omega) ?_ | assumption)), by (try simp (disch := omega) only [iu_ne, iu_eq, zWind_ne, zTake_ne, zChim_ne, zChim_16]); repeat (first | exact hs_eq _ _ _ | refine hs_ne (by omega) ?_ | assumption), (by repeat (first | exact hs_eq _ _ _ | refine hs_ne (by omega) ?_ | assumption)), (by repeat (first | exact hs_eq _ _ _ | refine hs_ne (by omega) ?_ | assumption)), (by repeat (first | exact hs_eq _ _ _ | refine hs_ne (by omega) ?_ | assumption)), (by repeat (first | exact hs_eq _ _ _ | refine hs_ne (by omega) ?_ | assumption)), (by repeat (first | exact hs_eq _ _ _ | refine hs_ne (by omega) ?_ | assumption)), by (try simp (disch := omega) only [iu_ne, iu_eq, zWind_ne, zTake_ne, zChim_ne, zChim_16]); repeat (first | exact hs_eq _ _ _ | refine hs_ne (by omega) ?_ | assumption), (by repeat (first | exact hs_eq _ _ _ | refine hs_ne (by omega) ?_ | assumption)), (by repeat (first | exact hs_eq _ _ _ | refine hs_ne (by omega) ?_ | assumption)), (by repeat (first | exact hs_eq _ _ _ | refine hs_ne (by omega) ?_ | assumption))⟩, ?_⟩
                exact hsr.free (by omega)
              refine k_aload_n C dX7_noteGoingRounds_59 rfl ?_
              refine k_get C (k := 1) inX7 (ci := 7) rfl (by decide) fl_X7_16 dX7_noteGoingRounds_60 (by repeat (first | exact hs_eq _ _ _ | refine hs_ne (by omega) ?_ | assumption)) rfl ?_
              refine k_callV C (n := 0) (as := []) (ct_X3_passMinute l D tc base (rc + 16) (iu (zNt zrr kk) 9 1) _ hSq hok9.1 (by rw [iu_ne (by omega)]; omega) hok9.2) ml_X7_258 im_X3_passMinute se_X3_passMinute ini_X3 co_X3_passMinute ⟨rfl, by decide, by decide, by decide +kernel⟩ rfl (ci := 3) rfl (by repeat (first | exact hs_eq _ _ _ | refine hs_ne (by omega) ?_ | assumption)) ⟨by decide, by decide⟩ rfl (Nat.le_of_ble_eq_true rfl) ⟨Nat.zero_le _, Nat.zero_le _⟩ dX7_noteGoingRounds_63 ?_
              rintro _ hpm ⟨rfl, hSp, hFp⟩
              have y0p := (hFp rc (by omega)).trans (hs_ne (by omega) (hs_ne (by omega) y0))
              have y5p := (hFp (rc + 126) (by omega)).trans (hs_ne (by omega) (hs_eq _ _ _))
              refine k_iinc C dX7_noteGoingRounds_66 rfl (by decide) rfl ?_
              refine k_goto (tgt := 15) C dX7_noteGoingRounds_69 (by decide) ?_
              have e2 : ((kk + 1 : Nat) : Int) = (kk : Int) + 1 := by omega
              have hgn : ∀ jj : Nat, jj < kk + 1 → iu gg kk (zGt (zNt zrr kk)) jj = zGt (zNt zrr jj) := fun jj hj => by
                by_cases hjk : jj = kk
                · subst hjk
                  exact iu_eq _ _ _
                · rw [iu_ne (by omega)]
                  exact hgg jj (by omega)
              have hXa := hXk.rounds (h' := hs hkk (rc + 126) (eA 0 720 (iu gg kk (zGt (zNt zrr kk))))) (fun a ha => hs_ne (by omega) rfl) (hs_eq _ _ _)
              have hXq := hXa.trial (fun aaa haa => hs_ne (by omega) rfl) hSq
              have q1 := ih (kk + 1) _ (iu gg kk (zGt (zNt zrr kk))) (by omega) (hXq.trial hFp hSp) hSp y5p hgn (hFk.tr (fun a ha => (hFp a (by omega)).trans (hs_ne (by omega) (hs_ne (by omega) rfl)))) (by omega)
              rw [e2] at q1
              exact q1))
  exact loop15 721 0 _ _ (by omega) hXc hSc x5c (fun jj hj => by omega) (hFc.wide (by omega) (by omega)) (by omega)
