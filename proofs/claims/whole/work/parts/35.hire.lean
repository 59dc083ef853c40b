set_option maxRecDepth 20000 in
set_option maxHeartbeats 1000000 in
theorem ct_X4_isListOfRounds (l : Launch) (D : va_G) (tc : Nat → ClassId) (base : Nat) (tt : Nat) (ln : Int) (htx : Int → Int) (hpp : AH) (hT : TxA hpp tt ln htx) (hro : Int → Int) : CT l D tc base yX4_isListOfRounds cX4_isListOfRounds 1 (some .boolean) 4 [aR tt] hpp (fun r h' => ((r = some (aI 1) ∧ pWhole htx hro ln.toNat) ∨ (r = some (aI 0) ∧ ¬ pWhole htx hro ln.toNat)) ∧ TxA h' tt ln htx ∧ Fr hpp h' tt 3) := by
  refine CT.of [some (aR tt)] (by decide +kernel) rfl (Nat.le_of_ble_eq_true rfl) ?_
  intro p e s m args below meth c C hr hnm
  obtain ⟨sg, g0, g1, hln, hsg, ra, rb, rc, rd, g2⟩ := id hT
  refine k_aload_n C dX4_isListOfRounds_0 rfl ?_
  refine k_callV C (n := 0) (as := []) (ct_X4_readToError l D tc base tt ln htx _ hT hro) ml_X4_33 im_X4_readToError se_X4_readToError ini_X4 co_X4_readToError ⟨rfl, by decide, by decide, by decide +kernel⟩ rfl (ci := 4) rfl (by repeat (first | exact hs_eq _ _ _ | refine hs_ne (by omega) ?_ | assumption)) ⟨by decide, by decide⟩ rfl (Nat.le_of_ble_eq_true rfl) ⟨Nat.zero_le _, Nat.zero_le _⟩ dX4_isListOfRounds_1 ?_
  rintro _ hrr ⟨nn, rfl, hn1, hpf, hn3, hFk⟩
  have k0 := (hFk tt (by omega)).trans g0
  have k1 := (hFk (tt + 1) (by omega)).trans g1
  have hpi := pInv_run hpf
  have hcell : ∃ a b c d : Int, hrr (tt + 2) = some (eO 2 [aI a, aI b, aI c, aI d]) := by
    rcases hn3 with ⟨-, a, b, c, q2, -⟩ | ⟨-, -, q2⟩
    · exact ⟨_, a, b, c, q2⟩
    · exact q2
  have hTx : TxA hrr tt ln htx := ⟨sg, k0, k1, hln, hsg, hcell⟩
  have hFx : Fr hpp hrr tt 3 := fun a ha => hFk a (by omega)
  refine k_aload_n C dX4_isListOfRounds_4 rfl ?_
  refine k_get C (k := 0) inX4 (ci := 4) rfl (by decide) fl_X4_22 dX4_isListOfRounds_5 (by repeat (first | exact hs_eq _ _ _ | refine hs_ne (by omega) ?_ | assumption)) rfl ?_
  refine k_icmp_ne (tgt := 25) C dX4_isListOfRounds_8 (by decide) ⟨by omega, by omega⟩ ⟨by omega, by omega⟩ (fun c8 => ?_) (fun c8 => ?_)
  · try (exfalso; omega)
    all_goals (
      refine k_iconst C dX4_isListOfRounds_25 ?_
      refine k_zret C hr dX4_isListOfRounds_26 (by omega) ?_
      first
        | (refine ⟨Or.inl ⟨rfl, ?_⟩, hTx, hFx⟩
           have hr3 := hrel (by omega)
           unfold pWhole
           rw [hnn]
           exact ⟨hpf, hw1, by omega⟩)
        | (refine ⟨Or.inr ⟨rfl, fun hpw => ?_⟩, hTx, hFx⟩
           obtain ⟨x1, x2, x3⟩ := hpw
           first
             | (have hnn2 : ln.toNat = nn := by omega
                rw [hnn] at x2 x3
                have hr3 := hrel (by omega)
                omega)
             | (rcases hn3 with ⟨y1, -⟩ | ⟨y1, y2, -⟩
                · omega
                · exact y2 (x1 nn (by omega)))))
  · try (exfalso; omega)
    all_goals (
      have hnn : ln.toNat = nn := by omega
      obtain ⟨wr, tr, pr, q2, hrel⟩ := (hn3.resolve_right (fun q => by omega)).2
      refine k_aload_n C dX4_isListOfRounds_11 rfl ?_
      refine k_get C (k := 2) inX4 (ci := 4) rfl (by decide) fl_X4_18 dX4_isListOfRounds_12 (by repeat (first | exact hs_eq _ _ _ | refine hs_ne (by omega) ?_ | assumption)) rfl ?_
      refine k_callV C (n := 0) (as := []) (ct_X2_hasWholeRound l D tc base (tt + 2) _ _ _ _ _ (by repeat (first | exact hs_eq _ _ _ | refine hs_ne (by omega) ?_ | assumption)) (by have := hpi.1; exact ⟨by omega, by omega⟩) (fun hd2 => by rw [(hrel (by omega)).2.2]; have := hpi.2.1 (by omega); exact ⟨by omega, by omega⟩)) ml_X4_37 im_X2_hasWholeRound se_X2_hasWholeRound ini_X2 co_X2_hasWholeRound ⟨rfl, by decide, by decide, by decide +kernel⟩ rfl (ci := 2) rfl (by repeat (first | exact hs_eq _ _ _ | refine hs_ne (by omega) ?_ | assumption)) ⟨by decide, by decide⟩ rfl (Nat.le_of_ble_eq_true rfl) ⟨Nat.zero_le _, Nat.zero_le _⟩ dX4_isListOfRounds_15 ?_
      rintro _ _ (⟨rfl, rfl, hw1, hw2⟩ | ⟨rfl, rfl, hw1⟩)
      · skip
        refine k_if_eq (tgt := 25) C dX4_isListOfRounds_18 (by decide) ⟨by omega, by omega⟩ (fun c18 => ?_) (fun c18 => ?_)
        · try (exfalso; omega)
          all_goals (
            refine k_iconst C dX4_isListOfRounds_25 ?_
            refine k_zret C hr dX4_isListOfRounds_26 (by omega) ?_
            first
              | (refine ⟨Or.inl ⟨rfl, ?_⟩, hTx, hFx⟩
                 have hr3 := hrel (by omega)
                 unfold pWhole
                 rw [hnn]
                 exact ⟨hpf, hw1, by omega⟩)
              | (refine ⟨Or.inr ⟨rfl, fun hpw => ?_⟩, hTx, hFx⟩
                 obtain ⟨x1, x2, x3⟩ := hpw
                 first
                   | (have hnn2 : ln.toNat = nn := by omega
                      rw [hnn] at x2 x3
                      have hr3 := hrel (by omega)
                      omega)
                   | (rcases hn3 with ⟨y1, -⟩ | ⟨y1, y2, -⟩
                      · omega
                      · exact y2 (x1 nn (by omega)))))
        · try (exfalso; omega)
          all_goals (
            refine k_iconst C dX4_isListOfRounds_21 ?_
            refine k_goto (tgt := 26) C dX4_isListOfRounds_22 (by decide) ?_
            refine k_zret C hr dX4_isListOfRounds_26 (by omega) ?_
            first
              | (refine ⟨Or.inl ⟨rfl, ?_⟩, hTx, hFx⟩
                 have hr3 := hrel (by omega)
                 unfold pWhole
                 rw [hnn]
                 exact ⟨hpf, hw1, by omega⟩)
              | (refine ⟨Or.inr ⟨rfl, fun hpw => ?_⟩, hTx, hFx⟩
                 obtain ⟨x1, x2, x3⟩ := hpw
                 first
                   | (have hnn2 : ln.toNat = nn := by omega
                      rw [hnn] at x2 x3
                      have hr3 := hrel (by omega)
                      omega)
                   | (rcases hn3 with ⟨y1, -⟩ | ⟨y1, y2, -⟩
                      · omega
                      · exact y2 (x1 nn (by omega)))))
      · skip
        refine k_if_eq (tgt := 25) C dX4_isListOfRounds_18 (by decide) ⟨by omega, by omega⟩ (fun c18 => ?_) (fun c18 => ?_)
        · try (exfalso; omega)
          all_goals (
            refine k_iconst C dX4_isListOfRounds_25 ?_
            refine k_zret C hr dX4_isListOfRounds_26 (by omega) ?_
            first
              | (refine ⟨Or.inl ⟨rfl, ?_⟩, hTx, hFx⟩
                 have hr3 := hrel (by omega)
                 unfold pWhole
                 rw [hnn]
                 exact ⟨hpf, hw1, by omega⟩)
              | (refine ⟨Or.inr ⟨rfl, fun hpw => ?_⟩, hTx, hFx⟩
                 obtain ⟨x1, x2, x3⟩ := hpw
                 first
                   | (have hnn2 : ln.toNat = nn := by omega
                      rw [hnn] at x2 x3
                      have hr3 := hrel (by omega)
                      omega)
                   | (rcases hn3 with ⟨y1, -⟩ | ⟨y1, y2, -⟩
                      · omega
                      · exact y2 (x1 nn (by omega)))))
        · try (exfalso; omega)
          all_goals (
            refine k_iconst C dX4_isListOfRounds_21 ?_
            refine k_goto (tgt := 26) C dX4_isListOfRounds_22 (by decide) ?_
            refine k_zret C hr dX4_isListOfRounds_26 (by omega) ?_
            first
              | (refine ⟨Or.inl ⟨rfl, ?_⟩, hTx, hFx⟩
                 have hr3 := hrel (by omega)
                 unfold pWhole
                 rw [hnn]
                 exact ⟨hpf, hw1, by omega⟩)
              | (refine ⟨Or.inr ⟨rfl, fun hpw => ?_⟩, hTx, hFx⟩
                 obtain ⟨x1, x2, x3⟩ := hpw
                 first
                   | (have hnn2 : ln.toNat = nn := by omega
                      rw [hnn] at x2 x3
                      have hr3 := hrel (by omega)
                      omega)
                   | (rcases hn3 with ⟨y1, -⟩ | ⟨y1, y2, -⟩
                      · omega
                      · exact y2 (x1 nn (by omega))))))

set_option maxRecDepth 20000 in
set_option maxHeartbeats 1000000 in
theorem ct_X2_hireInto (l : Launch) (D : va_G) (tc : Nat → ClassId) (base : Nat) (qq : Nat) (pl wr tr pr : Int) (hpp : AH) (g0 : hpp qq = some (eO 2 [aI pl, aI wr, aI tr, aI pr])) (pp : Nat) (e1 e2 e3 e4 e5 : Int → Int) (sy : Int) (k0 : hpp pp = some (eO 6 [aI sy, aR (pp + 1), aR (pp + 2), aR (pp + 3), aR (pp + 4), aR (pp + 5)])) (k1 : hpp (pp + 1) = some (eA 0 6 e1)) (k2 : hpp (pp + 2) = some (eA 0 6 e2)) (k3 : hpp (pp + 3) = some (eA 0 6 e3)) (k4 : hpp (pp + 4) = some (eA 0 6 e4)) (k5 : hpp (pp + 5) = some (eA 0 6 e5)) (mi : Int) (h1 : 0 ≤ sy) (h2 : sy < 6) : CT l D tc base yX2_hireInto cX2_hireInto 3 none 1 [aR qq, aR pp, aI mi] hpp (fun r h' => r = none ∧ h' = hs (hs (hs (hs (hs (hs hpp (pp + 1) (eA 0 6 (iu e1 sy (wr)))) (pp + 2) (eA 0 6 (iu e2 sy (tr)))) (pp + 3) (eA 0 6 (iu e3 sy (pr)))) (pp + 4) (eA 0 6 (iu e4 sy (mi + pr)))) (pp + 5) (eA 0 6 (iu e5 sy (0)))) pp (eO 6 [aI (sy + 1), aR (pp + 1), aR (pp + 2), aR (pp + 3), aR (pp + 4), aR (pp + 5)])) := by
  refine CT.of [some (aR qq), some (aR pp), some (aI mi)] (by decide +kernel) rfl (Nat.le_of_ble_eq_true rfl) ?_
  intro p e s m args below meth c C hr hnm
  refine k_aload_n C dX2_hireInto_0 rfl ?_
  refine k_aload_n C dX2_hireInto_1 rfl ?_
  refine k_get C (k := 1) inX2 (ci := 2) rfl (by decide) fl_X2_18 dX2_hireInto_2 (by repeat (first | exact hs_eq _ _ _ | refine hs_ne (by omega) ?_ | assumption)) rfl ?_
  refine k_aload_n C dX2_hireInto_5 rfl ?_
  refine k_get C (k := 2) inX2 (ci := 2) rfl (by decide) fl_X2_21 dX2_hireInto_6 (by repeat (first | exact hs_eq _ _ _ | refine hs_ne (by omega) ?_ | assumption)) rfl ?_
  refine k_aload_n C dX2_hireInto_9 rfl ?_
  refine k_get C (k := 3) inX2 (ci := 2) rfl (by decide) fl_X2_15 dX2_hireInto_10 (by repeat (first | exact hs_eq _ _ _ | refine hs_ne (by omega) ?_ | assumption)) rfl ?_
  refine k_iload_n C dX2_hireInto_13 rfl ?_
  refine k_aload_n C dX2_hireInto_14 rfl ?_
  refine k_get C (k := 3) inX2 (ci := 2) rfl (by decide) fl_X2_15 dX2_hireInto_15 (by repeat (first | exact hs_eq _ _ _ | refine hs_ne (by omega) ?_ | assumption)) rfl ?_
  refine k_iadd C dX2_hireInto_18 ?_
  refine k_callV C (n := 4) (as := [_, _, _, _]) (ct_X6_add l D tc base _ pp e1 e2 e3 e4 e5 sy (by repeat (first | exact hs_eq _ _ _ | refine hs_ne (by omega) ?_ | assumption)) (by repeat (first | exact hs_eq _ _ _ | refine hs_ne (by omega) ?_ | assumption)) (by repeat (first | exact hs_eq _ _ _ | refine hs_ne (by omega) ?_ | assumption)) (by repeat (first | exact hs_eq _ _ _ | refine hs_ne (by omega) ?_ | assumption)) (by repeat (first | exact hs_eq _ _ _ | refine hs_ne (by omega) ?_ | assumption)) (by repeat (first | exact hs_eq _ _ _ | refine hs_ne (by omega) ?_ | assumption)) _ _ _ _ h1 h2) ml_X2_24 im_X6_add se_X6_add ini_X6 co_X6_add ⟨rfl, by decide, by decide, by decide +kernel⟩ rfl (ci := 6) rfl (by repeat (first | exact hs_eq _ _ _ | refine hs_ne (by omega) ?_ | assumption)) ⟨by decide, by decide⟩ rfl (Nat.le_of_ble_eq_true rfl) ⟨Nat.zero_le _, Nat.zero_le _⟩ dX2_hireInto_19 ?_
  rintro _ _ ⟨rfl, rfl⟩
  refine k_vret C hr dX2_hireInto_22 ?_
  exact ⟨rfl, rfl⟩
