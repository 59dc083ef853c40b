set_option maxRecDepth 20000 in
set_option maxHeartbeats 1000000 in
theorem ct_X4_hireInto (l : Launch) (D : va_G) (tc : Nat → ClassId) (base : Nat) (tt : Nat) (ln : Int) (htx : Int → Int) (hpp : AH) (hT : TxA hpp tt ln htx) (pp : Nat) (e1 e2 e3 e4 e5 : Int → Int) (sy : Int) (k0 : hpp pp = some (eO 6 [aI sy, aR (pp + 1), aR (pp + 2), aR (pp + 3), aR (pp + 4), aR (pp + 5)])) (k1 : hpp (pp + 1) = some (eA 0 6 e1)) (k2 : hpp (pp + 2) = some (eA 0 6 e2)) (k3 : hpp (pp + 3) = some (eA 0 6 e3)) (k4 : hpp (pp + 4) = some (eA 0 6 e4)) (k5 : hpp (pp + 5) = some (eA 0 6 e5)) (hro : Int → Int) (mi : Int) (hwh : pWhole htx hro ln.toNat) (hse : cN htx ln.toNat ≤ 5) (hdj : pp + 6 ≤ tt) : CT l D tc base yX4_hireInto cX4_hireInto 4 none 4 [aR tt, aR pp, aI mi] hpp (fun r h' => r = none ∧ WnM h' pp (pS htx hro ln.toNat).2.2 mi ((pS htx hro ln.toNat).1 + 1) ∧ (∃ a b c d : Int, h' (tt + 2) = some (eO 2 [aI a, aI b, aI c, aI d])) ∧ (∀ a : Nat, (a < pp ∨ pp + 6 ≤ a) → ¬ a = tt + 2 → h' a = hpp a)) := by
  refine CT.of [some (aR tt), some (aR pp), some (aI mi), none] (by decide +kernel) rfl (Nat.le_of_ble_eq_true rfl) ?_
  intro p e s m args below meth c C hr hnm
  obtain ⟨sg, g0, g1, hln, hsg, ra, rb, rc, rd, g2⟩ := id hT
  have hpf := hwh.1
  refine k_aload_n C dX4_hireInto_0 rfl ?_
  refine k_iconst C dX4_hireInto_1 ?_
  refine k_put C (k := 0) inX6 tyX6_ok nmX6 (ci := 6) rfl (by decide) fl_X4_41 rfl (Nat.le_of_ble_eq_true rfl) dX4_hireInto_2 (by repeat (first | exact hs_eq _ _ _ | refine hs_ne (by omega) ?_ | assumption)) ?_
  refine k_aload_n C dX4_hireInto_5 rfl ?_
  refine k_get C (k := 2) inX4 (ci := 4) rfl (by decide) fl_X4_18 dX4_hireInto_6 (by repeat (first | exact hs_eq _ _ _ | refine hs_ne (by omega) ?_ | assumption)) rfl ?_
  refine k_callV C (n := 0) (as := []) (ct_X2_begin l D tc base (tt + 2) _ _ _ _ _ (by repeat (first | exact hs_eq _ _ _ | refine hs_ne (by omega) ?_ | assumption))) ml_X4_26 im_X2_begin se_X2_begin ini_X2 co_X2_begin ⟨rfl, by decide, by decide, by decide +kernel⟩ rfl (ci := 2) rfl (by repeat (first | exact hs_eq _ _ _ | refine hs_ne (by omega) ?_ | assumption)) ⟨by decide, by decide⟩ rfl (Nat.le_of_ble_eq_true rfl) ⟨Nat.zero_le _, Nat.zero_le _⟩ dX4_hireInto_9 ?_
  rintro _ _ ⟨rfl, rfl⟩
  refine k_iconst C dX4_hireInto_12 ?_
  refine k_istore_n C dX4_hireInto_13 (by decide) rfl ?_
  have loop14 : ∀ (n : Nat) (kk : Nat) (hkk : AH), (kk : Int) ≤ ln → RdA hkk (tt + 2) (pS htx hro kk).1 (pS htx hro kk).2.1 (pS htx hro kk).2.2 → WnM hkk pp (pS htx hro kk).2.2 mi (pS htx hro kk).1 → (∀ a : Nat, (a < pp ∨ pp + 6 ≤ a) → ¬ a = tt + 2 → hkk a = hpp a) → ln - kk < (n : Int) → Wk D tc base 4 p l e (lvR 4) s m args below meth c 0 0 (MQ below (Qx D tc base (fun r h' => r = none ∧ WnM h' pp (pS htx hro ln.toNat).2.2 mi ((pS htx hro ln.toNat).1 + 1) ∧ (∃ a b c d : Int, h' (tt + 2) = some (eO 2 [aI a, aI b, aI c, aI d])) ∧ (∀ a : Nat, (a < pp ∨ pp + 6 ≤ a) → ¬ a = tt + 2 → h' a = hpp a))) args s 0 0 (fun q => base ≤ q)) 14 [some (aR tt), some (aR pp), some (aI mi), some (aI kk)] [] hkk := by
    intro n
    induction n with
    | zero =>
      intro kk hkk hk hRk hWk hFk hmu
      exfalso
      omega
    | succ n ih =>
      intro kk hkk hk hRk hWk hFk hmu
      have hpfk : pFine htx hro kk := fun j hj => hpf j (by omega)
      have hpi := pInv_run hpfk
      have hcn := cN_read hpfk
      have hcm := cN_mono (tx := htx) (n := ln.toNat) (k := kk) (by omega)
      have hp0 := hpi.1.1
      have hp1 : (pS htx hro kk).1 ≤ 5 := by omega
      have z0 := (hFk tt (by omega) (by omega)).trans g0
      have z1 := (hFk (tt + 1) (by omega) (by omega)).trans g1
      obtain ⟨xa, xb, xc, x2, hrel⟩ := id hRk
      obtain ⟨F1, F2, F3, F4, F5, y0, y1, y2, y3, y4, y5, hwm⟩ := id hWk
      refine k_iload_n C dX4_hireInto_14 rfl ?_
      refine k_aload_n C dX4_hireInto_15 rfl ?_
      refine k_get C (k := 0) inX4 (ci := 4) rfl (by decide) fl_X4_22 dX4_hireInto_16 (by repeat (first | exact hs_eq _ _ _ | refine hs_ne (by omega) ?_ | assumption)) rfl ?_
      refine k_icmp_ge (tgt := 68) C dX4_hireInto_19 (by decide) ⟨by omega, by omega⟩ ⟨by omega, by omega⟩ (fun c19 => ?_) (fun c19 => ?_)
      · try (exfalso; omega)
        all_goals (
          have hkl : ln.toNat = kk := by omega
          have hdz : ¬ (pS htx hro kk).2.1 = 0 := by have := hwh.2.1; rw [hkl] at this; omega
          have hsp := hrel hdz
          obtain ⟨rfl, rfl, rfl⟩ := hsp
          refine k_aload_n C dX4_hireInto_68 rfl ?_
          refine k_get C (k := 2) inX4 (ci := 4) rfl (by decide) fl_X4_18 dX4_hireInto_69 (by repeat (first | exact hs_eq _ _ _ | refine hs_ne (by omega) ?_ | assumption)) rfl ?_
          refine k_aload_n C dX4_hireInto_72 rfl ?_
          refine k_iload_n C dX4_hireInto_73 rfl ?_
          refine k_callV C (n := 2) (as := [_, _]) (ct_X2_hireInto l D tc base (tt + 2) _ _ _ _ _ x2 pp F1 F2 F3 F4 F5 _ y0 y1 y2 y3 y4 y5 _ (by omega) (by omega)) ml_X4_46 im_X2_hireInto se_X2_hireInto ini_X2 co_X2_hireInto ⟨rfl, by decide, by decide, by decide +kernel⟩ rfl (ci := 2) rfl (by repeat (first | exact hs_eq _ _ _ | refine hs_ne (by omega) ?_ | assumption)) ⟨by decide, by decide⟩ rfl (Nat.le_of_ble_eq_true rfl) ⟨Nat.zero_le _, Nat.zero_le _⟩ dX4_hireInto_74 ?_
          rintro _ _ ⟨rfl, rfl⟩
          refine k_vret C hr dX4_hireInto_77 ?_
          refine ⟨rfl, ?_, ⟨_, _, _, _, (by repeat (first | exact hs_eq _ _ _ | refine hs_ne (by omega) ?_ | assumption))⟩, fun a a0 a1 => hs_ne (by omega) (hs_ne (by omega) (hs_ne (by omega) (hs_ne (by omega) (hs_ne (by omega) (hs_ne (by omega) (hFk a a0 a1))))))⟩
          · rw [hkl]
            exact ⟨_, _, _, _, _, hs_eq _ _ _, (by repeat (first | exact hs_eq _ _ _ | refine hs_ne (by omega) ?_ | assumption)), (by repeat (first | exact hs_eq _ _ _ | refine hs_ne (by omega) ?_ | assumption)), (by repeat (first | exact hs_eq _ _ _ | refine hs_ne (by omega) ?_ | assumption)), (by repeat (first | exact hs_eq _ _ _ | refine hs_ne (by omega) ?_ | assumption)), (by repeat (first | exact hs_eq _ _ _ | refine hs_ne (by omega) ?_ | assumption)), wMade_add hwm⟩)
      · try (exfalso; omega)
        all_goals (
          refine k_iload_n C dX4_hireInto_22 rfl ?_
          refine k_bipush C dX4_hireInto_23 (by decide +kernel) ?_
          refine k_icmp_ge (tgt := 68) C dX4_hireInto_25 (by decide) ⟨by omega, by omega⟩ ⟨by omega, by omega⟩ (fun c25 => ?_) (fun c25 => ?_)
          · try (exfalso; omega)
            all_goals (
              have hkl : ln.toNat = kk := by omega
              have hdz : ¬ (pS htx hro kk).2.1 = 0 := by have := hwh.2.1; rw [hkl] at this; omega
              have hsp := hrel hdz
              obtain ⟨rfl, rfl, rfl⟩ := hsp
              refine k_aload_n C dX4_hireInto_68 rfl ?_
              refine k_get C (k := 2) inX4 (ci := 4) rfl (by decide) fl_X4_18 dX4_hireInto_69 (by repeat (first | exact hs_eq _ _ _ | refine hs_ne (by omega) ?_ | assumption)) rfl ?_
              refine k_aload_n C dX4_hireInto_72 rfl ?_
              refine k_iload_n C dX4_hireInto_73 rfl ?_
              refine k_callV C (n := 2) (as := [_, _]) (ct_X2_hireInto l D tc base (tt + 2) _ _ _ _ _ x2 pp F1 F2 F3 F4 F5 _ y0 y1 y2 y3 y4 y5 _ (by omega) (by omega)) ml_X4_46 im_X2_hireInto se_X2_hireInto ini_X2 co_X2_hireInto ⟨rfl, by decide, by decide, by decide +kernel⟩ rfl (ci := 2) rfl (by repeat (first | exact hs_eq _ _ _ | refine hs_ne (by omega) ?_ | assumption)) ⟨by decide, by decide⟩ rfl (Nat.le_of_ble_eq_true rfl) ⟨Nat.zero_le _, Nat.zero_le _⟩ dX4_hireInto_74 ?_
              rintro _ _ ⟨rfl, rfl⟩
              refine k_vret C hr dX4_hireInto_77 ?_
              refine ⟨rfl, ?_, ⟨_, _, _, _, (by repeat (first | exact hs_eq _ _ _ | refine hs_ne (by omega) ?_ | assumption))⟩, fun a a0 a1 => hs_ne (by omega) (hs_ne (by omega) (hs_ne (by omega) (hs_ne (by omega) (hs_ne (by omega) (hs_ne (by omega) (hFk a a0 a1))))))⟩
              · rw [hkl]
                exact ⟨_, _, _, _, _, hs_eq _ _ _, (by repeat (first | exact hs_eq _ _ _ | refine hs_ne (by omega) ?_ | assumption)), (by repeat (first | exact hs_eq _ _ _ | refine hs_ne (by omega) ?_ | assumption)), (by repeat (first | exact hs_eq _ _ _ | refine hs_ne (by omega) ?_ | assumption)), (by repeat (first | exact hs_eq _ _ _ | refine hs_ne (by omega) ?_ | assumption)), (by repeat (first | exact hs_eq _ _ _ | refine hs_ne (by omega) ?_ | assumption)), wMade_add hwm⟩)
          · try (exfalso; omega)
            all_goals (
              have hcs := (hsg kk (by omega) (by omega)).2
              have hse1 := (hsg kk (by omega) (by omega)).1
              refine k_aload_n C dX4_hireInto_28 rfl ?_
              refine k_get C (k := 1) inX4 (ci := 4) rfl (by decide) fl_X4_9 dX4_hireInto_29 (by repeat (first | exact hs_eq _ _ _ | refine hs_ne (by omega) ?_ | assumption)) rfl ?_
              refine k_iload_n C dX4_hireInto_32 rfl ?_
              refine k_caload C dX4_hireInto_33 (by repeat (first | exact hs_eq _ _ _ | refine hs_ne (by omega) ?_ | assumption)) (by omega) (by omega) (by omega) ?_
              rw [hse1]
              refine k_bipush C dX4_hireInto_34 (by decide +kernel) ?_
              refine k_icmp_ne (tgt := 48) C dX4_hireInto_36 (by decide) ⟨by omega, by omega⟩ ⟨by omega, by omega⟩ (fun c36 => ?_) (fun c36 => ?_)
              · try (exfalso; omega)
                all_goals (
                  refine k_aload_n C dX4_hireInto_48 rfl ?_
                  refine k_get C (k := 2) inX4 (ci := 4) rfl (by decide) fl_X4_18 dX4_hireInto_49 (by repeat (first | exact hs_eq _ _ _ | refine hs_ne (by omega) ?_ | assumption)) rfl ?_
                  refine k_aload_n C dX4_hireInto_52 rfl ?_
                  refine k_get C (k := 1) inX4 (ci := 4) rfl (by decide) fl_X4_9 dX4_hireInto_53 (by repeat (first | exact hs_eq _ _ _ | refine hs_ne (by omega) ?_ | assumption)) rfl ?_
                  refine k_iload_n C dX4_hireInto_56 rfl ?_
                  refine k_caload C dX4_hireInto_57 (by repeat (first | exact hs_eq _ _ _ | refine hs_ne (by omega) ?_ | assumption)) (by omega) (by omega) (by omega) ?_
                  rw [hse1]
                  refine k_callV C (n := 1) (as := [_]) (ct_X2_reads l D tc base (tt + 2) _ _ _ _ (by first | exact hRk | exact ⟨_, _, _, (by repeat (first | exact hs_eq _ _ _ | refine hs_ne (by omega) ?_ | assumption)), hrel⟩) _ hcs kk (by omega) hpi) ml_X4_29 im_X2_reads se_X2_reads ini_X2 co_X2_reads ⟨rfl, by decide, by decide, by decide +kernel⟩ rfl (ci := 2) rfl (by repeat (first | exact hs_eq _ _ _ | refine hs_ne (by omega) ?_ | assumption)) ⟨by decide, by decide⟩ rfl (Nat.le_of_ble_eq_true rfl) ⟨Nat.zero_le _, Nat.zero_le _⟩ dX4_hireInto_58 ?_
                  rintro _ hrr (⟨rfl, hok, hR2, hF2⟩ | ⟨rfl, hok, rfl⟩)
                  · skip
                    refine k_pop C dX4_hireInto_61 rfl ?_
                    refine k_iinc C dX4_hireInto_62 rfl (by decide) rfl ?_
                    refine k_goto (tgt := 14) C dX4_hireInto_65 (by decide) ?_
                    first
                      | exact absurd (hpf kk (by omega)) hok
                      | (have e2 : ((kk + 1 : Nat) : Int) = (kk : Int) + 1 := by omega
                         have hps : pS htx hro (kk + 1) = ((pS htx hro kk).1 + 1, 0, (pS htx hro kk).2.2) := pStep_comma hdz h44
                         have q1 := ih (kk + 1) _ (by omega) hR2 (by
                           rw [hps]
                           exact ⟨_, _, _, _, _, (hF2 _ (by omega)).trans (hs_eq _ _ _), (hF2 _ (by omega)).trans (by repeat (first | exact hs_eq _ _ _ | refine hs_ne (by omega) ?_ | assumption)), (hF2 _ (by omega)).trans (by repeat (first | exact hs_eq _ _ _ | refine hs_ne (by omega) ?_ | assumption)), (hF2 _ (by omega)).trans (by repeat (first | exact hs_eq _ _ _ | refine hs_ne (by omega) ?_ | assumption)), (hF2 _ (by omega)).trans (by repeat (first | exact hs_eq _ _ _ | refine hs_ne (by omega) ?_ | assumption)), (hF2 _ (by omega)).trans (by repeat (first | exact hs_eq _ _ _ | refine hs_ne (by omega) ?_ | assumption)), wMade_add hwm⟩) (fun a a0 a1 => (hF2 a (by omega)).trans (hs_ne (by omega) (hs_ne (by omega) (hs_ne (by omega) (hs_ne (by omega) (hs_ne (by omega) (hs_ne (by omega) (hFk a a0 a1)))))))) (by omega)
                         rw [e2] at q1
                         exact q1)
                      | (have e2 : ((kk + 1 : Nat) : Int) = (kk : Int) + 1 := by omega
                         have hps : (pS htx hro (kk + 1)).1 = (pS htx hro kk).1 := pStep_same (by omega)
                         have q1 := ih (kk + 1) _ (by omega) hR2 (by
                           rw [hps]
                           exact hWk.fr (fun a a0 a1 => hF2 a (by omega)) (fun j hj => pStep_low (by have := hpi.1; omega) hj)) (fun a a0 a1 => (hF2 a (by omega)).trans (hFk a a0 a1)) (by omega)
                         rw [e2] at q1
                         exact q1)
                  · skip
                    refine k_pop C dX4_hireInto_61 rfl ?_
                    refine k_iinc C dX4_hireInto_62 rfl (by decide) rfl ?_
                    refine k_goto (tgt := 14) C dX4_hireInto_65 (by decide) ?_
                    first
                      | exact absurd (hpf kk (by omega)) hok
                      | (have e2 : ((kk + 1 : Nat) : Int) = (kk : Int) + 1 := by omega
                         have hps : pS htx hro (kk + 1) = ((pS htx hro kk).1 + 1, 0, (pS htx hro kk).2.2) := pStep_comma hdz h44
                         have q1 := ih (kk + 1) _ (by omega) hR2 (by
                           rw [hps]
                           exact ⟨_, _, _, _, _, (hF2 _ (by omega)).trans (hs_eq _ _ _), (hF2 _ (by omega)).trans (by repeat (first | exact hs_eq _ _ _ | refine hs_ne (by omega) ?_ | assumption)), (hF2 _ (by omega)).trans (by repeat (first | exact hs_eq _ _ _ | refine hs_ne (by omega) ?_ | assumption)), (hF2 _ (by omega)).trans (by repeat (first | exact hs_eq _ _ _ | refine hs_ne (by omega) ?_ | assumption)), (hF2 _ (by omega)).trans (by repeat (first | exact hs_eq _ _ _ | refine hs_ne (by omega) ?_ | assumption)), (hF2 _ (by omega)).trans (by repeat (first | exact hs_eq _ _ _ | refine hs_ne (by omega) ?_ | assumption)), wMade_add hwm⟩) (fun a a0 a1 => (hF2 a (by omega)).trans (hs_ne (by omega) (hs_ne (by omega) (hs_ne (by omega) (hs_ne (by omega) (hs_ne (by omega) (hs_ne (by omega) (hFk a a0 a1)))))))) (by omega)
                         rw [e2] at q1
                         exact q1)
                      | (have e2 : ((kk + 1 : Nat) : Int) = (kk : Int) + 1 := by omega
                         have hps : (pS htx hro (kk + 1)).1 = (pS htx hro kk).1 := pStep_same (by omega)
                         have q1 := ih (kk + 1) _ (by omega) hR2 (by
                           rw [hps]
                           exact hWk.fr (fun a a0 a1 => hF2 a (by omega)) (fun j hj => pStep_low (by have := hpi.1; omega) hj)) (fun a a0 a1 => (hF2 a (by omega)).trans (hFk a a0 a1)) (by omega)
                         rw [e2] at q1
                         exact q1))
              · try (exfalso; omega)
                all_goals (
                  have h44 : htx kk = 44 := by omega
                  have hdz : ¬ (pS htx hro kk).2.1 = 0 := pOk_comma (hpf kk (by omega)) h44
                  have hsp := hrel hdz
                  obtain ⟨rfl, rfl, rfl⟩ := hsp
                  refine k_aload_n C dX4_hireInto_39 rfl ?_
                  refine k_get C (k := 2) inX4 (ci := 4) rfl (by decide) fl_X4_18 dX4_hireInto_40 (by repeat (first | exact hs_eq _ _ _ | refine hs_ne (by omega) ?_ | assumption)) rfl ?_
                  refine k_aload_n C dX4_hireInto_43 rfl ?_
                  refine k_iload_n C dX4_hireInto_44 rfl ?_
                  refine k_callV C (n := 2) (as := [_, _]) (ct_X2_hireInto l D tc base (tt + 2) _ _ _ _ _ x2 pp F1 F2 F3 F4 F5 _ y0 y1 y2 y3 y4 y5 _ (by omega) (by omega)) ml_X4_46 im_X2_hireInto se_X2_hireInto ini_X2 co_X2_hireInto ⟨rfl, by decide, by decide, by decide +kernel⟩ rfl (ci := 2) rfl (by repeat (first | exact hs_eq _ _ _ | refine hs_ne (by omega) ?_ | assumption)) ⟨by decide, by decide⟩ rfl (Nat.le_of_ble_eq_true rfl) ⟨Nat.zero_le _, Nat.zero_le _⟩ dX4_hireInto_45 ?_
                  rintro _ _ ⟨rfl, rfl⟩
                  refine k_aload_n C dX4_hireInto_48 rfl ?_
                  refine k_get C (k := 2) inX4 (ci := 4) rfl (by decide) fl_X4_18 dX4_hireInto_49 (by repeat (first | exact hs_eq _ _ _ | refine hs_ne (by omega) ?_ | assumption)) rfl ?_
                  refine k_aload_n C dX4_hireInto_52 rfl ?_
                  refine k_get C (k := 1) inX4 (ci := 4) rfl (by decide) fl_X4_9 dX4_hireInto_53 (by repeat (first | exact hs_eq _ _ _ | refine hs_ne (by omega) ?_ | assumption)) rfl ?_
                  refine k_iload_n C dX4_hireInto_56 rfl ?_
                  refine k_caload C dX4_hireInto_57 (by repeat (first | exact hs_eq _ _ _ | refine hs_ne (by omega) ?_ | assumption)) (by omega) (by omega) (by omega) ?_
                  rw [hse1]
                  refine k_callV C (n := 1) (as := [_]) (ct_X2_reads l D tc base (tt + 2) _ _ _ _ (by first | exact hRk | exact ⟨_, _, _, (by repeat (first | exact hs_eq _ _ _ | refine hs_ne (by omega) ?_ | assumption)), hrel⟩) _ hcs kk (by omega) hpi) ml_X4_29 im_X2_reads se_X2_reads ini_X2 co_X2_reads ⟨rfl, by decide, by decide, by decide +kernel⟩ rfl (ci := 2) rfl (by repeat (first | exact hs_eq _ _ _ | refine hs_ne (by omega) ?_ | assumption)) ⟨by decide, by decide⟩ rfl (Nat.le_of_ble_eq_true rfl) ⟨Nat.zero_le _, Nat.zero_le _⟩ dX4_hireInto_58 ?_
                  rintro _ hrr (⟨rfl, hok, hR2, hF2⟩ | ⟨rfl, hok, rfl⟩)
                  · skip
                    refine k_pop C dX4_hireInto_61 rfl ?_
                    refine k_iinc C dX4_hireInto_62 rfl (by decide) rfl ?_
                    refine k_goto (tgt := 14) C dX4_hireInto_65 (by decide) ?_
                    first
                      | exact absurd (hpf kk (by omega)) hok
                      | (have e2 : ((kk + 1 : Nat) : Int) = (kk : Int) + 1 := by omega
                         have hps : pS htx hro (kk + 1) = ((pS htx hro kk).1 + 1, 0, (pS htx hro kk).2.2) := pStep_comma hdz h44
                         have q1 := ih (kk + 1) _ (by omega) hR2 (by
                           rw [hps]
                           exact ⟨_, _, _, _, _, (hF2 _ (by omega)).trans (hs_eq _ _ _), (hF2 _ (by omega)).trans (by repeat (first | exact hs_eq _ _ _ | refine hs_ne (by omega) ?_ | assumption)), (hF2 _ (by omega)).trans (by repeat (first | exact hs_eq _ _ _ | refine hs_ne (by omega) ?_ | assumption)), (hF2 _ (by omega)).trans (by repeat (first | exact hs_eq _ _ _ | refine hs_ne (by omega) ?_ | assumption)), (hF2 _ (by omega)).trans (by repeat (first | exact hs_eq _ _ _ | refine hs_ne (by omega) ?_ | assumption)), (hF2 _ (by omega)).trans (by repeat (first | exact hs_eq _ _ _ | refine hs_ne (by omega) ?_ | assumption)), wMade_add hwm⟩) (fun a a0 a1 => (hF2 a (by omega)).trans (hs_ne (by omega) (hs_ne (by omega) (hs_ne (by omega) (hs_ne (by omega) (hs_ne (by omega) (hs_ne (by omega) (hFk a a0 a1)))))))) (by omega)
                         rw [e2] at q1
                         exact q1)
                      | (have e2 : ((kk + 1 : Nat) : Int) = (kk : Int) + 1 := by omega
                         have hps : (pS htx hro (kk + 1)).1 = (pS htx hro kk).1 := pStep_same (by omega)
                         have q1 := ih (kk + 1) _ (by omega) hR2 (by
                           rw [hps]
                           exact hWk.fr (fun a a0 a1 => hF2 a (by omega)) (fun j hj => pStep_low (by have := hpi.1; omega) hj)) (fun a a0 a1 => (hF2 a (by omega)).trans (hFk a a0 a1)) (by omega)
                         rw [e2] at q1
                         exact q1)
                  · skip
                    refine k_pop C dX4_hireInto_61 rfl ?_
                    refine k_iinc C dX4_hireInto_62 rfl (by decide) rfl ?_
                    refine k_goto (tgt := 14) C dX4_hireInto_65 (by decide) ?_
                    first
                      | exact absurd (hpf kk (by omega)) hok
                      | (have e2 : ((kk + 1 : Nat) : Int) = (kk : Int) + 1 := by omega
                         have hps : pS htx hro (kk + 1) = ((pS htx hro kk).1 + 1, 0, (pS htx hro kk).2.2) := pStep_comma hdz h44
                         have q1 := ih (kk + 1) _ (by omega) hR2 (by
                           rw [hps]
                           exact ⟨_, _, _, _, _, (hF2 _ (by omega)).trans (hs_eq _ _ _), (hF2 _ (by omega)).trans (by repeat (first | exact hs_eq _ _ _ | refine hs_ne (by omega) ?_ | assumption)), (hF2 _ (by omega)).trans (by repeat (first | exact hs_eq _ _ _ | refine hs_ne (by omega) ?_ | assumption)), (hF2 _ (by omega)).trans (by repeat (first | exact hs_eq _ _ _ | refine hs_ne (by omega) ?_ | assumption)), (hF2 _ (by omega)).trans (by repeat (first | exact hs_eq _ _ _ | refine hs_ne (by omega) ?_ | assumption)), (hF2 _ (by omega)).trans (by repeat (first | exact hs_eq _ _ _ | refine hs_ne (by omega) ?_ | assumption)), wMade_add hwm⟩) (fun a a0 a1 => (hF2 a (by omega)).trans (hs_ne (by omega) (hs_ne (by omega) (hs_ne (by omega) (hs_ne (by omega) (hs_ne (by omega) (hs_ne (by omega) (hFk a a0 a1)))))))) (by omega)
                         rw [e2] at q1
                         exact q1)
                      | (have e2 : ((kk + 1 : Nat) : Int) = (kk : Int) + 1 := by omega
                         have hps : (pS htx hro (kk + 1)).1 = (pS htx hro kk).1 := pStep_same (by omega)
                         have q1 := ih (kk + 1) _ (by omega) hR2 (by
                           rw [hps]
                           exact hWk.fr (fun a a0 a1 => hF2 a (by omega)) (fun j hj => pStep_low (by have := hpi.1; omega) hj)) (fun a a0 a1 => (hF2 a (by omega)).trans (hFk a a0 a1)) (by omega)
                         rw [e2] at q1
                         exact q1))))
  exact loop14 (ln + 1).toNat 0 _ (by omega) ⟨rb, rc, rd, hs_eq _ _ _, fun hh => absurd rfl hh⟩ ⟨e1, e2, e3, e4, e5, (by repeat (first | exact hs_eq _ _ _ | refine hs_ne (by omega) ?_ | assumption)), (by repeat (first | exact hs_eq _ _ _ | refine hs_ne (by omega) ?_ | assumption)), (by repeat (first | exact hs_eq _ _ _ | refine hs_ne (by omega) ?_ | assumption)), (by repeat (first | exact hs_eq _ _ _ | refine hs_ne (by omega) ?_ | assumption)), (by repeat (first | exact hs_eq _ _ _ | refine hs_ne (by omega) ?_ | assumption)), (by repeat (first | exact hs_eq _ _ _ | refine hs_ne (by omega) ?_ | assumption)), fun j j0 j1 => absurd j1 (by show ¬ j < (0 : Int); omega)⟩ (fun a a0 a1 => hs_ne (by omega) (hs_ne (by omega) rfl)) (by omega)
