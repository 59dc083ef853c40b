set_option maxRecDepth 20000 in
set_option maxHeartbeats 1000000 in
theorem ct_X7_goesOnFor (l : Launch) (D : va_G) (tc : Nat → ClassId) (base : Nat) (rc : Nat) (zrr hhi htx : Int → Int) (st ln : Int) (hpp : AH) (hX : XA hpp rc zrr hhi htx st ln) (nn : Nat) (hn : 1 ≤ nn ∧ nn ≤ 720) (ht : Int) (hht : 0 ≤ ht ∧ ht ≤ 200) (zt : RZ) (hSt : SAt hpp (rc + 16) zt) (hit : zInv zt) (hzt : zt 61 = zrr 61 ∧ zt 62 = zrr 62) (gg : Int → Int) (y5 : hpp (rc + 126) = some (eA 0 720 gg)) (GG : Nat → Int) (hG : ∀ jj : Nat, 0 ≤ GG jj ∧ GG jj ≤ 200) (hgg : ∀ jj : Nat, jj < nn → gg jj = GG jj) : CT l D tc base yX7_goesOnFor cX7_goesOnFor 4 (some .boolean) 2 [aR rc, aI nn, aI ht] hpp (fun r h' => ((r = some (aI 1) ∧ ∀ jj : Nat, jj < nn → ¬ zPc (zrr 61) (zrr 62) GG (zrr 9) ht jj = 0) ∨ (r = some (aI 0) ∧ ∃ jj : Nat, jj < nn ∧ zPc (zrr 61) (zrr 62) GG (zrr 9) ht jj = 0)) ∧ XA h' rc (zrr) (hhi) (htx) (st) (ln) ∧ (∃ zt2 : RZ, SAt h' (rc + 16) zt2 ∧ zInv zt2 ∧ zt2 61 = zrr 61 ∧ zt2 62 = zrr 62) ∧ h' (rc + 126) = some (eA 0 720 gg) ∧ Fr hpp h' rc 127) := by
  refine CT.of [some (aR rc), some (aI nn), some (aI ht), none] (by decide +kernel) rfl (Nat.le_of_ble_eq_true rfl) ?_
  intro p e s m args below meth c C hr hnm
  obtain ⟨zth, gr, x0, hS, hT, hH, hTx, x5, hok, h13, hst⟩ := id hX
  obtain ⟨ol, ff, hol, hj0, -⟩ := id hH
  obtain ⟨fsn, hsn0⟩ := hS.obj
  have hi := hok.1
  obtain ⟨⟨v0, v1, v2, v9, v10, v11, v12, v13, v21, v52, v61, v62, v63, v64, v65, v66⟩, hwi, hde⟩ := id hi
  obtain ⟨f1, f2, f3, w1, w2, w3, w4, w5, d1, d2, se, ⟨g0, g1, g2, g3, g4, g5, g6, g7, g8, g9, g10, g11, g12, g13, g14⟩, hsr⟩ := id hS
  obtain ⟨r1, r2, r3, r4⟩ := id hsr
  have n0 := g0
  obtain ⟨f1, f2, f3, w1, w2, w3, w4, w5, d1, d2, se, ⟨g0, g1, g2, g3, g4, g5, g6, g7, g8, g9, g10, g11, g12, g13, g14⟩, hsr⟩ := id hSt
  obtain ⟨r1, r2, r3, r4⟩ := id hsr
  refine k_aload_n C dX7_goesOnFor_0 rfl ?_
  refine k_get C (k := 1) inX7 (ci := 7) rfl (by decide) fl_X7_16 dX7_goesOnFor_1 (by repeat (first | exact hs_eq _ _ _ | refine hs_ne (by omega) ?_ | assumption)) rfl ?_
  refine k_aload_n C dX7_goesOnFor_4 rfl ?_
  refine k_get C (k := 0) inX7 (ci := 7) rfl (by decide) fl_X7_10 dX7_goesOnFor_5 (by repeat (first | exact hs_eq _ _ _ | refine hs_ne (by omega) ?_ | assumption)) rfl ?_
  refine k_get C (k := 6) inX3 (ci := 3) rfl (by decide) fl_X7_71 dX7_goesOnFor_8 (by repeat (first | exact hs_eq _ _ _ | refine hs_ne (by omega) ?_ | assumption)) rfl ?_
  refine k_put C (k := 6) inX3 tyX3_ok nmX3 (ci := 3) rfl (by decide) fl_X7_71 rfl (Nat.le_of_ble_eq_true rfl) dX7_goesOnFor_11 (by repeat (first | exact hs_eq _ _ _ | refine hs_ne (by omega) ?_ | assumption)) ?_
  refine k_aload_n C dX7_goesOnFor_14 rfl ?_
  refine k_get C (k := 1) inX7 (ci := 7) rfl (by decide) fl_X7_16 dX7_goesOnFor_15 (by repeat (first | exact hs_eq _ _ _ | refine hs_ne (by omega) ?_ | assumption)) rfl ?_
  refine k_get C (k := 0) inX3 (ci := 3) rfl (by decide) fl_X7_49 dX7_goesOnFor_18 (by repeat (first | exact hs_eq _ _ _ | refine hs_ne (by omega) ?_ | assumption)) rfl ?_
  refine k_get C (k := 0) inX5 (ci := 5) rfl (by decide) fl_X7_175 dX7_goesOnFor_21 (by repeat (first | exact hs_eq _ _ _ | refine hs_ne (by omega) ?_ | assumption)) rfl ?_
  refine k_iconst C dX7_goesOnFor_24 ?_
  refine k_iload_n C dX7_goesOnFor_25 rfl ?_
  refine k_iastore C dX7_goesOnFor_26 (by repeat (first | exact hs_eq _ _ _ | refine hs_ne (by omega) ?_ | assumption)) (by omega) (by omega) (by omega) ?_
  refine k_iconst C dX7_goesOnFor_27 ?_
  refine k_istore_n C dX7_goesOnFor_28 (by decide) rfl ?_
  have loop29 : ∀ (n : Nat) (kk : Nat) (hkk : AH) (yy : RZ), kk ≤ nn → XA hkk rc zrr hhi htx st ln → SAt hkk (rc + 16) yy → zInv yy → yy 61 = zrr 61 → yy 62 = zrr 62 → yy 9 = (zPr (zrr 61) (zrr 62) GG (zrr 9) ht kk).1 → yy 0 = (zPr (zrr 61) (zrr 62) GG (zrr 9) ht kk).2 → (∀ jj : Nat, jj < kk → ¬ zPc (zrr 61) (zrr 62) GG (zrr 9) ht jj = 0) → hkk (rc + 126) = some (eA 0 720 gg) → Fr hpp hkk rc 127 → (nn : Int) - kk < (n : Int) → Wk D tc base 4 p l e (lvR 2) s m args below meth c 0 0 (MQ below (Qx D tc base (fun r h' => ((r = some (aI 1) ∧ ∀ jj : Nat, jj < nn → ¬ zPc (zrr 61) (zrr 62) GG (zrr 9) ht jj = 0) ∨ (r = some (aI 0) ∧ ∃ jj : Nat, jj < nn ∧ zPc (zrr 61) (zrr 62) GG (zrr 9) ht jj = 0)) ∧ XA h' rc (zrr) (hhi) (htx) (st) (ln) ∧ (∃ zt2 : RZ, SAt h' (rc + 16) zt2 ∧ zInv zt2 ∧ zt2 61 = zrr 61 ∧ zt2 62 = zrr 62) ∧ h' (rc + 126) = some (eA 0 720 gg) ∧ Fr hpp h' rc 127)) args s 0 0 (fun q => base ≤ q)) 29 [some (aR rc), some (aI nn), some (aI ht), some (aI kk)] [] hkk := by
    intro n
    induction n with
    | zero =>
      intro kk hkk yy hk hXk hSk hyi hy61 hy62 hy9 hy0 hpc y5k hFk hmu
      exfalso
      omega
    | succ n ih =>
      intro kk hkk yy hk hXk hSk hyi hy61 hy62 hy9 hy0 hpc y5k hFk hmu
      obtain ⟨ztk, grk, x0k, -⟩ := id hXk
      obtain ⟨f1, f2, f3, w1, w2, w3, w4, w5, d1, d2, se, ⟨g0, g1, g2, g3, g4, g5, g6, g7, g8, g9, g10, g11, g12, g13, g14⟩, hsr⟩ := id hSk
      obtain ⟨r1, r2, r3, r4⟩ := id hsr
      have hf10 := (r1 0 (by omega) (by omega)).1
      refine k_iload_n C dX7_goesOnFor_29 rfl ?_
      refine k_iload_n C dX7_goesOnFor_30 rfl ?_
      refine k_icmp_ge (tgt := 99) C dX7_goesOnFor_31 (by decide) ⟨by omega, by omega⟩ ⟨by omega, by omega⟩ (fun c31 => ?_) (fun c31 => ?_)
      · try (exfalso; omega)
        all_goals (
          refine k_iconst C dX7_goesOnFor_99 ?_
          refine k_zret C hr dX7_goesOnFor_100 (by omega) ?_
          first
            | (have e1 : kk = nn := by omega
               subst e1
               exact ⟨Or.inl ⟨rfl, hpc⟩, hXk, ⟨yy, hSk, hyi, hy61, hy62⟩, y5k, hFk⟩)
            | exact ⟨Or.inr ⟨rfl, kk, by omega, by rw [hpk0]; omega⟩, hXk.trial hF3 hS2, ⟨_, hS2, hi2, hyr61, hyr62⟩, y5r, hFk.tr (hF3.wide (by omega) (by omega))⟩)
      · try (exfalso; omega)
        all_goals (
          refine k_iload_n C dX7_goesOnFor_34 rfl ?_
          refine k_aload_n C dX7_goesOnFor_35 rfl ?_
          refine k_get C (k := 4) inX7 (ci := 7) rfl (by decide) fl_X7_33 dX7_goesOnFor_36 (by repeat (first | exact hs_eq _ _ _ | refine hs_ne (by omega) ?_ | assumption)) rfl ?_
          refine k_alen C dX7_goesOnFor_39 y5k ?_
          refine k_icmp_ge (tgt := 99) C dX7_goesOnFor_40 (by decide) ⟨by omega, by omega⟩ ⟨by omega, by omega⟩ (fun c40 => ?_) (fun c40 => ?_)
          · try (exfalso; omega)
            all_goals (
              refine k_iconst C dX7_goesOnFor_99 ?_
              refine k_zret C hr dX7_goesOnFor_100 (by omega) ?_
              first
                | (have e1 : kk = nn := by omega
                   subst e1
                   exact ⟨Or.inl ⟨rfl, hpc⟩, hXk, ⟨yy, hSk, hyi, hy61, hy62⟩, y5k, hFk⟩)
                | exact ⟨Or.inr ⟨rfl, kk, by omega, by rw [hpk0]; omega⟩, hXk.trial hF3 hS2, ⟨_, hS2, hi2, hyr61, hyr62⟩, y5r, hFk.tr (hF3.wide (by omega) (by omega))⟩)
          · try (exfalso; omega)
            all_goals (
              refine k_aload_n C dX7_goesOnFor_43 rfl ?_
              refine k_get C (k := 1) inX7 (ci := 7) rfl (by decide) fl_X7_16 dX7_goesOnFor_44 (by repeat (first | exact hs_eq _ _ _ | refine hs_ne (by omega) ?_ | assumption)) rfl ?_
              refine k_get C (k := 0) inX3 (ci := 3) rfl (by decide) fl_X7_49 dX7_goesOnFor_47 (by repeat (first | exact hs_eq _ _ _ | refine hs_ne (by omega) ?_ | assumption)) rfl ?_
              refine k_iconst C dX7_goesOnFor_50 ?_
              refine k_aload_n C dX7_goesOnFor_51 rfl ?_
              refine k_get C (k := 4) inX7 (ci := 7) rfl (by decide) fl_X7_33 dX7_goesOnFor_52 (by repeat (first | exact hs_eq _ _ _ | refine hs_ne (by omega) ?_ | assumption)) rfl ?_
              refine k_iload_n C dX7_goesOnFor_55 rfl ?_
              refine k_iaload C dX7_goesOnFor_56 (by repeat (first | exact hs_eq _ _ _ | refine hs_ne (by omega) ?_ | assumption)) (by omega) (by omega) (by omega) ?_
              have hgk : gg kk = GG kk := hgg kk (by omega)
              obtain ⟨ht1, hht1⟩ : ∃ ht1 : Int, ht1 = yy 0 + mnI (GG kk) (200 - yy 0) := ⟨_, rfl⟩
              refine k_callV C (n := 2) (as := [_, _]) (ct_X5_raise l D tc base (rc + 16 + 1) f1 f2 f3 _ (by repeat (first | exact hs_eq _ _ _ | refine hs_ne (by omega) ?_ | assumption)) (by repeat (first | exact hs_eq _ _ _ | refine hs_ne (by omega) ?_ | assumption)) (by repeat (first | exact hs_eq _ _ _ | refine hs_ne (by omega) ?_ | assumption)) (by repeat (first | exact hs_eq _ _ _ | refine hs_ne (by omega) ?_ | assumption)) 0 (gg kk) (by omega) (by omega) (by rw [hgk]; exact (hG kk).1) (by rw [hgk]; exact (hG kk).2) (by rw [hf10]; exact hyi.1.1.1) (by rw [hf10]; exact hyi.1.1.2)) ml_X7_53 im_X5_raise se_X5_raise ini_X5 co_X5_raise ⟨rfl, by decide, by decide, by decide +kernel⟩ rfl (ci := 5) rfl (by repeat (first | exact hs_eq _ _ _ | refine hs_ne (by omega) ?_ | assumption)) ⟨by decide, by decide⟩ rfl (Nat.le_of_ble_eq_true rfl) ⟨Nat.zero_le _, Nat.zero_le _⟩ dX7_goesOnFor_57 ?_
              rintro _ _ ⟨rfl, rfl⟩
              rw [hf10, hgk]
              have hSw : SAt (hs (hs hkk (rc + 16 + 1 + 1) (eA 0 3 (iu f1 0 (f1 0 + mnI (GG kk) (200 - f1 0))))) (rc + 16 + 1 + 3) (eA 0 3 (iu f3 0 (f3 0 + mnI (GG kk) (200 - f1 0))))) (rc + 16) (zWind yy 0 (GG kk)) := by
                refine ⟨_, f2, _, w1, w2, w3, w4, w5, d1, d2, se, ⟨by (try simp (disch := omega) only [iu_ne, iu_eq, zWind_ne, zTake_ne, zChim_ne, zChim_16]); repeat (first | exact hs_eq _ _ _ | refine hs_ne (by omega) ?_ | assumption), (by repeat (first | exact hs_eq _ _ _ | refine hs_ne (by omega) ?_ | assumption)), (by repeat (first | exact hs_eq _ _ _ | refine hs_ne (by omega) ?_ | assumption)), (by repeat (first | exact hs_eq _ _ _ | refine hs_ne (by omega) ?_ | assumption)), (by repeat (first | exact hs_eq _ _ _ | refine hs_ne (by omega) ?_ | assumption)), by (try simp (disch := omega) only [iu_ne, iu_eq, zWind_ne, zTake_ne, zChim_ne, zChim_16]); repeat (first | exact hs_eq _ _ _ | refine hs_ne (by omega) ?_ | assumption), (by repeat (first | exact hs_eq _ _ _ | refine hs_ne (by omega) ?_ | assumption)), (by repeat (first | exact hs_eq _ _ _ | refine hs_ne (by omega) ?_ | assumption)), (by repeat (first | exact hs_eq _ _ _ | refine hs_ne (by omega) ?_ | assumption)), (by repeat (first | exact hs_eq _ _ _ | refine hs_ne (by omega) ?_ | assumption)), (by repeat (first | exact hs_eq _ _ _ | refine hs_ne (by omega) ?_ | assumption)), by (try simp (disch := omega) only [iu_ne, iu_eq, zWind_ne, zTake_ne, zChim_ne, zChim_16]); repeat (first | exact hs_eq _ _ _ | refine hs_ne (by omega) ?_ | assumption), (by repeat (first | exact hs_eq _ _ _ | refine hs_ne (by omega) ?_ | assumption)), (by repeat (first | exact hs_eq _ _ _ | refine hs_ne (by omega) ?_ | assumption)), (by repeat (first | exact hs_eq _ _ _ | refine hs_ne (by omega) ?_ | assumption))⟩, ?_⟩
                exact hsr.wind (by omega) (by omega)
              have hiw := zInv_wind hyi (w := 0) (t := GG kk) (by omega) (by omega) (hG kk).1
              rw [hf10] at hSw
              obtain ⟨fsw, qw0⟩ := hSw.obj
              refine k_pop C dX7_goesOnFor_60 rfl ?_
              refine k_aload_n C dX7_goesOnFor_61 rfl ?_
              refine k_get C (k := 1) inX7 (ci := 7) rfl (by decide) fl_X7_16 dX7_goesOnFor_62 (by repeat (first | exact hs_eq _ _ _ | refine hs_ne (by omega) ?_ | assumption)) rfl ?_
              refine k_callV C (n := 0) (as := []) (ct_X3_rewind l D tc base (rc + 16) (zWind yy 0 (GG kk)) _ hSw hiw) ml_X7_318 im_X3_rewind se_X3_rewind ini_X3 co_X3_rewind ⟨rfl, by decide, by decide, by decide +kernel⟩ rfl (ci := 3) rfl (by repeat (first | exact hs_eq _ _ _ | refine hs_ne (by omega) ?_ | assumption)) ⟨by decide, by decide⟩ rfl (Nat.le_of_ble_eq_true rfl) ⟨Nat.zero_le _, Nat.zero_le _⟩ dX7_goesOnFor_65 ?_
              rintro _ hrw ⟨rfl, hS2, hF2⟩
              have x0r := (hF2 rc (by omega)).trans (hs_ne (by omega) (hs_ne (by omega) x0k))
              have y5r := (hF2 (rc + 126) (by omega)).trans (hs_ne (by omega) (hs_ne (by omega) y5k))
              have hrw2 := zTwo_rw (zWind yy 0 (GG kk))
              have hw0 : zWind yy 0 (GG kk) 0 = ht1 := by
                rw [hht1]
                unfold zWind zMore
                simp (disch := omega) only [iu_ne, iu_eq]
              rw [hw0, zWind_ne (by omega) (by omega), zWind_ne (by omega) (by omega), zWind_ne (by omega) (by omega), hy9, hy61, hy62, hht1, hy0] at hrw2
              have hp1 := congrArg Prod.fst hrw2
              have hp2 := congrArg Prod.snd hrw2
              simp only at hp1 hp2
              have hi2 := zInv_two hiw
              have hyr61 : zTwo (zWind yy 0 (GG kk)) 61 = zrr 61 := by rw [zTwo_hi (by omega), zWind_ne (by omega) (by omega)]; exact hy61
              have hyr62 : zTwo (zWind yy 0 (GG kk)) 62 = zrr 62 := by rw [zTwo_hi (by omega), zWind_ne (by omega) (by omega)]; exact hy62
              have hF3 : Fr hkk hrw (rc + 16) 15 := fun a ha => (hF2 a (by omega)).trans (hs_ne (by omega) (hs_ne (by omega) rfl))
              clear hSw qw0
              generalize zTwo (zWind yy 0 (GG kk)) = yr at hS2 hp1 hp2 hi2 hyr61 hyr62
              have hpk0 : zPc (zrr 61) (zrr 62) GG (zrr 9) ht kk = yr 9 := hp1.symm
              have hb9 := hi2.1.2.2.2.1
              obtain ⟨f1, f2, f3, w1, w2, w3, w4, w5, d1, d2, se, ⟨g0, g1, g2, g3, g4, g5, g6, g7, g8, g9, g10, g11, g12, g13, g14⟩, hsr⟩ := id hS2
              obtain ⟨r1, r2, r3, r4⟩ := id hsr
              refine k_aload_n C dX7_goesOnFor_68 rfl ?_
              refine k_get C (k := 1) inX7 (ci := 7) rfl (by decide) fl_X7_16 dX7_goesOnFor_69 (by repeat (first | exact hs_eq _ _ _ | refine hs_ne (by omega) ?_ | assumption)) rfl ?_
              refine k_get C (k := 6) inX3 (ci := 3) rfl (by decide) fl_X7_71 dX7_goesOnFor_72 (by repeat (first | exact hs_eq _ _ _ | refine hs_ne (by omega) ?_ | assumption)) rfl ?_
              refine k_if_ne (tgt := 80) C dX7_goesOnFor_75 (by decide) ⟨by omega, by omega⟩ (fun c75 => ?_) (fun c75 => ?_)
              · try (exfalso; omega)
                all_goals (
                  refine k_aload_n C dX7_goesOnFor_80 rfl ?_
                  refine k_get C (k := 1) inX7 (ci := 7) rfl (by decide) fl_X7_16 dX7_goesOnFor_81 (by repeat (first | exact hs_eq _ _ _ | refine hs_ne (by omega) ?_ | assumption)) rfl ?_
                  refine k_dup C dX7_goesOnFor_84 rfl ?_
                  refine k_get C (k := 6) inX3 (ci := 3) rfl (by decide) fl_X7_71 dX7_goesOnFor_85 (by repeat (first | exact hs_eq _ _ _ | refine hs_ne (by omega) ?_ | assumption)) rfl ?_
                  refine k_iconst C dX7_goesOnFor_88 ?_
                  refine k_isub C dX7_goesOnFor_89 ?_
                  refine k_put C (k := 6) inX3 tyX3_ok nmX3 (ci := 3) rfl (by decide) fl_X7_71 rfl (Nat.le_of_ble_eq_true rfl) dX7_goesOnFor_90 (by repeat (first | exact hs_eq _ _ _ | refine hs_ne (by omega) ?_ | assumption)) ?_
                  refine k_iinc C dX7_goesOnFor_93 rfl (by decide) rfl ?_
                  refine k_goto (tgt := 29) C dX7_goesOnFor_96 (by decide) ?_
                  have e2 : ((kk + 1 : Nat) : Int) = (kk : Int) + 1 := by omega
                  have hSn : SAt (hs hrw (rc + 16) (eO 3 [aR (rc + 16 + 1), aR (rc + 16 + 5), aR (rc + 16 + 11), aR (rc + 16 + 14), aI (yr 13), aI (yr 10), aI (yr 9 - 1), aI (yr 11), aI (yr 12), aI (yr 14), aI (yr 15), aI (yr 16), aI (yr 17), aI (yr 18), aI (yr 19), aI (yr 20)])) (rc + 16) (iu yr 9 (yr 9 - 1)) := by
                    refine ⟨f1, f2, f3, w1, w2, w3, w4, w5, d1, d2, se, ⟨by (try simp (disch := omega) only [iu_ne, iu_eq, zWind_ne, zTake_ne, zChim_ne, zChim_16]); repeat (first | exact hs_eq _ _ _ | refine hs_ne (by omega) ?_ | assumption), (by repeat (first | exact hs_eq _ _ _ | refine hs_ne (by omega) ?_ | assumption)), (by repeat (first | exact hs_eq _ _ _ | refine hs_ne (by omega) ?_ | assumption)), (by repeat (first | exact hs_eq _ _ _ | refine hs_ne (by omega) ?_ | assumption)), (by repeat (first | exact hs_eq _ _ _ | refine hs_ne (by omega) ?_ | assumption)), by (try simp (disch := omega) only [iu_ne, iu_eq, zWind_ne, zTake_ne, zChim_ne, zChim_16]); repeat (first | exact hs_eq _ _ _ | refine hs_ne (by omega) ?_ | assumption), (by repeat (first | exact hs_eq _ _ _ | refine hs_ne (by omega) ?_ | assumption)), (by repeat (first | exact hs_eq _ _ _ | refine hs_ne (by omega) ?_ | assumption)), (by repeat (first | exact hs_eq _ _ _ | refine hs_ne (by omega) ?_ | assumption)), (by repeat (first | exact hs_eq _ _ _ | refine hs_ne (by omega) ?_ | assumption)), (by repeat (first | exact hs_eq _ _ _ | refine hs_ne (by omega) ?_ | assumption)), by (try simp (disch := omega) only [iu_ne, iu_eq, zWind_ne, zTake_ne, zChim_ne, zChim_16]); repeat (first | exact hs_eq _ _ _ | refine hs_ne (by omega) ?_ | assumption), (by repeat (first | exact hs_eq _ _ _ | refine hs_ne (by omega) ?_ | assumption)), (by repeat (first | exact hs_eq _ _ _ | refine hs_ne (by omega) ?_ | assumption)), (by repeat (first | exact hs_eq _ _ _ | refine hs_ne (by omega) ?_ | assumption))⟩, ?_⟩
                    exact hsr.free (by omega)
                  have hFn : Fr hkk (hs hrw (rc + 16) (eO 3 [aR (rc + 16 + 1), aR (rc + 16 + 5), aR (rc + 16 + 11), aR (rc + 16 + 14), aI (yr 13), aI (yr 10), aI (yr 9 - 1), aI (yr 11), aI (yr 12), aI (yr 14), aI (yr 15), aI (yr 16), aI (yr 17), aI (yr 18), aI (yr 19), aI (yr 20)])) (rc + 16) 15 := fun a ha => hs_ne (by omega) (hF3 a ha)
                  have q1 := ih (kk + 1) _ _ (by omega) (hXk.trial hFn hSn) hSn (zInv_9 hi2 (by omega)) (by rw [iu_ne (by omega)]; exact hyr61) (by rw [iu_ne (by omega)]; exact hyr62) (by rw [iu_eq, hp1]; rfl) (by rw [iu_ne (by omega), hp2]; rfl) (fun jj hj => by
                    by_cases hjk : jj = kk
                    · subst hjk
                      rw [hpk0]
                      omega
                    · exact hpc jj (by omega)) (hs_ne (by omega) y5r) (hFk.tr (hFn.wide (by omega) (by omega))) (by omega)
                  rw [e2] at q1
                  exact q1)
              · try (exfalso; omega)
                all_goals (
                  refine k_iconst C dX7_goesOnFor_78 ?_
                  refine k_zret C hr dX7_goesOnFor_79 (by omega) ?_
                  first
                    | (have e1 : kk = nn := by omega
                       subst e1
                       exact ⟨Or.inl ⟨rfl, hpc⟩, hXk, ⟨yy, hSk, hyi, hy61, hy62⟩, y5k, hFk⟩)
                    | exact ⟨Or.inr ⟨rfl, kk, by omega, by rw [hpk0]; omega⟩, hXk.trial hF3 hS2, ⟨_, hS2, hi2, hyr61, hyr62⟩, y5r, hFk.tr (hF3.wide (by omega) (by omega))⟩)))
  have hSa : SAt (hs (hs hpp (rc + 16) (eO 3 [aR (rc + 16 + 1), aR (rc + 16 + 5), aR (rc + 16 + 11), aR (rc + 16 + 14), aI (zt 13), aI (zt 10), aI (zrr 9), aI (zt 11), aI (zt 12), aI (zt 14), aI (zt 15), aI (zt 16), aI (zt 17), aI (zt 18), aI (zt 19), aI (zt 20)])) (rc + 16 + 1 + 1) (eA 0 3 (iu f1 0 ht))) (rc + 16) (iu (iu zt 9 (zrr 9)) 0 ht) := by
    refine ⟨_, f2, f3, w1, w2, w3, w4, w5, d1, d2, se, ⟨by (try simp (disch := omega) only [iu_ne, iu_eq, zWind_ne, zTake_ne, zChim_ne, zChim_16]); repeat (first | exact hs_eq _ _ _ | refine hs_ne (by omega) ?_ | assumption), (by repeat (first | exact hs_eq _ _ _ | refine hs_ne (by omega) ?_ | assumption)), (by repeat (first | exact hs_eq _ _ _ | refine hs_ne (by omega) ?_ | assumption)), (by repeat (first | exact hs_eq _ _ _ | refine hs_ne (by omega) ?_ | assumption)), (by repeat (first | exact hs_eq _ _ _ | refine hs_ne (by omega) ?_ | assumption)), by (try simp (disch := omega) only [iu_ne, iu_eq, zWind_ne, zTake_ne, zChim_ne, zChim_16]); repeat (first | exact hs_eq _ _ _ | refine hs_ne (by omega) ?_ | assumption), (by repeat (first | exact hs_eq _ _ _ | refine hs_ne (by omega) ?_ | assumption)), (by repeat (first | exact hs_eq _ _ _ | refine hs_ne (by omega) ?_ | assumption)), (by repeat (first | exact hs_eq _ _ _ | refine hs_ne (by omega) ?_ | assumption)), (by repeat (first | exact hs_eq _ _ _ | refine hs_ne (by omega) ?_ | assumption)), (by repeat (first | exact hs_eq _ _ _ | refine hs_ne (by omega) ?_ | assumption)), by (try simp (disch := omega) only [iu_ne, iu_eq, zWind_ne, zTake_ne, zChim_ne, zChim_16]); repeat (first | exact hs_eq _ _ _ | refine hs_ne (by omega) ?_ | assumption), (by repeat (first | exact hs_eq _ _ _ | refine hs_ne (by omega) ?_ | assumption)), (by repeat (first | exact hs_eq _ _ _ | refine hs_ne (by omega) ?_ | assumption)), (by repeat (first | exact hs_eq _ _ _ | refine hs_ne (by omega) ?_ | assumption))⟩, ?_⟩
    exact (hsr.free (j := 9) (v := zrr 9) (by omega)).hset (w := 0) (by omega) (by omega)
  exact loop29 721 0 _ _ (by omega) (hX.trial (fun aaa haa => hs_ne (by omega) (hs_ne (by omega) rfl)) hSa) hSa (zInv_h (zInv_9 hit (by omega)) (by omega) (by omega) hht) (by rw [iu_ne (by omega), iu_ne (by omega)]; exact hzt.1) (by rw [iu_ne (by omega), iu_ne (by omega)]; exact hzt.2) (by rw [iu_ne (by omega), iu_eq]; rfl) (by rw [iu_eq]; rfl) (fun jj hj => by omega) (hs_ne (by omega) (hs_ne (by omega) y5)) (fun a ha => hs_ne (by omega) (hs_ne (by omega) rfl)) (by omega)

set_option maxRecDepth 20000 in
set_option maxHeartbeats 1000000 in
theorem ct_X7_leastTurns (l : Launch) (D : va_G) (tc : Nat → ClassId) (base : Nat) (rc : Nat) (zrr hhi htx : Int → Int) (st ln : Int) (hpp : AH) (hX : XA hpp rc zrr hhi htx st ln) (nn : Nat) (hn : 1 ≤ nn ∧ nn ≤ 720) : CT l D tc base yX7_leastTurns cX7_leastTurns 6 (some .int) 6 [aR rc, aI nn] hpp (fun r h' => (∃ rr : Int, r = some (aI rr) ∧ zLeast zrr nn rr) ∧ XA h' rc (zrr) (hhi) (htx) (st) (ln) ∧ Fr hpp h' rc 127) := by
  refine CT.of [some (aR rc), some (aI nn), none, none, none, none] (by decide +kernel) rfl (Nat.le_of_ble_eq_true rfl) ?_
  intro p e s m args below meth c C hr hnm
  obtain ⟨zth, gr, x0, hS, hT, hH, hTx, x5, hok, h13, hst⟩ := id hX
  obtain ⟨ol, ff, hol, hj0, -⟩ := id hH
  obtain ⟨fsn, hsn0⟩ := hS.obj
  have hi := hok.1
  obtain ⟨⟨v0, v1, v2, v9, v10, v11, v12, v13, v21, v52, v61, v62, v63, v64, v65, v66⟩, hwi, hde⟩ := id hi
  obtain ⟨f1, f2, f3, w1, w2, w3, w4, w5, d1, d2, se, ⟨g0, g1, g2, g3, g4, g5, g6, g7, g8, g9, g10, g11, g12, g13, g14⟩, hsr⟩ := id hS
  obtain ⟨r1, r2, r3, r4⟩ := id hsr
  have hf10 := (r1 0 (by omega) (by omega)).1
  have hgr : ∀ jj : Nat, 0 ≤ zGt (zNt zrr jj) ∧ zGt (zNt zrr jj) ≤ 200 := fun jj => zGt_rng (zOk_nt hok jj).1.1
  have hsg := zGs_rng (G := fun k => zGt (zNt zrr k)) hgr nn
  refine k_iload_n C dX7_leastTurns_0 rfl ?_
  refine k_iconst C dX7_leastTurns_1 ?_
  refine k_sipush C dX7_leastTurns_2 (by decide +kernel) ?_
  refine k_callS C (n := 3) (as := [_, _, _]) (ct_X7_requireRange l D tc base _ _ _ _ ⟨by omega, by omega⟩ ⟨by omega, by omega⟩ ⟨by omega, by omega⟩) ml_X7_41 sm_X7_requireRange ini_X7 co_X7_requireRange ⟨by decide, by decide, by decide +kernel⟩ rfl ⟨by decide, by decide⟩ rfl (Nat.le_of_ble_eq_true rfl) ⟨Nat.zero_le _, Nat.zero_le _⟩ dX7_leastTurns_5 ?_
  rintro _ _ ⟨rfl, rfl⟩
  refine k_aload_n C dX7_leastTurns_8 rfl ?_
  refine k_get C (k := 0) inX7 (ci := 7) rfl (by decide) fl_X7_10 dX7_leastTurns_9 (by repeat (first | exact hs_eq _ _ _ | refine hs_ne (by omega) ?_ | assumption)) rfl ?_
  refine k_get C (k := 0) inX3 (ci := 3) rfl (by decide) fl_X7_49 dX7_leastTurns_12 (by repeat (first | exact hs_eq _ _ _ | refine hs_ne (by omega) ?_ | assumption)) rfl ?_
  refine k_get C (k := 0) inX5 (ci := 5) rfl (by decide) fl_X7_175 dX7_leastTurns_15 (by repeat (first | exact hs_eq _ _ _ | refine hs_ne (by omega) ?_ | assumption)) rfl ?_
  refine k_iconst C dX7_leastTurns_18 ?_
  refine k_iaload C dX7_leastTurns_19 (by repeat (first | exact hs_eq _ _ _ | refine hs_ne (by omega) ?_ | assumption)) (by omega) (by omega) (by omega) ?_
  refine k_istore_n C dX7_leastTurns_20 (by decide) rfl ?_
  rw [hf10]
  refine k_aload_n C dX7_leastTurns_21 rfl ?_
  refine k_get C (k := 0) inX7 (ci := 7) rfl (by decide) fl_X7_10 dX7_leastTurns_22 (by repeat (first | exact hs_eq _ _ _ | refine hs_ne (by omega) ?_ | assumption)) rfl ?_
  refine k_get C (k := 6) inX3 (ci := 3) rfl (by decide) fl_X7_71 dX7_leastTurns_25 (by repeat (first | exact hs_eq _ _ _ | refine hs_ne (by omega) ?_ | assumption)) rfl ?_
  refine k_iload_n C dX7_leastTurns_28 rfl ?_
  refine k_iadd C dX7_leastTurns_29 ?_
  refine k_aload_n C dX7_leastTurns_30 rfl ?_
  refine k_iload_n C dX7_leastTurns_31 rfl ?_
  refine k_callV C (n := 1) (as := [_]) (ct_X7_noteGoingRounds l D tc base rc zrr hhi htx st ln _ hX nn hn) ml_X7_261 im_X7_noteGoingRounds se_X7_noteGoingRounds ini_X7 co_X7_noteGoingRounds ⟨rfl, by decide, by decide, by decide +kernel⟩ rfl (ci := 7) rfl (by repeat (first | exact hs_eq _ _ _ | refine hs_ne (by omega) ?_ | assumption)) ⟨by decide, by decide⟩ rfl (Nat.le_of_ble_eq_true rfl) ⟨Nat.zero_le _, Nat.zero_le _⟩ dX7_leastTurns_32 ?_
  rintro _ hng ⟨rfl, hXn, hSn, ⟨gg, y5, hgg⟩, hFn⟩
  refine k_iadd C dX7_leastTurns_35 ?_
  refine k_istore_n C dX7_leastTurns_36 (by decide) rfl ?_
  refine k_iconst C dX7_leastTurns_37 ?_
  refine k_iload_n C dX7_leastTurns_38 rfl ?_
  refine k_iload_n C dX7_leastTurns_39 rfl ?_
  refine k_isub C dX7_leastTurns_40 ?_
  refine k_callS C (n := 2) (as := [_, _]) (ct_J9_max_7cf53 l D tc base _ _ _ ⟨by omega, by omega⟩ ⟨by omega, by omega⟩) ml_X7_198 sm_J9_max_7cf53 ini_J9 co_J9_max_7cf53 ⟨by decide, by decide, by decide +kernel⟩ rfl ⟨by decide, by decide⟩ rfl (Nat.le_of_ble_eq_true rfl) ⟨Nat.zero_le _, Nat.zero_le _⟩ dX7_leastTurns_41 ?_
  rintro _ _ ⟨rfl, rfl⟩
  refine k_istore C dX7_leastTurns_44 (by decide) rfl ?_
  refine k_iload C dX7_leastTurns_46 rfl ?_
  refine k_istore C dX7_leastTurns_48 (by decide) rfl ?_
  have loop50 : ∀ (n : Nat) (kk : Int) (hkk : AH) (zt : RZ), 0 ≤ kk → kk ≤ 1000 → (∀ t : Int, 0 ≤ t → t < kk → t ≤ 200 - zrr 0 → ¬ zGoes zrr t nn) → XA hkk rc zrr hhi htx st ln → SAt hkk (rc + 16) zt → zInv zt → zt 61 = zrr 61 → zt 62 = zrr 62 → hkk (rc + 126) = some (eA 0 720 gg) → Fr hpp hkk rc 127 → (1001 : Int) - kk < (n : Int) → Wk D tc base 6 p l e (lvR 6) s m args below meth c 0 0 (MQ below (Qx D tc base (fun r h' => (∃ rr : Int, r = some (aI rr) ∧ zLeast zrr nn rr) ∧ XA h' rc (zrr) (hhi) (htx) (st) (ln) ∧ Fr hpp h' rc 127)) args s 0 0 (fun q => base ≤ q)) 50 [some (aR rc), some (aI nn), some (aI (zrr 0)), none, none, some (aI kk)] [] hkk := by
    intro n
    induction n with
    | zero =>
      intro kk hkk zt hk0 hk1 hno hXk hSk hit hz61 hz62 y5k hFk hmu
      exfalso
      omega
    | succ n ih =>
      intro kk hkk zt hk0 hk1 hno hXk hSk hit hz61 hz62 y5k hFk hmu
      obtain ⟨ztk, grk, x0k, -⟩ := id hXk
      refine k_iload C dX7_leastTurns_50 rfl ?_
      refine k_sipush C dX7_leastTurns_52 (by decide +kernel) ?_
      refine k_iload_n C dX7_leastTurns_55 rfl ?_
      refine k_isub C dX7_leastTurns_56 ?_
      refine k_icmp_gt (tgt := 81) C dX7_leastTurns_57 (by decide) ⟨by omega, by omega⟩ ⟨by omega, by omega⟩ (fun c57 => ?_) (fun c57 => ?_)
      · try (exfalso; omega)
        all_goals (
          refine k_iconst C dX7_leastTurns_81 ?_
          refine k_iret C hr dX7_leastTurns_82 ?_
          first
            | exact ⟨⟨kk, rfl, Or.inl ⟨hk0, by omega, hpc.mpr hrr, fun t t0 t1 => hno t t0 t1 (by omega)⟩⟩, hXg, hFk.tr hFg⟩
            | exact ⟨⟨-1, rfl, Or.inr ⟨rfl, fun t t0 t1 => hno t t0 (by omega) t1⟩⟩, hXk, hFk⟩)
      · try (exfalso; omega)
        all_goals (
          refine k_aload_n C dX7_leastTurns_60 rfl ?_
          refine k_iload_n C dX7_leastTurns_61 rfl ?_
          refine k_iload_n C dX7_leastTurns_62 rfl ?_
          refine k_iload C dX7_leastTurns_63 rfl ?_
          refine k_iadd C dX7_leastTurns_65 ?_
          refine k_callV C (n := 2) (as := [_, _]) (ct_X7_goesOnFor l D tc base rc zrr hhi htx st ln _ hXk nn hn (zrr 0 + kk) ⟨by omega, by omega⟩ zt hSk hit ⟨hz61, hz62⟩ gg y5k (fun k => zGt (zNt zrr k)) hgr hgg) ml_X7_264 im_X7_goesOnFor se_X7_goesOnFor ini_X7 co_X7_goesOnFor ⟨rfl, by decide, by decide, by decide +kernel⟩ rfl (ci := 7) rfl (by repeat (first | exact hs_eq _ _ _ | refine hs_ne (by omega) ?_ | assumption)) ⟨by decide, by decide⟩ rfl (Nat.le_of_ble_eq_true rfl) ⟨Nat.zero_le _, Nat.zero_le _⟩ dX7_leastTurns_66 ?_
          rintro _ hgo ⟨⟨rfl, hrr⟩ | ⟨rfl, hrr⟩, hXg, ⟨zt2, hSg, hig, hg61, hg62⟩, y5g, hFg⟩
          · skip
            have hpc := zGoes_pc hok (t := kk) ⟨by omega, by omega⟩ nn
            refine k_if_eq (tgt := 75) C dX7_leastTurns_69 (by decide) ⟨by omega, by omega⟩ (fun c69 => ?_) (fun c69 => ?_)
            · try (exfalso; omega)
              all_goals (
                refine k_iinc C dX7_leastTurns_75 rfl (by decide) rfl ?_
                refine k_goto (tgt := 50) C dX7_leastTurns_78 (by decide) ?_
                have hno2 : ∀ t : Int, 0 ≤ t → t < kk + 1 → t ≤ 200 - zrr 0 → ¬ zGoes zrr t nn := fun t t0 t1 t2 => by
                  by_cases htk : t = kk
                  · subst htk
                    exact fun hg => by
                      obtain ⟨jj, j0, j1⟩ := hrr
                      exact hpc.mp hg jj j0 j1
                  · exact hno t t0 (by omega) t2
                have q1 := ih (kk + 1) hgo zt2 (by omega) (by omega) hno2 hXg hSg hig hg61 hg62 y5g (hFk.tr hFg) (by omega)
                exact q1)
            · try (exfalso; omega)
              all_goals (
                refine k_iload C dX7_leastTurns_72 rfl ?_
                refine k_iret C hr dX7_leastTurns_74 ?_
                first
                  | exact ⟨⟨kk, rfl, Or.inl ⟨hk0, by omega, hpc.mpr hrr, fun t t0 t1 => hno t t0 t1 (by omega)⟩⟩, hXg, hFk.tr hFg⟩
                  | exact ⟨⟨-1, rfl, Or.inr ⟨rfl, fun t t0 t1 => hno t t0 (by omega) t1⟩⟩, hXk, hFk⟩)
          · skip
            have hpc := zGoes_pc hok (t := kk) ⟨by omega, by omega⟩ nn
            refine k_if_eq (tgt := 75) C dX7_leastTurns_69 (by decide) ⟨by omega, by omega⟩ (fun c69 => ?_) (fun c69 => ?_)
            · try (exfalso; omega)
              all_goals (
                refine k_iinc C dX7_leastTurns_75 rfl (by decide) rfl ?_
                refine k_goto (tgt := 50) C dX7_leastTurns_78 (by decide) ?_
                have hno2 : ∀ t : Int, 0 ≤ t → t < kk + 1 → t ≤ 200 - zrr 0 → ¬ zGoes zrr t nn := fun t t0 t1 t2 => by
                  by_cases htk : t = kk
                  · subst htk
                    exact fun hg => by
                      obtain ⟨jj, j0, j1⟩ := hrr
                      exact hpc.mp hg jj j0 j1
                  · exact hno t t0 (by omega) t2
                have q1 := ih (kk + 1) hgo zt2 (by omega) (by omega) hno2 hXg hSg hig hg61 hg62 y5g (hFk.tr hFg) (by omega)
                exact q1)
            · try (exfalso; omega)
              all_goals (
                refine k_iload C dX7_leastTurns_72 rfl ?_
                refine k_iret C hr dX7_leastTurns_74 ?_
                first
                  | exact ⟨⟨kk, rfl, Or.inl ⟨hk0, by omega, hpc.mpr hrr, fun t t0 t1 => hno t t0 t1 (by omega)⟩⟩, hXg, hFk.tr hFg⟩
                  | exact ⟨⟨-1, rfl, Or.inr ⟨rfl, fun t t0 t1 => hno t t0 (by omega) t1⟩⟩, hXk, hFk⟩))
  have hfirst : ∀ t : Int, 0 ≤ t → t < (if 0 < (nn : Int) - (zrr 9 + zrr 0 + (zGs (fun k => zGt (zNt zrr k)) nn)) then (nn : Int) - (zrr 9 + zrr 0 + (zGs (fun k => zGt (zNt zrr k)) nn)) else 0) → t ≤ 200 - zrr 0 → ¬ zGoes zrr t nn := fun t t0 t1 t2 hg => by
    have hp := (zGoes_pc hok ⟨t0, t2⟩ nn).mp hg
    have hq := zPr_rng (a := zrr 61) (b := zrr 62) (G := fun k => zGt (zNt zrr k)) (c0 := zrr 9) (h0 := zrr 0 + t) v61 (fun k => (hgr k).1) v9 ⟨by omega, by omega⟩ nn hp
    split at t1 <;> omega
  have q1 := loop50 1002 (if 0 < (nn : Int) - (zrr 9 + zrr 0 + (zGs (fun k => zGt (zNt zrr k)) nn)) then (nn : Int) - (zrr 9 + zrr 0 + (zGs (fun k => zGt (zNt zrr k)) nn)) else 0) hng (zNt zrr nn) (by split <;> omega) (by split <;> omega) hfirst hXn hSn (zOk_nt hok nn).1.1 (zNt_61 hok nn 61 (by omega)) (zNt_61 hok nn 62 (by omega)) y5 hFn (by split <;> omega)
  exact k_sub q1 (And.intro rfl (And.intro rfl (And.intro rfl (And.intro rfl trivial))))
