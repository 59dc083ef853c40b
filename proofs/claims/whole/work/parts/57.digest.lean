set_option maxRecDepth 20000 in
set_option maxHeartbeats 1000000 in
theorem ct_X7_hashOfParts (l : Launch) (D : va_G) (tc : Nat → ClassId) (base : Nat) (rc : Nat) (zrr hhi htx : Int → Int) (st ln : Int) (hpp : AH) (hX : XA hpp rc zrr hhi htx st ln) : CT l D tc base yX7_hashOfParts cX7_hashOfParts 7 (some .long) 3 [aR rc, aL 2311] hpp (fun r h' => r = some (aL (hParts zrr st)) ∧ hpp = h') := by
  refine CT.of [some (aR rc), some (aL 2311), none, none, none, none, none] (by decide +kernel) rfl (Nat.le_of_ble_eq_true rfl) ?_
  intro p e s m args below meth c C hr hnm
  obtain ⟨zth, gr, x0, hS, hT, hH, hTx, x5, hok, h13, hst⟩ := id hX
  obtain ⟨ol, ff, hol, hj0, -⟩ := id hH
  obtain ⟨fsn, hsn0⟩ := hS.obj
  have hi := hok.1
  obtain ⟨⟨v0, v1, v2, v9, v10, v11, v12, v13, v21, v52, v61, v62, v63, v64, v65, v66⟩, hwi, hde⟩ := id hi
  obtain ⟨f1, f2, f3, w1, w2, w3, w4, w5, d1, d2, se, ⟨g0, g1, g2, g3, g4, g5, g6, g7, g8, g9, g10, g11, g12, g13, g14⟩, hsr⟩ := id hS
  obtain ⟨r1, r2, r3, r4⟩ := id hsr
  refine k_lload_n C dX7_hashOfParts_0 rfl ?_
  refine k_lstore_n C dX7_hashOfParts_1 (by decide) rfl ?_
  refine k_iconst C dX7_hashOfParts_2 ?_
  refine k_istore C dX7_hashOfParts_3 (by decide) rfl ?_
  have loop5 : ∀ (n : Nat) (kk : Nat), (kk : Int) ≤ 18 → (18 : Int) - kk < (n : Int) → Wk D tc base 7 p l e (lvR 3) s m args below meth c 0 0 (MQ below (Qx D tc base (fun r h' => r = some (aL (hParts zrr st)) ∧ hpp = h')) args s 0 0 (fun q => base ≤ q)) 5 [some (aR rc), some (aL 2311), none, some (aL (hF 2311 (fun k : Nat => sx (zCnt zrr st k)) kk)), none, some (aI kk), none] [] hpp := by
    intro n
    induction n with
    | zero =>
      intro kk hk hmu
      exfalso
      omega
    | succ n ih =>
      intro kk hk hmu
      refine k_iload C dX7_hashOfParts_5 rfl ?_
      refine k_bipush C dX7_hashOfParts_7 (by decide +kernel) ?_
      refine k_icmp_ge (tgt := 30) C dX7_hashOfParts_9 (by decide) ⟨by omega, by omega⟩ ⟨by omega, by omega⟩ (fun c9 => ?_) (fun c9 => ?_)
      · try (exfalso; omega)
        all_goals (
          refine k_iconst C dX7_hashOfParts_30 ?_
          refine k_istore C dX7_hashOfParts_31 (by decide) rfl ?_
          have loop33 : ∀ (n : Nat) (kk : Nat), (kk : Int) ≤ 6 → (6 : Int) - kk < (n : Int) → Wk D tc base 7 p l e (lvR 3) s m args below meth c 0 0 (MQ below (Qx D tc base (fun r h' => r = some (aL (hParts zrr st)) ∧ hpp = h')) args s 0 0 (fun q => base ≤ q)) 33 [some (aR rc), some (aL 2311), none, some (aL (hF (hF 2311 (fun k : Nat => sx (zCnt zrr st k)) 18) (fun k : Nat => sx (zrr (61 + k))) kk)), none, some (aI kk), none] [] hpp := by
            intro n
            induction n with
            | zero =>
              intro kk hk hmu
              exfalso
              omega
            | succ n ih =>
              intro kk hk hmu
              refine k_iload C dX7_hashOfParts_33 rfl ?_
              refine k_bipush C dX7_hashOfParts_35 (by decide +kernel) ?_
              refine k_icmp_ge (tgt := 58) C dX7_hashOfParts_37 (by decide) ⟨by omega, by omega⟩ ⟨by omega, by omega⟩ (fun c37 => ?_) (fun c37 => ?_)
              · try (exfalso; omega)
                all_goals (
                  refine k_iconst C dX7_hashOfParts_58 ?_
                  refine k_istore C dX7_hashOfParts_59 (by decide) rfl ?_
                  have loop61 : ∀ (n : Nat) (ii : Nat), (ii : Int) ≤ 3 → (3 : Int) - ii < (n : Int) → Wk D tc base 7 p l e (lvR 3) s m args below meth c 0 0 (MQ below (Qx D tc base (fun r h' => r = some (aL (hParts zrr st)) ∧ hpp = h')) args s 0 0 (fun q => base ≤ q)) 61 [some (aR rc), some (aL 2311), none, some (aL (hF (hF (hF 2311 (fun k : Nat => sx (zCnt zrr st k)) 18) (fun k : Nat => sx (zrr (61 + k))) 6) (fun k : Nat => sx (zrr (3 * ((k : Int) % 3) + (k : Int) / 3))) (3 * ii))), none, some (aI ii), none] [] hpp := by
                    intro n
                    induction n with
                    | zero =>
                      intro ii hii hmu
                      exfalso
                      omega
                    | succ n iho =>
                      intro ii hii hmu
                      refine k_iload C dX7_hashOfParts_61 rfl ?_
                      refine k_iconst C dX7_hashOfParts_63 ?_
                      refine k_icmp_ge (tgt := 102) C dX7_hashOfParts_64 (by decide) ⟨by omega, by omega⟩ ⟨by omega, by omega⟩ (fun c64 => ?_) (fun c64 => ?_)
                      · try (exfalso; omega)
                        all_goals (
                          refine k_iconst C dX7_hashOfParts_102 ?_
                          refine k_istore C dX7_hashOfParts_103 (by decide) rfl ?_
                          have loop105 : ∀ (n : Nat) (ii : Nat), (ii : Int) ≤ zrr 21 → (zrr 21 : Int) - ii < (n : Int) → Wk D tc base 7 p l e (lvR 3) s m args below meth c 0 0 (MQ below (Qx D tc base (fun r h' => r = some (aL (hParts zrr st)) ∧ hpp = h')) args s 0 0 (fun q => base ≤ q)) 105 [some (aR rc), some (aL 2311), none, some (aL (hF (hF (hF (hF 2311 (fun k : Nat => sx (zCnt zrr st k)) 18) (fun k : Nat => sx (zrr (61 + k))) 6) (fun k : Nat => sx (zrr (3 * ((k : Int) % 3) + (k : Int) / 3))) 9) (fun k : Nat => sx (zWin zrr ((k : Int) / 6) ((k : Int) % 6))) (6 * ii))), none, some (aI ii), none] [] hpp := by
                            intro n
                            induction n with
                            | zero =>
                              intro ii hii hmu
                              exfalso
                              omega
                            | succ n iho =>
                              intro ii hii hmu
                              refine k_iload C dX7_hashOfParts_105 rfl ?_
                              refine k_aload_n C dX7_hashOfParts_107 rfl ?_
                              refine k_get C (k := 0) inX7 (ci := 7) rfl (by decide) fl_X7_10 dX7_hashOfParts_108 (by repeat (first | exact hs_eq _ _ _ | refine hs_ne (by omega) ?_ | assumption)) rfl ?_
                              refine k_get C (k := 1) inX3 (ci := 3) rfl (by decide) fl_X7_105 dX7_hashOfParts_111 (by repeat (first | exact hs_eq _ _ _ | refine hs_ne (by omega) ?_ | assumption)) rfl ?_
                              refine k_get C (k := 0) inX6 (ci := 6) rfl (by decide) fl_X7_109 dX7_hashOfParts_114 (by repeat (first | exact hs_eq _ _ _ | refine hs_ne (by omega) ?_ | assumption)) rfl ?_
                              refine k_icmp_ge (tgt := 156) C dX7_hashOfParts_117 (by decide) ⟨by omega, by omega⟩ ⟨by omega, by omega⟩ (fun c117 => ?_) (fun c117 => ?_)
                              · try (exfalso; omega)
                                all_goals (
                                  refine k_iconst C dX7_hashOfParts_156 ?_
                                  refine k_istore C dX7_hashOfParts_157 (by decide) rfl ?_
                                  have loop159 : ∀ (n : Nat) (ii : Nat), (ii : Int) ≤ zrr 52 → (zrr 52 : Int) - ii < (n : Int) → Wk D tc base 7 p l e (lvR 3) s m args below meth c 0 0 (MQ below (Qx D tc base (fun r h' => r = some (aL (hParts zrr st)) ∧ hpp = h')) args s 0 0 (fun q => base ≤ q)) 159 [some (aR rc), some (aL 2311), none, some (aL (hF (hF (hF (hF (hF 2311 (fun k : Nat => sx (zCnt zrr st k)) 18) (fun k : Nat => sx (zrr (61 + k))) 6) (fun k : Nat => sx (zrr (3 * ((k : Int) % 3) + (k : Int) / 3))) 9) (fun k : Nat => sx (zWin zrr ((k : Int) / 6) ((k : Int) % 6))) (6 * (zrr 21).toNat)) (fun k : Nat => sx (zrr (53 + k))) (2 * ii))), none, some (aI ii), none] [] hpp := by
                                    intro n
                                    induction n with
                                    | zero =>
                                      intro ii hii hmu
                                      exfalso
                                      omega
                                    | succ n iho =>
                                      intro ii hii hmu
                                      refine k_iload C dX7_hashOfParts_159 rfl ?_
                                      refine k_aload_n C dX7_hashOfParts_161 rfl ?_
                                      refine k_get C (k := 0) inX7 (ci := 7) rfl (by decide) fl_X7_10 dX7_hashOfParts_162 (by repeat (first | exact hs_eq _ _ _ | refine hs_ne (by omega) ?_ | assumption)) rfl ?_
                                      refine k_get C (k := 2) inX3 (ci := 3) rfl (by decide) fl_X7_89 dX7_hashOfParts_165 (by repeat (first | exact hs_eq _ _ _ | refine hs_ne (by omega) ?_ | assumption)) rfl ?_
                                      refine k_get C (k := 0) inX0 (ci := 0) rfl (by decide) fl_X7_99 dX7_hashOfParts_168 (by repeat (first | exact hs_eq _ _ _ | refine hs_ne (by omega) ?_ | assumption)) rfl ?_
                                      refine k_icmp_ge (tgt := 209) C dX7_hashOfParts_171 (by decide) ⟨by omega, by omega⟩ ⟨by omega, by omega⟩ (fun c171 => ?_) (fun c171 => ?_)
                                      · try (exfalso; omega)
                                        all_goals (
                                          refine k_lload_n C dX7_hashOfParts_209 rfl ?_
                                          refine k_lret C hr dX7_hashOfParts_210 ?_
                                          have e1 : ii = (zrr 52).toNat := by omega
                                          subst e1
                                          exact ⟨rfl, rfl⟩)
                                      · try (exfalso; omega)
                                        all_goals (
                                          refine k_iconst C dX7_hashOfParts_174 ?_
                                          refine k_istore C dX7_hashOfParts_175 (by decide) rfl ?_
                                          have loop177 : ∀ (n : Nat) (jj : Nat), (jj : Int) ≤ 2 → (2 : Int) - jj < (n : Int) → Wk D tc base 7 p l e (lvR 3) s m args below meth c 0 0 (MQ below (Qx D tc base (fun r h' => r = some (aL (hParts zrr st)) ∧ hpp = h')) args s 0 0 (fun q => base ≤ q)) 177 [some (aR rc), some (aL 2311), none, some (aL (hF (hF (hF (hF (hF 2311 (fun k : Nat => sx (zCnt zrr st k)) 18) (fun k : Nat => sx (zrr (61 + k))) 6) (fun k : Nat => sx (zrr (3 * ((k : Int) % 3) + (k : Int) / 3))) 9) (fun k : Nat => sx (zWin zrr ((k : Int) / 6) ((k : Int) % 6))) (6 * (zrr 21).toNat)) (fun k : Nat => sx (zrr (53 + k))) (2 * ii + jj))), none, some (aI ii), some (aI jj)] [] hpp := by
                                            intro n
                                            induction n with
                                            | zero =>
                                              intro jj hjj hmu
                                              exfalso
                                              omega
                                            | succ n ih =>
                                              intro jj hjj hmu
                                              refine k_iload C dX7_hashOfParts_177 rfl ?_
                                              refine k_iconst C dX7_hashOfParts_179 ?_
                                              refine k_icmp_ge (tgt := 203) C dX7_hashOfParts_180 (by decide) ⟨by omega, by omega⟩ ⟨by omega, by omega⟩ (fun c180 => ?_) (fun c180 => ?_)
                                              · try (exfalso; omega)
                                                all_goals (
                                                  refine k_iinc C dX7_hashOfParts_203 rfl (by decide) rfl ?_
                                                  refine k_goto (tgt := 159) C dX7_hashOfParts_206 (by decide) ?_
                                                  have e2 : ((ii + 1 : Nat) : Int) = (ii : Int) + 1 := by omega
                                                  have q1 := iho (ii + 1) (by omega) (by omega)
                                                  rw [e2, show 2 * (ii + 1) = 2 * ii + jj by omega] at q1
                                                  exact k_sub q1 (And.intro rfl (And.intro rfl (And.intro rfl (And.intro rfl trivial)))))
                                              · try (exfalso; omega)
                                                all_goals (
                                                  refine k_lload_n C dX7_hashOfParts_183 rfl ?_
                                                  refine k_aload_n C dX7_hashOfParts_184 rfl ?_
                                                  refine k_iload C dX7_hashOfParts_185 rfl ?_
                                                  refine k_iload C dX7_hashOfParts_187 rfl ?_
                                                  refine k_callV C (n := 2) (as := [_, _]) (ct_X7_debt l D tc base rc zrr hhi htx st ln _ hX _ _ ⟨by omega, by omega⟩ ⟨by omega, by omega⟩) ml_X7_335 im_X7_debt se_X7_debt ini_X7 co_X7_debt ⟨rfl, by decide, by decide, by decide +kernel⟩ rfl (ci := 7) rfl (by repeat (first | exact hs_eq _ _ _ | refine hs_ne (by omega) ?_ | assumption)) ⟨by decide, by decide⟩ rfl (Nat.le_of_ble_eq_true rfl) ⟨Nat.zero_le _, Nat.zero_le _⟩ dX7_hashOfParts_189 ?_
                                                  rintro _ _ ⟨rfl, rfl⟩
                                                  refine k_i2l C dX7_hashOfParts_192 ?_
                                                  refine k_callS C (n := 2) (as := [_, _]) (ct_X7_hashWith l D tc base _ _ _) ml_X7_280 sm_X7_hashWith ini_X7 co_X7_hashWith ⟨by decide, by decide, by decide +kernel⟩ rfl ⟨by decide, by decide⟩ rfl (Nat.le_of_ble_eq_true rfl) ⟨Nat.zero_le _, Nat.zero_le _⟩ dX7_hashOfParts_193 ?_
                                                  rintro _ _ ⟨rfl, rfl⟩
                                                  refine k_lstore_n C dX7_hashOfParts_196 (by decide) rfl ?_
                                                  refine k_iinc C dX7_hashOfParts_197 rfl (by decide) rfl ?_
                                                  refine k_goto (tgt := 177) C dX7_hashOfParts_200 (by decide) ?_
                                                  have e2 : ((jj + 1 : Nat) : Int) = (jj : Int) + 1 := by omega
                                                  have q1 := ih (jj + 1) (by omega) (by omega)
                                                  have ef : hF (hF (hF (hF (hF 2311 (fun k : Nat => sx (zCnt zrr st k)) 18) (fun k : Nat => sx (zrr (61 + k))) 6) (fun k : Nat => sx (zrr (3 * ((k : Int) % 3) + (k : Int) / 3))) 9) (fun k : Nat => sx (zWin zrr ((k : Int) / 6) ((k : Int) % 6))) (6 * (zrr 21).toNat)) (fun k : Nat => sx (zrr (53 + k))) (2 * ii + (jj + 1)) = 31 * hF (hF (hF (hF (hF 2311 (fun k : Nat => sx (zCnt zrr st k)) 18) (fun k : Nat => sx (zrr (61 + k))) 6) (fun k : Nat => sx (zrr (3 * ((k : Int) % 3) + (k : Int) / 3))) 9) (fun k : Nat => sx (zWin zrr ((k : Int) / 6) ((k : Int) % 6))) (6 * (zrr 21).toNat)) (fun k : Nat => sx (zrr (53 + k))) (2 * ii + jj) + sx (zrr (53 + 2 * (ii : Int) + jj)) := by
                                                    show 31 * hF (hF (hF (hF (hF 2311 (fun k : Nat => sx (zCnt zrr st k)) 18) (fun k : Nat => sx (zrr (61 + k))) 6) (fun k : Nat => sx (zrr (3 * ((k : Int) % 3) + (k : Int) / 3))) 9) (fun k : Nat => sx (zWin zrr ((k : Int) / 6) ((k : Int) % 6))) (6 * (zrr 21).toNat)) (fun k : Nat => sx (zrr (53 + k))) (2 * ii + jj) + (fun k : Nat => sx (zrr (53 + k))) (2 * ii + jj) = _
                                                    refine congrArg (fun qq => 31 * hF (hF (hF (hF (hF 2311 (fun k : Nat => sx (zCnt zrr st k)) 18) (fun k : Nat => sx (zrr (61 + k))) 6) (fun k : Nat => sx (zrr (3 * ((k : Int) % 3) + (k : Int) / 3))) 9) (fun k : Nat => sx (zWin zrr ((k : Int) / 6) ((k : Int) % 6))) (6 * (zrr 21).toNat)) (fun k : Nat => sx (zrr (53 + k))) (2 * ii + jj) + sx qq) ?_
                                                    show zrr (53 + ((2 * ii + jj : Nat) : Int)) = _
                                                    congr 1
                                                    omega
                                                  rw [e2, ef] at q1
                                                  exact q1)
                                          exact loop177 3 0 (by omega) (by omega))
                                  have e1 : ii = (zrr 21).toNat := by omega
                                  subst e1
                                  exact loop159 20000 0 (by omega) (by omega))
                              · try (exfalso; omega)
                                all_goals (
                                  refine k_iconst C dX7_hashOfParts_120 ?_
                                  refine k_istore C dX7_hashOfParts_121 (by decide) rfl ?_
                                  have loop123 : ∀ (n : Nat) (jj : Nat), (jj : Int) ≤ 6 → (6 : Int) - jj < (n : Int) → Wk D tc base 7 p l e (lvR 3) s m args below meth c 0 0 (MQ below (Qx D tc base (fun r h' => r = some (aL (hParts zrr st)) ∧ hpp = h')) args s 0 0 (fun q => base ≤ q)) 123 [some (aR rc), some (aL 2311), none, some (aL (hF (hF (hF (hF 2311 (fun k : Nat => sx (zCnt zrr st k)) 18) (fun k : Nat => sx (zrr (61 + k))) 6) (fun k : Nat => sx (zrr (3 * ((k : Int) % 3) + (k : Int) / 3))) 9) (fun k : Nat => sx (zWin zrr ((k : Int) / 6) ((k : Int) % 6))) (6 * ii + jj))), none, some (aI ii), some (aI jj)] [] hpp := by
                                    intro n
                                    induction n with
                                    | zero =>
                                      intro jj hjj hmu
                                      exfalso
                                      omega
                                    | succ n ih =>
                                      intro jj hjj hmu
                                      refine k_iload C dX7_hashOfParts_123 rfl ?_
                                      refine k_bipush C dX7_hashOfParts_125 (by decide +kernel) ?_
                                      refine k_icmp_ge (tgt := 150) C dX7_hashOfParts_127 (by decide) ⟨by omega, by omega⟩ ⟨by omega, by omega⟩ (fun c127 => ?_) (fun c127 => ?_)
                                      · try (exfalso; omega)
                                        all_goals (
                                          refine k_iinc C dX7_hashOfParts_150 rfl (by decide) rfl ?_
                                          refine k_goto (tgt := 105) C dX7_hashOfParts_153 (by decide) ?_
                                          have e2 : ((ii + 1 : Nat) : Int) = (ii : Int) + 1 := by omega
                                          have q1 := iho (ii + 1) (by omega) (by omega)
                                          rw [e2, show 6 * (ii + 1) = 6 * ii + jj by omega] at q1
                                          exact k_sub q1 (And.intro rfl (And.intro rfl (And.intro rfl (And.intro rfl trivial)))))
                                      · try (exfalso; omega)
                                        all_goals (
                                          refine k_lload_n C dX7_hashOfParts_130 rfl ?_
                                          refine k_aload_n C dX7_hashOfParts_131 rfl ?_
                                          refine k_iload C dX7_hashOfParts_132 rfl ?_
                                          refine k_iload C dX7_hashOfParts_134 rfl ?_
                                          refine k_callV C (n := 2) (as := [_, _]) (ct_X7_winder l D tc base rc zrr hhi htx st ln _ hX _ _ ⟨by omega, by omega⟩ ⟨by omega, by omega⟩) ml_X7_332 im_X7_winder se_X7_winder ini_X7 co_X7_winder ⟨rfl, by decide, by decide, by decide +kernel⟩ rfl (ci := 7) rfl (by repeat (first | exact hs_eq _ _ _ | refine hs_ne (by omega) ?_ | assumption)) ⟨by decide, by decide⟩ rfl (Nat.le_of_ble_eq_true rfl) ⟨Nat.zero_le _, Nat.zero_le _⟩ dX7_hashOfParts_136 ?_
                                          rintro _ _ ⟨rfl, rfl⟩
                                          refine k_i2l C dX7_hashOfParts_139 ?_
                                          refine k_callS C (n := 2) (as := [_, _]) (ct_X7_hashWith l D tc base _ _ _) ml_X7_280 sm_X7_hashWith ini_X7 co_X7_hashWith ⟨by decide, by decide, by decide +kernel⟩ rfl ⟨by decide, by decide⟩ rfl (Nat.le_of_ble_eq_true rfl) ⟨Nat.zero_le _, Nat.zero_le _⟩ dX7_hashOfParts_140 ?_
                                          rintro _ _ ⟨rfl, rfl⟩
                                          refine k_lstore_n C dX7_hashOfParts_143 (by decide) rfl ?_
                                          refine k_iinc C dX7_hashOfParts_144 rfl (by decide) rfl ?_
                                          refine k_goto (tgt := 123) C dX7_hashOfParts_147 (by decide) ?_
                                          have e2 : ((jj + 1 : Nat) : Int) = (jj : Int) + 1 := by omega
                                          have q1 := ih (jj + 1) (by omega) (by omega)
                                          have ef : hF (hF (hF (hF 2311 (fun k : Nat => sx (zCnt zrr st k)) 18) (fun k : Nat => sx (zrr (61 + k))) 6) (fun k : Nat => sx (zrr (3 * ((k : Int) % 3) + (k : Int) / 3))) 9) (fun k : Nat => sx (zWin zrr ((k : Int) / 6) ((k : Int) % 6))) (6 * ii + (jj + 1)) = 31 * hF (hF (hF (hF 2311 (fun k : Nat => sx (zCnt zrr st k)) 18) (fun k : Nat => sx (zrr (61 + k))) 6) (fun k : Nat => sx (zrr (3 * ((k : Int) % 3) + (k : Int) / 3))) 9) (fun k : Nat => sx (zWin zrr ((k : Int) / 6) ((k : Int) % 6))) (6 * ii + jj) + sx (zWin zrr ii jj) := by
                                            show 31 * hF (hF (hF (hF 2311 (fun k : Nat => sx (zCnt zrr st k)) 18) (fun k : Nat => sx (zrr (61 + k))) 6) (fun k : Nat => sx (zrr (3 * ((k : Int) % 3) + (k : Int) / 3))) 9) (fun k : Nat => sx (zWin zrr ((k : Int) / 6) ((k : Int) % 6))) (6 * ii + jj) + (fun k : Nat => sx (zWin zrr ((k : Int) / 6) ((k : Int) % 6))) (6 * ii + jj) = _
                                            refine congrArg (fun qq => 31 * hF (hF (hF (hF 2311 (fun k : Nat => sx (zCnt zrr st k)) 18) (fun k : Nat => sx (zrr (61 + k))) 6) (fun k : Nat => sx (zrr (3 * ((k : Int) % 3) + (k : Int) / 3))) 9) (fun k : Nat => sx (zWin zrr ((k : Int) / 6) ((k : Int) % 6))) (6 * ii + jj) + sx qq) ?_
                                            show zWin zrr (((6 * ii + jj : Nat) : Int) / 6) (((6 * ii + jj : Nat) : Int) % 6) = _
                                            rw [show ((6 * ii + jj : Nat) : Int) / 6 = ii by omega, show ((6 * ii + jj : Nat) : Int) % 6 = jj by omega]
                                          rw [e2, ef] at q1
                                          exact q1)
                                  exact loop123 7 0 (by omega) (by omega))
                          have e1 : ii = 3 := by omega
                          subst e1
                          exact loop105 20000 0 (by omega) (by omega))
                      · try (exfalso; omega)
                        all_goals (
                          refine k_iconst C dX7_hashOfParts_67 ?_
                          refine k_istore C dX7_hashOfParts_68 (by decide) rfl ?_
                          have loop70 : ∀ (n : Nat) (jj : Nat), (jj : Int) ≤ 3 → (3 : Int) - jj < (n : Int) → Wk D tc base 7 p l e (lvR 3) s m args below meth c 0 0 (MQ below (Qx D tc base (fun r h' => r = some (aL (hParts zrr st)) ∧ hpp = h')) args s 0 0 (fun q => base ≤ q)) 70 [some (aR rc), some (aL 2311), none, some (aL (hF (hF (hF 2311 (fun k : Nat => sx (zCnt zrr st k)) 18) (fun k : Nat => sx (zrr (61 + k))) 6) (fun k : Nat => sx (zrr (3 * ((k : Int) % 3) + (k : Int) / 3))) (3 * ii + jj))), none, some (aI ii), some (aI jj)] [] hpp := by
                            intro n
                            induction n with
                            | zero =>
                              intro jj hjj hmu
                              exfalso
                              omega
                            | succ n ih =>
                              intro jj hjj hmu
                              refine k_iload C dX7_hashOfParts_70 rfl ?_
                              refine k_iconst C dX7_hashOfParts_72 ?_
                              refine k_icmp_ge (tgt := 96) C dX7_hashOfParts_73 (by decide) ⟨by omega, by omega⟩ ⟨by omega, by omega⟩ (fun c73 => ?_) (fun c73 => ?_)
                              · try (exfalso; omega)
                                all_goals (
                                  refine k_iinc C dX7_hashOfParts_96 rfl (by decide) rfl ?_
                                  refine k_goto (tgt := 61) C dX7_hashOfParts_99 (by decide) ?_
                                  have e2 : ((ii + 1 : Nat) : Int) = (ii : Int) + 1 := by omega
                                  have q1 := iho (ii + 1) (by omega) (by omega)
                                  rw [e2, show 3 * (ii + 1) = 3 * ii + jj by omega] at q1
                                  exact k_sub q1 (And.intro rfl (And.intro rfl (And.intro rfl (And.intro rfl trivial)))))
                              · try (exfalso; omega)
                                all_goals (
                                  refine k_lload_n C dX7_hashOfParts_76 rfl ?_
                                  refine k_aload_n C dX7_hashOfParts_77 rfl ?_
                                  refine k_iload C dX7_hashOfParts_78 rfl ?_
                                  refine k_iload C dX7_hashOfParts_80 rfl ?_
                                  refine k_callV C (n := 2) (as := [_, _]) (ct_X7_weight l D tc base rc zrr hhi htx st ln _ hX _ _ ⟨by omega, by omega⟩ ⟨by omega, by omega⟩) ml_X7_329 im_X7_weight se_X7_weight ini_X7 co_X7_weight ⟨rfl, by decide, by decide, by decide +kernel⟩ rfl (ci := 7) rfl (by repeat (first | exact hs_eq _ _ _ | refine hs_ne (by omega) ?_ | assumption)) ⟨by decide, by decide⟩ rfl (Nat.le_of_ble_eq_true rfl) ⟨Nat.zero_le _, Nat.zero_le _⟩ dX7_hashOfParts_82 ?_
                                  rintro _ _ ⟨rfl, rfl⟩
                                  refine k_i2l C dX7_hashOfParts_85 ?_
                                  refine k_callS C (n := 2) (as := [_, _]) (ct_X7_hashWith l D tc base _ _ _) ml_X7_280 sm_X7_hashWith ini_X7 co_X7_hashWith ⟨by decide, by decide, by decide +kernel⟩ rfl ⟨by decide, by decide⟩ rfl (Nat.le_of_ble_eq_true rfl) ⟨Nat.zero_le _, Nat.zero_le _⟩ dX7_hashOfParts_86 ?_
                                  rintro _ _ ⟨rfl, rfl⟩
                                  refine k_lstore_n C dX7_hashOfParts_89 (by decide) rfl ?_
                                  refine k_iinc C dX7_hashOfParts_90 rfl (by decide) rfl ?_
                                  refine k_goto (tgt := 70) C dX7_hashOfParts_93 (by decide) ?_
                                  have e2 : ((jj + 1 : Nat) : Int) = (jj : Int) + 1 := by omega
                                  have q1 := ih (jj + 1) (by omega) (by omega)
                                  have ef : hF (hF (hF 2311 (fun k : Nat => sx (zCnt zrr st k)) 18) (fun k : Nat => sx (zrr (61 + k))) 6) (fun k : Nat => sx (zrr (3 * ((k : Int) % 3) + (k : Int) / 3))) (3 * ii + (jj + 1)) = 31 * hF (hF (hF 2311 (fun k : Nat => sx (zCnt zrr st k)) 18) (fun k : Nat => sx (zrr (61 + k))) 6) (fun k : Nat => sx (zrr (3 * ((k : Int) % 3) + (k : Int) / 3))) (3 * ii + jj) + sx (zrr (3 * (jj : Int) + (ii : Int))) := by
                                    show 31 * hF (hF (hF 2311 (fun k : Nat => sx (zCnt zrr st k)) 18) (fun k : Nat => sx (zrr (61 + k))) 6) (fun k : Nat => sx (zrr (3 * ((k : Int) % 3) + (k : Int) / 3))) (3 * ii + jj) + (fun k : Nat => sx (zrr (3 * ((k : Int) % 3) + (k : Int) / 3))) (3 * ii + jj) = _
                                    refine congrArg (fun qq => 31 * hF (hF (hF 2311 (fun k : Nat => sx (zCnt zrr st k)) 18) (fun k : Nat => sx (zrr (61 + k))) 6) (fun k : Nat => sx (zrr (3 * ((k : Int) % 3) + (k : Int) / 3))) (3 * ii + jj) + sx qq) ?_
                                    show zrr (3 * (((3 * ii + jj : Nat) : Int) % 3) + ((3 * ii + jj : Nat) : Int) / 3) = _
                                    congr 1
                                    omega
                                  rw [e2, ef] at q1
                                  exact q1)
                          exact loop70 4 0 (by omega) (by omega))
                  have e1 : kk = 6 := by omega
                  subst e1
                  exact loop61 20000 0 (by omega) (by omega))
              · try (exfalso; omega)
                all_goals (
                  refine k_lload_n C dX7_hashOfParts_40 rfl ?_
                  refine k_aload_n C dX7_hashOfParts_41 rfl ?_
                  refine k_iload C dX7_hashOfParts_42 rfl ?_
                  refine k_callV C (n := 1) (as := [_]) (ct_X7_setting l D tc base rc zrr hhi htx st ln _ hX _ ⟨by omega, by omega⟩) ml_X7_326 im_X7_setting se_X7_setting ini_X7 co_X7_setting ⟨rfl, by decide, by decide, by decide +kernel⟩ rfl (ci := 7) rfl (by repeat (first | exact hs_eq _ _ _ | refine hs_ne (by omega) ?_ | assumption)) ⟨by decide, by decide⟩ rfl (Nat.le_of_ble_eq_true rfl) ⟨Nat.zero_le _, Nat.zero_le _⟩ dX7_hashOfParts_44 ?_
                  rintro _ _ ⟨rfl, rfl⟩
                  refine k_i2l C dX7_hashOfParts_47 ?_
                  refine k_callS C (n := 2) (as := [_, _]) (ct_X7_hashWith l D tc base _ _ _) ml_X7_280 sm_X7_hashWith ini_X7 co_X7_hashWith ⟨by decide, by decide, by decide +kernel⟩ rfl ⟨by decide, by decide⟩ rfl (Nat.le_of_ble_eq_true rfl) ⟨Nat.zero_le _, Nat.zero_le _⟩ dX7_hashOfParts_48 ?_
                  rintro _ _ ⟨rfl, rfl⟩
                  refine k_lstore_n C dX7_hashOfParts_51 (by decide) rfl ?_
                  refine k_iinc C dX7_hashOfParts_52 rfl (by decide) rfl ?_
                  refine k_goto (tgt := 33) C dX7_hashOfParts_55 (by decide) ?_
                  have e2 : ((kk + 1 : Nat) : Int) = (kk : Int) + 1 := by omega
                  have q1 := ih (kk + 1) (by omega) (by omega)
                  rw [e2] at q1
                  exact q1)
          have e1 : kk = 18 := by omega
          subst e1
          exact loop33 20000 0 (by omega) (by omega))
      · try (exfalso; omega)
        all_goals (
          refine k_lload_n C dX7_hashOfParts_12 rfl ?_
          refine k_aload_n C dX7_hashOfParts_13 rfl ?_
          refine k_iload C dX7_hashOfParts_14 rfl ?_
          refine k_callV C (n := 1) (as := [_]) (ct_X7_count l D tc base rc zrr hhi htx st ln _ hX _ ⟨by omega, by omega⟩) ml_X7_323 im_X7_count se_X7_count ini_X7 co_X7_count ⟨rfl, by decide, by decide, by decide +kernel⟩ rfl (ci := 7) rfl (by repeat (first | exact hs_eq _ _ _ | refine hs_ne (by omega) ?_ | assumption)) ⟨by decide, by decide⟩ rfl (Nat.le_of_ble_eq_true rfl) ⟨Nat.zero_le _, Nat.zero_le _⟩ dX7_hashOfParts_16 ?_
          rintro _ _ ⟨rfl, rfl⟩
          refine k_i2l C dX7_hashOfParts_19 ?_
          refine k_callS C (n := 2) (as := [_, _]) (ct_X7_hashWith l D tc base _ _ _) ml_X7_280 sm_X7_hashWith ini_X7 co_X7_hashWith ⟨by decide, by decide, by decide +kernel⟩ rfl ⟨by decide, by decide⟩ rfl (Nat.le_of_ble_eq_true rfl) ⟨Nat.zero_le _, Nat.zero_le _⟩ dX7_hashOfParts_20 ?_
          rintro _ _ ⟨rfl, rfl⟩
          refine k_lstore_n C dX7_hashOfParts_23 (by decide) rfl ?_
          refine k_iinc C dX7_hashOfParts_24 rfl (by decide) rfl ?_
          refine k_goto (tgt := 5) C dX7_hashOfParts_27 (by decide) ?_
          have e2 : ((kk + 1 : Nat) : Int) = (kk : Int) + 1 := by omega
          have q1 := ih (kk + 1) (by omega) (by omega)
          rw [e2] at q1
          exact q1)
  exact loop5 20000 0 (by omega) (by omega)

set_option maxRecDepth 20000 in
set_option maxHeartbeats 1000000 in
theorem ct_X7_hashOfText (l : Launch) (D : va_G) (tc : Nat → ClassId) (base : Nat) (rc : Nat) (zrr hhi htx : Int → Int) (st ln : Int) (hpp : AH) (hX : XA hpp rc zrr hhi htx st ln) (h0 : Int) : CT l D tc base yX7_hashOfText cX7_hashOfText 6 (some .long) 1 [aR rc, aL h0] hpp (fun r h' => r = some (aL (hF (31 * h0 + sx ln) (fun k : Nat => sx (htx k)) ln.toNat)) ∧ hpp = h') := by
  refine CT.of [some (aR rc), some (aL h0), none, none, none, none] (by decide +kernel) rfl (Nat.le_of_ble_eq_true rfl) ?_
  intro p e s m args below meth c C hr hnm
  obtain ⟨zth, gr, x0, hS, hT, hH, hTx, x5, hok, h13, hst⟩ := id hX
  obtain ⟨ol, ff, hol, hj0, -⟩ := id hH
  obtain ⟨fsn, hsn0⟩ := hS.obj
  have hi := hok.1
  obtain ⟨⟨v0, v1, v2, v9, v10, v11, v12, v13, v21, v52, v61, v62, v63, v64, v65, v66⟩, hwi, hde⟩ := id hi
  obtain ⟨sg, t0, t1, hln, hsg, qa, qb, qc, qd, t2⟩ := id hTx
  refine k_lload_n C dX7_hashOfText_0 rfl ?_
  refine k_aload_n C dX7_hashOfText_1 rfl ?_
  refine k_get C (k := 3) inX7 (ci := 7) rfl (by decide) fl_X7_29 dX7_hashOfText_2 (by repeat (first | exact hs_eq _ _ _ | refine hs_ne (by omega) ?_ | assumption)) rfl ?_
  refine k_get C (k := 0) inX4 (ci := 4) rfl (by decide) fl_X7_140 dX7_hashOfText_5 (by repeat (first | exact hs_eq _ _ _ | refine hs_ne (by omega) ?_ | assumption)) rfl ?_
  refine k_i2l C dX7_hashOfText_8 ?_
  refine k_callS C (n := 2) (as := [_, _]) (ct_X7_hashWith l D tc base _ _ _) ml_X7_280 sm_X7_hashWith ini_X7 co_X7_hashWith ⟨by decide, by decide, by decide +kernel⟩ rfl ⟨by decide, by decide⟩ rfl (Nat.le_of_ble_eq_true rfl) ⟨Nat.zero_le _, Nat.zero_le _⟩ dX7_hashOfText_9 ?_
  rintro _ _ ⟨rfl, rfl⟩
  refine k_lstore_n C dX7_hashOfText_12 (by decide) rfl ?_
  refine k_iconst C dX7_hashOfText_13 ?_
  refine k_istore C dX7_hashOfText_14 (by decide) rfl ?_
  have loop16 : ∀ (n : Nat) (kk : Nat), (kk : Int) ≤ ln → ln - kk < (n : Int) → Wk D tc base 6 p l e (lvR 1) s m args below meth c 0 0 (MQ below (Qx D tc base (fun r h' => r = some (aL (hF (31 * h0 + sx ln) (fun k : Nat => sx (htx k)) ln.toNat)) ∧ hpp = h')) args s 0 0 (fun q => base ≤ q)) 16 [some (aR rc), some (aL h0), none, some (aL (hF (31 * h0 + sx ln) (fun k : Nat => sx (htx k)) kk)), none, some (aI kk)] [] hpp := by
    intro n
    induction n with
    | zero =>
      intro kk hk hmu
      exfalso
      omega
    | succ n ih =>
      intro kk hk hmu
      refine k_iload C dX7_hashOfText_16 rfl ?_
      refine k_aload_n C dX7_hashOfText_18 rfl ?_
      refine k_get C (k := 3) inX7 (ci := 7) rfl (by decide) fl_X7_29 dX7_hashOfText_19 (by repeat (first | exact hs_eq _ _ _ | refine hs_ne (by omega) ?_ | assumption)) rfl ?_
      refine k_get C (k := 0) inX4 (ci := 4) rfl (by decide) fl_X7_140 dX7_hashOfText_22 (by repeat (first | exact hs_eq _ _ _ | refine hs_ne (by omega) ?_ | assumption)) rfl ?_
      refine k_icmp_ge (tgt := 57) C dX7_hashOfText_25 (by decide) ⟨by omega, by omega⟩ ⟨by omega, by omega⟩ (fun c25 => ?_) (fun c25 => ?_)
      · try (exfalso; omega)
        all_goals (
          refine k_lload_n C dX7_hashOfText_57 rfl ?_
          refine k_lret C hr dX7_hashOfText_58 ?_
          have e1 : kk = ln.toNat := by omega
          subst e1
          exact ⟨rfl, rfl⟩)
      · try (exfalso; omega)
        all_goals (
          refine k_iload C dX7_hashOfText_28 rfl ?_
          refine k_bipush C dX7_hashOfText_30 (by decide +kernel) ?_
          refine k_icmp_ge (tgt := 57) C dX7_hashOfText_32 (by decide) ⟨by omega, by omega⟩ ⟨by omega, by omega⟩ (fun c32 => ?_) (fun c32 => ?_)
          · try (exfalso; omega)
            all_goals (
              refine k_lload_n C dX7_hashOfText_57 rfl ?_
              refine k_lret C hr dX7_hashOfText_58 ?_
              have e1 : kk = ln.toNat := by omega
              subst e1
              exact ⟨rfl, rfl⟩)
          · try (exfalso; omega)
            all_goals (
              refine k_lload_n C dX7_hashOfText_35 rfl ?_
              refine k_aload_n C dX7_hashOfText_36 rfl ?_
              refine k_get C (k := 3) inX7 (ci := 7) rfl (by decide) fl_X7_29 dX7_hashOfText_37 (by repeat (first | exact hs_eq _ _ _ | refine hs_ne (by omega) ?_ | assumption)) rfl ?_
              refine k_get C (k := 1) inX4 (ci := 4) rfl (by decide) fl_X7_338 dX7_hashOfText_40 (by repeat (first | exact hs_eq _ _ _ | refine hs_ne (by omega) ?_ | assumption)) rfl ?_
              refine k_iload C dX7_hashOfText_43 rfl ?_
              refine k_caload C dX7_hashOfText_45 (by repeat (first | exact hs_eq _ _ _ | refine hs_ne (by omega) ?_ | assumption)) (by omega) (by omega) (by omega) ?_
              rw [(hsg kk (by omega) (by omega)).1]
              refine k_i2l C dX7_hashOfText_46 ?_
              refine k_callS C (n := 2) (as := [_, _]) (ct_X7_hashWith l D tc base _ _ _) ml_X7_280 sm_X7_hashWith ini_X7 co_X7_hashWith ⟨by decide, by decide, by decide +kernel⟩ rfl ⟨by decide, by decide⟩ rfl (Nat.le_of_ble_eq_true rfl) ⟨Nat.zero_le _, Nat.zero_le _⟩ dX7_hashOfText_47 ?_
              rintro _ _ ⟨rfl, rfl⟩
              refine k_lstore_n C dX7_hashOfText_50 (by decide) rfl ?_
              refine k_iinc C dX7_hashOfText_51 rfl (by decide) rfl ?_
              refine k_goto (tgt := 16) C dX7_hashOfText_54 (by decide) ?_
              have e2 : ((kk + 1 : Nat) : Int) = (kk : Int) + 1 := by omega
              have q1 := ih (kk + 1) (by omega) (by omega)
              rw [e2] at q1
              exact q1))
  exact loop16 20000 0 (by omega) (by omega)

set_option maxRecDepth 20000 in
set_option maxHeartbeats 1000000 in
theorem ct_X7_digest (l : Launch) (D : va_G) (tc : Nat → ClassId) (base : Nat) (rc : Nat) (zrr hhi htx : Int → Int) (st ln : Int) (hpp : AH) (hX : XA hpp rc zrr hhi htx st ln) : CT l D tc base yX7_digest cX7_digest 4 (some .long) 7 [aR rc] hpp (fun r h' => ∃ lt : Int, zLeast zrr 240 lt ∧ r = some (aL (hDig zrr htx st ln lt)) ∧ XA h' rc (zrr) (hhi) (htx) (st) (ln) ∧ Fr hpp h' rc 127) := by
  refine CT.of [some (aR rc), none, none, none] (by decide +kernel) rfl (Nat.le_of_ble_eq_true rfl) ?_
  intro p e s m args below meth c C hr hnm
  obtain ⟨zth, gr, x0, hS, hT, hH, hTx, x5, hok, h13, hst⟩ := id hX
  obtain ⟨ol, ff, hol, hj0, -⟩ := id hH
  obtain ⟨fsn, hsn0⟩ := hS.obj
  have hi := hok.1
  obtain ⟨⟨v0, v1, v2, v9, v10, v11, v12, v13, v21, v52, v61, v62, v63, v64, v65, v66⟩, hwi, hde⟩ := id hi
  refine k_aload_n C dX7_digest_0 rfl ?_
  refine k_ldc2l C (z := 2311) kn_X7_271 (by decide +kernel) dX7_digest_1 ?_
  refine k_callV C (n := 1) (as := [_]) (ct_X7_hashOfParts l D tc base rc zrr hhi htx st ln _ hX) ml_X7_273 im_X7_hashOfParts se_X7_hashOfParts ini_X7 co_X7_hashOfParts ⟨rfl, by decide, by decide, by decide +kernel⟩ rfl (ci := 7) rfl (by repeat (first | exact hs_eq _ _ _ | refine hs_ne (by omega) ?_ | assumption)) ⟨by decide, by decide⟩ rfl (Nat.le_of_ble_eq_true rfl) ⟨Nat.zero_le _, Nat.zero_le _⟩ dX7_digest_4 ?_
  rintro _ _ ⟨rfl, rfl⟩
  refine k_lstore_n C dX7_digest_7 (by decide) rfl ?_
  refine k_iconst C dX7_digest_8 ?_
  refine k_istore_n C dX7_digest_9 (by decide) rfl ?_
  have loop10 : ∀ (n : Nat) (kk : Nat) (hkk : AH), (kk : Int) ≤ 3 → XA hkk rc zrr hhi htx st ln → Fr hpp hkk rc 127 → (3 : Int) - kk < (n : Int) → Wk D tc base 4 p l e (lvR 7) s m args below meth c 0 0 (MQ below (Qx D tc base (fun r h' => ∃ lt : Int, zLeast zrr 240 lt ∧ r = some (aL (hDig zrr htx st ln lt)) ∧ XA h' rc (zrr) (hhi) (htx) (st) (ln) ∧ Fr hpp h' rc 127)) args s 0 0 (fun q => base ≤ q)) 10 [some (aR rc), some (aL (hF (hParts zrr st) (fun k : Nat => sx (zWhy zrr k)) kk)), none, some (aI kk)] [] hkk := by
    intro n
    induction n with
    | zero =>
      intro kk hkk hk hXk hFk hmu
      exfalso
      omega
    | succ n ih =>
      intro kk hkk hk hXk hFk hmu
      obtain ⟨zthk, grk, x0k, hSk, hTk, -⟩ := id hXk
      obtain ⟨fstk, q0k⟩ := hTk.obj
      refine k_iload_n C dX7_digest_10 rfl ?_
      refine k_iconst C dX7_digest_11 ?_
      refine k_icmp_ge (tgt := 32) C dX7_digest_12 (by decide) ⟨by omega, by omega⟩ ⟨by omega, by omega⟩ (fun c12 => ?_) (fun c12 => ?_)
      · try (exfalso; omega)
        all_goals (
          have e1 : kk = 3 := by omega
          subst e1
          refine k_aload_n C dX7_digest_32 rfl ?_
          refine k_get C (k := 1) inX7 (ci := 7) rfl (by decide) fl_X7_16 dX7_digest_33 (by repeat (first | exact hs_eq _ _ _ | refine hs_ne (by omega) ?_ | assumption)) rfl ?_
          refine k_aload_n C dX7_digest_36 rfl ?_
          refine k_get C (k := 0) inX7 (ci := 7) rfl (by decide) fl_X7_10 dX7_digest_37 (by repeat (first | exact hs_eq _ _ _ | refine hs_ne (by omega) ?_ | assumption)) rfl ?_
          refine k_callV C (n := 1) (as := [_]) (ct_X3_copyFrom l D tc base (rc + 16) (rc + 1) zthk zrr _ hTk hSk hi (by omega)) ml_X7_242 im_X3_copyFrom se_X3_copyFrom ini_X3 co_X3_copyFrom ⟨rfl, by decide, by decide, by decide +kernel⟩ rfl (ci := 3) rfl (by repeat (first | exact hs_eq _ _ _ | refine hs_ne (by omega) ?_ | assumption)) ⟨by decide, by decide⟩ rfl (Nat.le_of_ble_eq_true rfl) ⟨Nat.zero_le _, Nat.zero_le _⟩ dX7_digest_40 ?_
          rintro _ hcp ⟨rfl, hSc, hFc⟩
          have hXc := hXk.trial hFc hSc
          obtain ⟨ztc, grc, x0c, hS2c, -⟩ := id hXc
          obtain ⟨fsc, q1c⟩ := hSc.obj
          refine k_aload_n C dX7_digest_43 rfl ?_
          refine k_get C (k := 1) inX7 (ci := 7) rfl (by decide) fl_X7_16 dX7_digest_44 (by repeat (first | exact hs_eq _ _ _ | refine hs_ne (by omega) ?_ | assumption)) rfl ?_
          refine k_bipush C dX7_digest_47 (by decide +kernel) ?_
          refine k_callV C (n := 1) (as := [_]) (ct_X3_passMinutes l D tc base (rc + 16) zrr _ hSc hi hok.2 60 (by omega)) ml_X7_137 im_X3_passMinutes se_X3_passMinutes ini_X3 co_X3_passMinutes ⟨rfl, by decide, by decide, by decide +kernel⟩ rfl (ci := 3) rfl (by repeat (first | exact hs_eq _ _ _ | refine hs_ne (by omega) ?_ | assumption)) ⟨by decide, by decide⟩ rfl (Nat.le_of_ble_eq_true rfl) ⟨Nat.zero_le _, Nat.zero_le _⟩ dX7_digest_49 ?_
          rintro _ hpm ⟨rfl, hSp, hFp⟩
          have hzg := zOk_go hok 60
          have hXp := hXc.trial hFp hSp
          obtain ⟨ztp, grp, x0p, -⟩ := id hXp
          obtain ⟨fsp, q2p⟩ := hSp.obj
          refine k_iconst C dX7_digest_52 ?_
          refine k_istore_n C dX7_digest_53 (by decide) rfl ?_
          have loop54 : ∀ (n : Nat) (kk : Nat), (kk : Int) ≤ 10 → (10 : Int) - kk < (n : Int) → Wk D tc base 4 p l e (lvR 7) s m args below meth c 0 0 (MQ below (Qx D tc base (fun r h' => ∃ lt : Int, zLeast zrr 240 lt ∧ r = some (aL (hDig zrr htx st ln lt)) ∧ XA h' rc (zrr) (hhi) (htx) (st) (ln) ∧ Fr hpp h' rc 127)) args s 0 0 (fun q => base ≤ q)) 54 [some (aR rc), some (aL (hF (hF (hParts zrr st) (fun k : Nat => sx (zWhy zrr k)) 3) (fun k : Nat => sx (zOut (zGo zrr 60) k)) kk)), none, some (aI kk)] [] hpm := by
            intro n
            induction n with
            | zero =>
              intro kk hk hmu
              exfalso
              omega
            | succ n ih =>
              intro kk hk hmu
              refine k_iload_n C dX7_digest_54 rfl ?_
              refine k_bipush C dX7_digest_55 (by decide +kernel) ?_
              refine k_icmp_ge (tgt := 80) C dX7_digest_57 (by decide) ⟨by omega, by omega⟩ ⟨by omega, by omega⟩ (fun c57 => ?_) (fun c57 => ?_)
              · try (exfalso; omega)
                all_goals (
                  have e1 : kk = 10 := by omega
                  subst e1
                  refine k_lload_n C dX7_digest_80 rfl ?_
                  refine k_aload_n C dX7_digest_81 rfl ?_
                  refine k_callV C (n := 0) (as := []) (ct_X7_standsIn l D tc base rc zrr hhi htx st ln _ hXp) ml_X7_284 im_X7_standsIn se_X7_standsIn ini_X7 co_X7_standsIn ⟨rfl, by decide, by decide, by decide +kernel⟩ rfl (ci := 7) rfl (by repeat (first | exact hs_eq _ _ _ | refine hs_ne (by omega) ?_ | assumption)) ⟨by decide, by decide⟩ rfl (Nat.le_of_ble_eq_true rfl) ⟨Nat.zero_le _, Nat.zero_le _⟩ dX7_digest_82 ?_
                  rintro _ hv1 ⟨rfl, hXv1, hFv1⟩
                  obtain ⟨ztv1, grv1, x0v1, -⟩ := id hXv1
                  refine k_i2l C dX7_digest_85 ?_
                  refine k_callS C (n := 2) (as := [_, _]) (ct_X7_hashWith l D tc base _ _ _) ml_X7_280 sm_X7_hashWith ini_X7 co_X7_hashWith ⟨by decide, by decide, by decide +kernel⟩ rfl ⟨by decide, by decide⟩ rfl (Nat.le_of_ble_eq_true rfl) ⟨Nat.zero_le _, Nat.zero_le _⟩ dX7_digest_86 ?_
                  rintro _ _ ⟨rfl, rfl⟩
                  refine k_lstore_n C dX7_digest_89 (by decide) rfl ?_
                  refine k_lload_n C dX7_digest_90 rfl ?_
                  refine k_aload_n C dX7_digest_91 rfl ?_
                  refine k_callV C (n := 0) (as := []) (ct_X7_paidIn l D tc base rc zrr hhi htx st ln _ hXv1) ml_X7_287 im_X7_paidIn se_X7_paidIn ini_X7 co_X7_paidIn ⟨rfl, by decide, by decide, by decide +kernel⟩ rfl (ci := 7) rfl (by repeat (first | exact hs_eq _ _ _ | refine hs_ne (by omega) ?_ | assumption)) ⟨by decide, by decide⟩ rfl (Nat.le_of_ble_eq_true rfl) ⟨Nat.zero_le _, Nat.zero_le _⟩ dX7_digest_92 ?_
                  rintro _ hv2 ⟨rfl, hXv2, hFv2⟩
                  obtain ⟨ztv2, grv2, x0v2, -⟩ := id hXv2
                  refine k_i2l C dX7_digest_95 ?_
                  refine k_callS C (n := 2) (as := [_, _]) (ct_X7_hashWith l D tc base _ _ _) ml_X7_280 sm_X7_hashWith ini_X7 co_X7_hashWith ⟨by decide, by decide, by decide +kernel⟩ rfl ⟨by decide, by decide⟩ rfl (Nat.le_of_ble_eq_true rfl) ⟨Nat.zero_le _, Nat.zero_le _⟩ dX7_digest_96 ?_
                  rintro _ _ ⟨rfl, rfl⟩
                  refine k_lstore_n C dX7_digest_99 (by decide) rfl ?_
                  refine k_lload_n C dX7_digest_100 rfl ?_
                  refine k_aload_n C dX7_digest_101 rfl ?_
                  refine k_sipush C dX7_digest_102 (by decide +kernel) ?_
                  refine k_callV C (n := 1) (as := [_]) (ct_X7_leastTurns l D tc base rc zrr hhi htx st ln _ hXv2 240 (by omega)) ml_X7_290 im_X7_leastTurns se_X7_leastTurns ini_X7 co_X7_leastTurns ⟨rfl, by decide, by decide, by decide +kernel⟩ rfl (ci := 7) rfl (by repeat (first | exact hs_eq _ _ _ | refine hs_ne (by omega) ?_ | assumption)) ⟨by decide, by decide⟩ rfl (Nat.le_of_ble_eq_true rfl) ⟨Nat.zero_le _, Nat.zero_le _⟩ dX7_digest_105 ?_
                  rintro _ hv3 ⟨⟨lt, rfl, hlt⟩, hXv3, hFv3⟩
                  obtain ⟨ztv3, grv3, x0v3, -⟩ := id hXv3
                  refine k_i2l C dX7_digest_108 ?_
                  refine k_callS C (n := 2) (as := [_, _]) (ct_X7_hashWith l D tc base _ _ _) ml_X7_280 sm_X7_hashWith ini_X7 co_X7_hashWith ⟨by decide, by decide, by decide +kernel⟩ rfl ⟨by decide, by decide⟩ rfl (Nat.le_of_ble_eq_true rfl) ⟨Nat.zero_le _, Nat.zero_le _⟩ dX7_digest_109 ?_
                  rintro _ _ ⟨rfl, rfl⟩
                  refine k_lstore_n C dX7_digest_112 (by decide) rfl ?_
                  refine k_lload_n C dX7_digest_113 rfl ?_
                  refine k_aload_n C dX7_digest_114 rfl ?_
                  refine k_callV C (n := 0) (as := []) (ct_X7_downFirst l D tc base rc zrr hhi htx st ln _ hXv3) ml_X7_293 im_X7_downFirst se_X7_downFirst ini_X7 co_X7_downFirst ⟨rfl, by decide, by decide, by decide +kernel⟩ rfl (ci := 7) rfl (by repeat (first | exact hs_eq _ _ _ | refine hs_ne (by omega) ?_ | assumption)) ⟨by decide, by decide⟩ rfl (Nat.le_of_ble_eq_true rfl) ⟨Nat.zero_le _, Nat.zero_le _⟩ dX7_digest_115 ?_
                  rintro _ hv4 ⟨rfl, hXv4, hFv4⟩
                  obtain ⟨ztv4, grv4, x0v4, -⟩ := id hXv4
                  refine k_i2l C dX7_digest_118 ?_
                  refine k_callS C (n := 2) (as := [_, _]) (ct_X7_hashWith l D tc base _ _ _) ml_X7_280 sm_X7_hashWith ini_X7 co_X7_hashWith ⟨by decide, by decide, by decide +kernel⟩ rfl ⟨by decide, by decide⟩ rfl (Nat.le_of_ble_eq_true rfl) ⟨Nat.zero_le _, Nat.zero_le _⟩ dX7_digest_119 ?_
                  rintro _ _ ⟨rfl, rfl⟩
                  refine k_lstore_n C dX7_digest_122 (by decide) rfl ?_
                  refine k_lload_n C dX7_digest_123 rfl ?_
                  refine k_aload_n C dX7_digest_124 rfl ?_
                  refine k_callV C (n := 0) (as := []) (ct_X7_lostShare l D tc base rc zrr hhi htx st ln _ hXv4) ml_X7_296 im_X7_lostShare se_X7_lostShare ini_X7 co_X7_lostShare ⟨rfl, by decide, by decide, by decide +kernel⟩ rfl (ci := 7) rfl (by repeat (first | exact hs_eq _ _ _ | refine hs_ne (by omega) ?_ | assumption)) ⟨by decide, by decide⟩ rfl (Nat.le_of_ble_eq_true rfl) ⟨Nat.zero_le _, Nat.zero_le _⟩ dX7_digest_125 ?_
                  rintro _ _ ⟨rfl, rfl⟩
                  refine k_callS C (n := 1) (as := [_]) (ct_X7_bitsOfShare l D tc base _ _ (shOk_z hok h13)) ml_X7_300 sm_X7_bitsOfShare ini_X7 co_X7_bitsOfShare ⟨by decide, by decide, by decide +kernel⟩ rfl ⟨by decide, by decide⟩ rfl (Nat.le_of_ble_eq_true rfl) ⟨Nat.zero_le _, Nat.zero_le _⟩ dX7_digest_128 ?_
                  rintro _ _ ⟨rfl, rfl⟩
                  refine k_callS C (n := 2) (as := [_, _]) (ct_X7_hashWith l D tc base _ _ _) ml_X7_280 sm_X7_hashWith ini_X7 co_X7_hashWith ⟨by decide, by decide, by decide +kernel⟩ rfl ⟨by decide, by decide⟩ rfl (Nat.le_of_ble_eq_true rfl) ⟨Nat.zero_le _, Nat.zero_le _⟩ dX7_digest_131 ?_
                  rintro _ _ ⟨rfl, rfl⟩
                  refine k_lstore_n C dX7_digest_134 (by decide) rfl ?_
                  refine k_aload_n C dX7_digest_135 rfl ?_
                  refine k_lload_n C dX7_digest_136 rfl ?_
                  refine k_callV C (n := 1) (as := [_]) (ct_X7_hashOfText l D tc base rc zrr hhi htx st ln _ hXv4 _) ml_X7_304 im_X7_hashOfText se_X7_hashOfText ini_X7 co_X7_hashOfText ⟨rfl, by decide, by decide, by decide +kernel⟩ rfl (ci := 7) rfl (by repeat (first | exact hs_eq _ _ _ | refine hs_ne (by omega) ?_ | assumption)) ⟨by decide, by decide⟩ rfl (Nat.le_of_ble_eq_true rfl) ⟨Nat.zero_le _, Nat.zero_le _⟩ dX7_digest_137 ?_
                  rintro _ _ ⟨rfl, rfl⟩
                  refine k_lret C hr dX7_digest_140 ?_
                  exact ⟨lt, hlt, rfl, hXv4, ((((((hFk.tr (hFc.wide (by omega) (by omega))).tr (hFp.wide (by omega) (by omega))).tr hFv1).tr hFv2).tr hFv3).tr hFv4)⟩)
              · try (exfalso; omega)
                all_goals (
                  refine k_lload_n C dX7_digest_60 rfl ?_
                  refine k_aload_n C dX7_digest_61 rfl ?_
                  refine k_get C (k := 1) inX7 (ci := 7) rfl (by decide) fl_X7_16 dX7_digest_62 (by repeat (first | exact hs_eq _ _ _ | refine hs_ne (by omega) ?_ | assumption)) rfl ?_
                  refine k_iload_n C dX7_digest_65 rfl ?_
                  refine k_callV C (n := 1) (as := [_]) (ct_X3_outcome l D tc base (rc + 16) (zGo zrr 60) _ hSp hzg.1.1 _ (by omega) (by omega)) ml_X7_254 im_X3_outcome se_X3_outcome ini_X3 co_X3_outcome ⟨rfl, by decide, by decide, by decide +kernel⟩ rfl (ci := 3) rfl (by repeat (first | exact hs_eq _ _ _ | refine hs_ne (by omega) ?_ | assumption)) ⟨by decide, by decide⟩ rfl (Nat.le_of_ble_eq_true rfl) ⟨Nat.zero_le _, Nat.zero_le _⟩ dX7_digest_66 ?_
                  rintro _ _ ⟨rfl, rfl⟩
                  refine k_i2l C dX7_digest_69 ?_
                  refine k_callS C (n := 2) (as := [_, _]) (ct_X7_hashWith l D tc base _ _ _) ml_X7_280 sm_X7_hashWith ini_X7 co_X7_hashWith ⟨by decide, by decide, by decide +kernel⟩ rfl ⟨by decide, by decide⟩ rfl (Nat.le_of_ble_eq_true rfl) ⟨Nat.zero_le _, Nat.zero_le _⟩ dX7_digest_70 ?_
                  rintro _ _ ⟨rfl, rfl⟩
                  refine k_lstore_n C dX7_digest_73 (by decide) rfl ?_
                  refine k_iinc C dX7_digest_74 rfl (by decide) rfl ?_
                  refine k_goto (tgt := 54) C dX7_digest_77 (by decide) ?_
                  have e2 : ((kk + 1 : Nat) : Int) = (kk : Int) + 1 := by omega
                  have q1 := ih (kk + 1) (by omega) (by omega)
                  rw [e2] at q1
                  exact q1)
          exact loop54 20 0 (by omega) (by omega))
      · try (exfalso; omega)
        all_goals (
          refine k_lload_n C dX7_digest_15 rfl ?_
          refine k_aload_n C dX7_digest_16 rfl ?_
          refine k_iload_n C dX7_digest_17 rfl ?_
          refine k_callV C (n := 1) (as := [_]) (ct_X7_why l D tc base rc zrr hhi htx st ln _ hXk _ ⟨by omega, by omega⟩) ml_X7_277 im_X7_why se_X7_why ini_X7 co_X7_why ⟨rfl, by decide, by decide, by decide +kernel⟩ rfl (ci := 7) rfl (by repeat (first | exact hs_eq _ _ _ | refine hs_ne (by omega) ?_ | assumption)) ⟨by decide, by decide⟩ rfl (Nat.le_of_ble_eq_true rfl) ⟨Nat.zero_le _, Nat.zero_le _⟩ dX7_digest_18 ?_
          rintro _ hwy ⟨rfl, hXw, hFw⟩
          refine k_i2l C dX7_digest_21 ?_
          refine k_callS C (n := 2) (as := [_, _]) (ct_X7_hashWith l D tc base _ _ _) ml_X7_280 sm_X7_hashWith ini_X7 co_X7_hashWith ⟨by decide, by decide, by decide +kernel⟩ rfl ⟨by decide, by decide⟩ rfl (Nat.le_of_ble_eq_true rfl) ⟨Nat.zero_le _, Nat.zero_le _⟩ dX7_digest_22 ?_
          rintro _ _ ⟨rfl, rfl⟩
          refine k_lstore_n C dX7_digest_25 (by decide) rfl ?_
          refine k_iinc C dX7_digest_26 rfl (by decide) rfl ?_
          refine k_goto (tgt := 10) C dX7_digest_29 (by decide) ?_
          have e2 : ((kk + 1 : Nat) : Int) = (kk : Int) + 1 := by omega
          have q1 := ih (kk + 1) _ (by omega) hXw (hFk.tr hFw) (by omega)
          rw [e2] at q1
          exact q1)
  exact loop10 20 0 _ (by omega) hX (Fr.rf _ _ _) (by omega)
