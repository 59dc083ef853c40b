set_option maxRecDepth 20000 in
set_option maxHeartbeats 1000000 in
theorem sg_one {D : va_G} {tc : Nat → ClassId} {base : Nat} {p : Program} {l : Launch} {e : Env} {s : State} {m : MethodId} {args : Array Value} {below : List Frame} {meth : Method} {c : Code} {Q : State → Prop} (C : Cx D tc base RL cL_minute 10 p s m args meth c) (an : Nat) (zrr : RZ) (kc : Int) (hpp : AH) (hA : LA hpp an zrr kc) (hi : zInv zrr) (hm : zrr 13 ≤ 100000) (ha : zrr 18 + zrr 19 ≤ zrr 13 + 1) (kend : ∀ (hx : AH), LA hx an (zOne zrr) kc → Fr hpp hx an 5 → Wk D tc base 10 p l e (lvR 2) s m args below meth c 0 0 Q 155 [some (aR an), some (aR (an + 1)), some (aR (an + 2)), some (aR (an + 3)), some (aR (an + 4)), none, none, none, none, none] [] hx) : Wk D tc base 10 p l e (lvR 2) s m args below meth c 0 0 Q 0 [some (aR an), some (aR (an + 1)), some (aR (an + 2)), some (aR (an + 3)), some (aR (an + 4)), none, none, none, none, none] [] hpp := by
  obtain ⟨nu, hh, se, wi, de, ⟨y0, y1, y2, y3, y4⟩, hLR⟩ := id hA
  obtain ⟨⟨e0, e1, e2, e3, e4, e5, e6, e7, e8, e9, e10, e11, e12, e13, e14⟩, eh, es, ew, ed⟩ := id hLR
  obtain ⟨⟨g0, g1, g2, g9, g10, g11, g12, g13, g21, g52, g61, g62, g63, g64, g65, g66⟩, hwi, hde⟩ := id hi
  have h0 : hh 0 = zrr 0 := eh 0 (by omega) (by omega)
  have h1 : hh 1 = zrr 1 := eh 1 (by omega) (by omega)
  have h2 : hh 2 = zrr 2 := eh 2 (by omega) (by omega)
  have hcr := zCom_rng hi
  refine k_iconst C dL_minute_0 ?_
  refine k_istore C dL_minute_1 (by decide) rfl ?_
  refine k_aload_n C dL_minute_3 rfl ?_
  refine k_bipush C dL_minute_4 (by decide +kernel) ?_
  refine k_iaload C dL_minute_6 (by repeat (first | exact hs_eq _ _ _ | refine hs_ne (by omega) ?_ | assumption)) (by omega) (by omega) (by omega) ?_
  refine k_iconst C dL_minute_7 ?_
  refine k_isub C dL_minute_8 ?_
  refine k_istore C dL_minute_9 (by decide) rfl ?_
  have loop11 : ∀ (n : Nat) (jj bb : Int), -1 ≤ jj → jj < zrr 21 → zBk zrr (jj + 1) bb → (-1 ≤ bb ∧ bb < zrr 21) → jj + 1 < (n : Int) → Wk D tc base 10 p l e (lvR 2) s m args below meth c 0 0 Q 11 [some (aR an), some (aR (an + 1)), some (aR (an + 2)), some (aR (an + 3)), some (aR (an + 4)), some (aI bb), some (aI jj), none, none, none] [] hpp := by
    intro n
    induction n with
    | zero =>
      intro jj bb hj0 hj1 hbk hbr hmu
      exfalso
      omega
    | succ n ih =>
      intro jj bb hj0 hj1 hbk hbr hmu
      refine k_iload C dL_minute_11 rfl ?_
      refine k_if_lt (tgt := 99) C dL_minute_13 (by decide) ⟨by omega, by omega⟩ (fun c13 => ?_) (fun c13 => ?_)
      · try (exfalso; omega)
        all_goals (
          have ebb : bb = zCom zrr := zBk_com hi (by rw [show (0 : Int) = jj + 1 by omega]; exact hbk)
          subst ebb
          refine k_iload C dL_minute_99 rfl ?_
          refine k_if_lt (tgt := 155) C dL_minute_101 (by decide) ⟨by omega, by omega⟩ (fun c101 => ?_) (fun c101 => ?_)
          · try (exfalso; omega)
            all_goals (
              first
                | (have hz : zOne zrr = zrr := by rw [zOne, if_pos (by omega)]
                   refine k_sub (kend _ (by rw [hz]; exact hA) (fun aaa haa => by repeat (first | rfl | refine hs_ne (by omega) ?_))) ((And.intro rfl (And.intro rfl (And.intro rfl (And.intro rfl (And.intro rfl trivial)))))))
                | (have hz : zOne zrr = iu (iu (zWind zrr (zrr (22 + 5 * (zCom zrr))) (zrr (22 + 5 * (zCom zrr) + 1))) (22 + 5 * (zCom zrr) + 3) (zrr 13 + zrr (22 + 5 * (zCom zrr) + 2))) (22 + 5 * (zCom zrr) + 4) (zrr (22 + 5 * (zCom zrr) + 4) + 1) := by rw [zOne, if_neg (by omega)]
                   refine k_sub (kend _ ⟨_, _, _, _, _, ⟨(by repeat (first | exact hs_eq _ _ _ | refine hs_ne (by omega) ?_ | assumption)), (by repeat (first | exact hs_eq _ _ _ | refine hs_ne (by omega) ?_ | assumption)), (by repeat (first | exact hs_eq _ _ _ | refine hs_ne (by omega) ?_ | assumption)), (by repeat (first | exact hs_eq _ _ _ | refine hs_ne (by omega) ?_ | assumption)), (by repeat (first | exact hs_eq _ _ _ | refine hs_ne (by omega) ?_ | assumption))⟩, ?_⟩ (fun aaa haa => by repeat (first | rfl | refine hs_ne (by omega) ?_))) ((And.intro rfl (And.intro rfl (And.intro rfl (And.intro rfl (And.intro rfl trivial))))))
                   rw [hz]
                   exact ((hLR.wind (by omega) w0 w1).w (by omega) (by omega)).w (by omega) (by omega)))
          · try (exfalso; omega)
            all_goals (
              have w0 : wi (5 * (zCom zrr)) = zrr (22 + 5 * (zCom zrr)) := ew (5 * (zCom zrr)) (by omega) (by omega)
              have w1 : wi (5 * (zCom zrr) + 1) = zrr (22 + 5 * (zCom zrr) + 1) := by
                have := ew (5 * (zCom zrr) + 1) (by omega) (by omega)
                rw [← Int.add_assoc] at this
                exact this
              have w2 : wi (5 * (zCom zrr) + 2) = zrr (22 + 5 * (zCom zrr) + 2) := by
                have := ew (5 * (zCom zrr) + 2) (by omega) (by omega)
                rw [← Int.add_assoc] at this
                exact this
              have w3 : wi (5 * (zCom zrr) + 3) = zrr (22 + 5 * (zCom zrr) + 3) := by
                have := ew (5 * (zCom zrr) + 3) (by omega) (by omega)
                rw [← Int.add_assoc] at this
                exact this
              have w4 : wi (5 * (zCom zrr) + 4) = zrr (22 + 5 * (zCom zrr) + 4) := by
                have := ew (5 * (zCom zrr) + 4) (by omega) (by omega)
                rw [← Int.add_assoc] at this
                exact this
              have hwj := hwi (zCom zrr) (by omega) (by omega)
              have hbw : 0 ≤ hh (wi (5 * (zCom zrr))) ∧ hh (wi (5 * (zCom zrr))) ≤ 200 := by
                rw [eh _ (by omega) (by omega), w0]
                exact zInv_hgt hi (by omega) (by omega)
              refine k_aload_n C dL_minute_104 rfl ?_
              refine k_iconst C dL_minute_105 ?_
              refine k_iload C dL_minute_106 rfl ?_
              refine k_imul C dL_minute_108 ?_
              refine k_iaload C dL_minute_109 (by repeat (first | exact hs_eq _ _ _ | refine hs_ne (by omega) ?_ | assumption)) (by omega) (by omega) (by omega) ?_
              refine k_aload_n C dL_minute_110 rfl ?_
              refine k_iconst C dL_minute_111 ?_
              refine k_iload C dL_minute_112 rfl ?_
              refine k_imul C dL_minute_114 ?_
              refine k_iconst C dL_minute_115 ?_
              refine k_iadd C dL_minute_116 ?_
              refine k_iaload C dL_minute_117 (by repeat (first | exact hs_eq _ _ _ | refine hs_ne (by omega) ?_ | assumption)) (by omega) (by omega) (by omega) ?_
              refine k_aload_n C dL_minute_118 rfl ?_
              refine k_callS C (n := 3) (as := [_, _, _]) (ct_L_up l D tc base an _ _ hh _ (by repeat (first | exact hs_eq _ _ _ | refine hs_ne (by omega) ?_ | assumption)) (by omega) (by omega) hbw) ml_L_14 sm_L_up ini_L co_L_up ⟨by decide, by decide, by decide +kernel⟩ rfl ⟨by decide, by decide⟩ rfl (Nat.le_of_ble_eq_true rfl) ⟨Nat.zero_le _, Nat.zero_le _⟩ dL_minute_119 ?_
              rintro _ _ ⟨rfl, rfl⟩
              refine k_pop C dL_minute_122 rfl ?_
              refine k_aload_n C dL_minute_123 rfl ?_
              refine k_iconst C dL_minute_124 ?_
              refine k_iload C dL_minute_125 rfl ?_
              refine k_imul C dL_minute_127 ?_
              refine k_iconst C dL_minute_128 ?_
              refine k_iadd C dL_minute_129 ?_
              refine k_aload_n C dL_minute_130 rfl ?_
              refine k_iconst C dL_minute_131 ?_
              refine k_iaload C dL_minute_132 (by repeat (first | exact hs_eq _ _ _ | refine hs_ne (by omega) ?_ | assumption)) (by omega) (by omega) (by omega) ?_
              refine k_aload_n C dL_minute_133 rfl ?_
              refine k_iconst C dL_minute_134 ?_
              refine k_iload C dL_minute_135 rfl ?_
              refine k_imul C dL_minute_137 ?_
              refine k_iconst C dL_minute_138 ?_
              refine k_iadd C dL_minute_139 ?_
              refine k_iaload C dL_minute_140 (by repeat (first | exact hs_eq _ _ _ | refine hs_ne (by omega) ?_ | assumption)) (by omega) (by omega) (by omega) ?_
              refine k_iadd C dL_minute_141 ?_
              refine k_iastore C dL_minute_142 (by repeat (first | exact hs_eq _ _ _ | refine hs_ne (by omega) ?_ | assumption)) (by omega) (by omega) (by omega) ?_
              refine k_aload_n C dL_minute_143 rfl ?_
              refine k_iconst C dL_minute_144 ?_
              refine k_iload C dL_minute_145 rfl ?_
              refine k_imul C dL_minute_147 ?_
              refine k_iconst C dL_minute_148 ?_
              refine k_iadd C dL_minute_149 ?_
              refine k_dup2 C dL_minute_150 rfl rfl ?_
              refine k_iaload C dL_minute_151 (by repeat (first | exact hs_eq _ _ _ | refine hs_ne (by omega) ?_ | assumption)) (by omega) (by omega) (by omega) ?_
              rw [iu_ne (by omega)]
              refine k_iconst C dL_minute_152 ?_
              refine k_iadd C dL_minute_153 ?_
              refine k_iastore C dL_minute_154 (by repeat (first | exact hs_eq _ _ _ | refine hs_ne (by omega) ?_ | assumption)) (by omega) (by omega) (by omega) ?_
              first
                | (have hz : zOne zrr = zrr := by rw [zOne, if_pos (by omega)]
                   refine k_sub (kend _ (by rw [hz]; exact hA) (fun aaa haa => by repeat (first | rfl | refine hs_ne (by omega) ?_))) ((And.intro rfl (And.intro rfl (And.intro rfl (And.intro rfl (And.intro rfl trivial)))))))
                | (have hz : zOne zrr = iu (iu (zWind zrr (zrr (22 + 5 * (zCom zrr))) (zrr (22 + 5 * (zCom zrr) + 1))) (22 + 5 * (zCom zrr) + 3) (zrr 13 + zrr (22 + 5 * (zCom zrr) + 2))) (22 + 5 * (zCom zrr) + 4) (zrr (22 + 5 * (zCom zrr) + 4) + 1) := by rw [zOne, if_neg (by omega)]
                   refine k_sub (kend _ ⟨_, _, _, _, _, ⟨(by repeat (first | exact hs_eq _ _ _ | refine hs_ne (by omega) ?_ | assumption)), (by repeat (first | exact hs_eq _ _ _ | refine hs_ne (by omega) ?_ | assumption)), (by repeat (first | exact hs_eq _ _ _ | refine hs_ne (by omega) ?_ | assumption)), (by repeat (first | exact hs_eq _ _ _ | refine hs_ne (by omega) ?_ | assumption)), (by repeat (first | exact hs_eq _ _ _ | refine hs_ne (by omega) ?_ | assumption))⟩, ?_⟩ (fun aaa haa => by repeat (first | rfl | refine hs_ne (by omega) ?_))) ((And.intro rfl (And.intro rfl (And.intro rfl (And.intro rfl (And.intro rfl trivial))))))
                   rw [hz]
                   exact ((hLR.wind (by omega) w0 w1).w (by omega) (by omega)).w (by omega) (by omega))))
      · try (exfalso; omega)
        all_goals (
          have w0 : wi (5 * jj) = zrr (22 + 5 * jj) := ew (5 * jj) (by omega) (by omega)
          have w1 : wi (5 * jj + 1) = zrr (22 + 5 * jj + 1) := by
            have := ew (5 * jj + 1) (by omega) (by omega)
            rw [← Int.add_assoc] at this
            exact this
          have w2 : wi (5 * jj + 2) = zrr (22 + 5 * jj + 2) := by
            have := ew (5 * jj + 2) (by omega) (by omega)
            rw [← Int.add_assoc] at this
            exact this
          have w3 : wi (5 * jj + 3) = zrr (22 + 5 * jj + 3) := by
            have := ew (5 * jj + 3) (by omega) (by omega)
            rw [← Int.add_assoc] at this
            exact this
          have w4 : wi (5 * jj + 4) = zrr (22 + 5 * jj + 4) := by
            have := ew (5 * jj + 4) (by omega) (by omega)
            rw [← Int.add_assoc] at this
            exact this
          have hwj := hwi jj (by omega) (by omega)
          refine k_aload_n C dL_minute_16 rfl ?_
          refine k_iconst C dL_minute_17 ?_
          refine k_iload C dL_minute_18 rfl ?_
          refine k_imul C dL_minute_20 ?_
          refine k_iaload C dL_minute_21 (by repeat (first | exact hs_eq _ _ _ | refine hs_ne (by omega) ?_ | assumption)) (by omega) (by omega) (by omega) ?_
          refine k_iconst C dL_minute_22 ?_
          refine k_icmp_ne (tgt := 43) C dL_minute_23 (by decide) ⟨by omega, by omega⟩ ⟨by omega, by omega⟩ (fun c23 => ?_) (fun c23 => ?_)
          · try (exfalso; omega)
            all_goals (
              refine k_iconst C dL_minute_43 ?_
              refine k_istore C dL_minute_44 (by decide) rfl ?_
              refine k_aload_n C dL_minute_46 rfl ?_
              refine k_iconst C dL_minute_47 ?_
              refine k_iload C dL_minute_48 rfl ?_
              refine k_imul C dL_minute_50 ?_
              refine k_iconst C dL_minute_51 ?_
              refine k_iadd C dL_minute_52 ?_
              refine k_iaload C dL_minute_53 (by repeat (first | exact hs_eq _ _ _ | refine hs_ne (by omega) ?_ | assumption)) (by omega) (by omega) (by omega) ?_
              refine k_aload_n C dL_minute_54 rfl ?_
              refine k_iconst C dL_minute_55 ?_
              refine k_iaload C dL_minute_56 (by repeat (first | exact hs_eq _ _ _ | refine hs_ne (by omega) ?_ | assumption)) (by omega) (by omega) (by omega) ?_
              refine k_icmp_gt (tgt := 93) C dL_minute_57 (by decide) ⟨by omega, by omega⟩ ⟨by omega, by omega⟩ (fun c57 => ?_) (fun c57 => ?_)
              · try (exfalso; omega)
                all_goals (
                  refine k_iinc C dL_minute_93 rfl (by decide) rfl ?_
                  refine k_goto (tgt := 11) C dL_minute_96 (by decide) ?_
                  first
                    | (have q1 := ih (jj - 1) jj (by omega) (by omega) (by rw [show jj - 1 + 1 = jj by omega]; exact zBk_take hbk (by omega) ⟨by omega, by omega⟩ (by omega)) (by omega) (by omega)
                       exact k_sub q1 (And.intro rfl (And.intro rfl (And.intro rfl (And.intro rfl (And.intro rfl (And.intro rfl (And.intro rfl trivial))))))))
                    | (have q1 := ih (jj - 1) bb (by omega) (by omega) (by rw [show jj - 1 + 1 = jj by omega]; exact zBk_skip hbk (by omega)) (by omega) (by omega)
                       exact k_sub q1 (And.intro rfl (And.intro rfl (And.intro rfl (And.intro rfl (And.intro rfl (And.intro rfl (And.intro rfl trivial)))))))))
              · try (exfalso; omega)
                all_goals (
                  refine k_iload C dL_minute_60 rfl ?_
                  refine k_if_ne (tgt := 93) C dL_minute_62 (by decide) ⟨by omega, by omega⟩ (fun c62 => ?_) (fun c62 => ?_)
                  · try (exfalso; omega)
                    all_goals (
                      refine k_iinc C dL_minute_93 rfl (by decide) rfl ?_
                      refine k_goto (tgt := 11) C dL_minute_96 (by decide) ?_
                      first
                        | (have q1 := ih (jj - 1) jj (by omega) (by omega) (by rw [show jj - 1 + 1 = jj by omega]; exact zBk_take hbk (by omega) ⟨by omega, by omega⟩ (by omega)) (by omega) (by omega)
                           exact k_sub q1 (And.intro rfl (And.intro rfl (And.intro rfl (And.intro rfl (And.intro rfl (And.intro rfl (And.intro rfl trivial))))))))
                        | (have q1 := ih (jj - 1) bb (by omega) (by omega) (by rw [show jj - 1 + 1 = jj by omega]; exact zBk_skip hbk (by omega)) (by omega) (by omega)
                           exact k_sub q1 (And.intro rfl (And.intro rfl (And.intro rfl (And.intro rfl (And.intro rfl (And.intro rfl (And.intro rfl trivial)))))))))
                  · try (exfalso; omega)
                    all_goals (
                      refine k_iload C dL_minute_65 rfl ?_
                      refine k_if_lt (tgt := 89) C dL_minute_67 (by decide) ⟨by omega, by omega⟩ (fun c67 => ?_) (fun c67 => ?_)
                      · try (exfalso; omega)
                        all_goals (
                          refine k_iload C dL_minute_89 rfl ?_
                          refine k_istore C dL_minute_91 (by decide) rfl ?_
                          refine k_iinc C dL_minute_93 rfl (by decide) rfl ?_
                          refine k_goto (tgt := 11) C dL_minute_96 (by decide) ?_
                          first
                            | (have q1 := ih (jj - 1) jj (by omega) (by omega) (by rw [show jj - 1 + 1 = jj by omega]; exact zBk_take hbk (by omega) ⟨by omega, by omega⟩ (by omega)) (by omega) (by omega)
                               exact k_sub q1 (And.intro rfl (And.intro rfl (And.intro rfl (And.intro rfl (And.intro rfl (And.intro rfl (And.intro rfl trivial))))))))
                            | (have q1 := ih (jj - 1) bb (by omega) (by omega) (by rw [show jj - 1 + 1 = jj by omega]; exact zBk_skip hbk (by omega)) (by omega) (by omega)
                               exact k_sub q1 (And.intro rfl (And.intro rfl (And.intro rfl (And.intro rfl (And.intro rfl (And.intro rfl (And.intro rfl trivial)))))))))
                      · try (exfalso; omega)
                        all_goals (
                          have x0 : wi (5 * bb) = zrr (22 + 5 * bb) := ew (5 * bb) (by omega) (by omega)
                          have x1 : wi (5 * bb + 1) = zrr (22 + 5 * bb + 1) := by
                            have := ew (5 * bb + 1) (by omega) (by omega)
                            rw [← Int.add_assoc] at this
                            exact this
                          have x2 : wi (5 * bb + 2) = zrr (22 + 5 * bb + 2) := by
                            have := ew (5 * bb + 2) (by omega) (by omega)
                            rw [← Int.add_assoc] at this
                            exact this
                          have x3 : wi (5 * bb + 3) = zrr (22 + 5 * bb + 3) := by
                            have := ew (5 * bb + 3) (by omega) (by omega)
                            rw [← Int.add_assoc] at this
                            exact this
                          have x4 : wi (5 * bb + 4) = zrr (22 + 5 * bb + 4) := by
                            have := ew (5 * bb + 4) (by omega) (by omega)
                            rw [← Int.add_assoc] at this
                            exact this
                          have hwb := hwi bb (by omega) (by omega)
                          refine k_aload_n C dL_minute_70 rfl ?_
                          refine k_iconst C dL_minute_71 ?_
                          refine k_iload C dL_minute_72 rfl ?_
                          refine k_imul C dL_minute_74 ?_
                          refine k_iconst C dL_minute_75 ?_
                          refine k_iadd C dL_minute_76 ?_
                          refine k_iaload C dL_minute_77 (by repeat (first | exact hs_eq _ _ _ | refine hs_ne (by omega) ?_ | assumption)) (by omega) (by omega) (by omega) ?_
                          refine k_aload_n C dL_minute_78 rfl ?_
                          refine k_iconst C dL_minute_79 ?_
                          refine k_iload C dL_minute_80 rfl ?_
                          refine k_imul C dL_minute_82 ?_
                          refine k_iconst C dL_minute_83 ?_
                          refine k_iadd C dL_minute_84 ?_
                          refine k_iaload C dL_minute_85 (by repeat (first | exact hs_eq _ _ _ | refine hs_ne (by omega) ?_ | assumption)) (by omega) (by omega) (by omega) ?_
                          refine k_icmp_gt (tgt := 93) C dL_minute_86 (by decide) ⟨by omega, by omega⟩ ⟨by omega, by omega⟩ (fun c86 => ?_) (fun c86 => ?_)
                          · try (exfalso; omega)
                            all_goals (
                              refine k_iinc C dL_minute_93 rfl (by decide) rfl ?_
                              refine k_goto (tgt := 11) C dL_minute_96 (by decide) ?_
                              first
                                | (have q1 := ih (jj - 1) jj (by omega) (by omega) (by rw [show jj - 1 + 1 = jj by omega]; exact zBk_take hbk (by omega) ⟨by omega, by omega⟩ (by omega)) (by omega) (by omega)
                                   exact k_sub q1 (And.intro rfl (And.intro rfl (And.intro rfl (And.intro rfl (And.intro rfl (And.intro rfl (And.intro rfl trivial))))))))
                                | (have q1 := ih (jj - 1) bb (by omega) (by omega) (by rw [show jj - 1 + 1 = jj by omega]; exact zBk_skip hbk (by omega)) (by omega) (by omega)
                                   exact k_sub q1 (And.intro rfl (And.intro rfl (And.intro rfl (And.intro rfl (And.intro rfl (And.intro rfl (And.intro rfl trivial)))))))))
                          · try (exfalso; omega)
                            all_goals (
                              refine k_iload C dL_minute_89 rfl ?_
                              refine k_istore C dL_minute_91 (by decide) rfl ?_
                              refine k_iinc C dL_minute_93 rfl (by decide) rfl ?_
                              refine k_goto (tgt := 11) C dL_minute_96 (by decide) ?_
                              first
                                | (have q1 := ih (jj - 1) jj (by omega) (by omega) (by rw [show jj - 1 + 1 = jj by omega]; exact zBk_take hbk (by omega) ⟨by omega, by omega⟩ (by omega)) (by omega) (by omega)
                                   exact k_sub q1 (And.intro rfl (And.intro rfl (And.intro rfl (And.intro rfl (And.intro rfl (And.intro rfl (And.intro rfl trivial))))))))
                                | (have q1 := ih (jj - 1) bb (by omega) (by omega) (by rw [show jj - 1 + 1 = jj by omega]; exact zBk_skip hbk (by omega)) (by omega) (by omega)
                                   exact k_sub q1 (And.intro rfl (And.intro rfl (And.intro rfl (And.intro rfl (And.intro rfl (And.intro rfl (And.intro rfl trivial)))))))))))))
          · try (exfalso; omega)
            all_goals (
              refine k_aload_n C dL_minute_26 rfl ?_
              refine k_bipush C dL_minute_27 (by decide +kernel) ?_
              refine k_iaload C dL_minute_29 (by repeat (first | exact hs_eq _ _ _ | refine hs_ne (by omega) ?_ | assumption)) (by omega) (by omega) (by omega) ?_
              refine k_if_le (tgt := 43) C dL_minute_30 (by decide) ⟨by omega, by omega⟩ (fun c30 => ?_) (fun c30 => ?_)
              · try (exfalso; omega)
                all_goals (
                  refine k_iconst C dL_minute_43 ?_
                  refine k_istore C dL_minute_44 (by decide) rfl ?_
                  refine k_aload_n C dL_minute_46 rfl ?_
                  refine k_iconst C dL_minute_47 ?_
                  refine k_iload C dL_minute_48 rfl ?_
                  refine k_imul C dL_minute_50 ?_
                  refine k_iconst C dL_minute_51 ?_
                  refine k_iadd C dL_minute_52 ?_
                  refine k_iaload C dL_minute_53 (by repeat (first | exact hs_eq _ _ _ | refine hs_ne (by omega) ?_ | assumption)) (by omega) (by omega) (by omega) ?_
                  refine k_aload_n C dL_minute_54 rfl ?_
                  refine k_iconst C dL_minute_55 ?_
                  refine k_iaload C dL_minute_56 (by repeat (first | exact hs_eq _ _ _ | refine hs_ne (by omega) ?_ | assumption)) (by omega) (by omega) (by omega) ?_
                  refine k_icmp_gt (tgt := 93) C dL_minute_57 (by decide) ⟨by omega, by omega⟩ ⟨by omega, by omega⟩ (fun c57 => ?_) (fun c57 => ?_)
                  · try (exfalso; omega)
                    all_goals (
                      refine k_iinc C dL_minute_93 rfl (by decide) rfl ?_
                      refine k_goto (tgt := 11) C dL_minute_96 (by decide) ?_
                      first
                        | (have q1 := ih (jj - 1) jj (by omega) (by omega) (by rw [show jj - 1 + 1 = jj by omega]; exact zBk_take hbk (by omega) ⟨by omega, by omega⟩ (by omega)) (by omega) (by omega)
                           exact k_sub q1 (And.intro rfl (And.intro rfl (And.intro rfl (And.intro rfl (And.intro rfl (And.intro rfl (And.intro rfl trivial))))))))
                        | (have q1 := ih (jj - 1) bb (by omega) (by omega) (by rw [show jj - 1 + 1 = jj by omega]; exact zBk_skip hbk (by omega)) (by omega) (by omega)
                           exact k_sub q1 (And.intro rfl (And.intro rfl (And.intro rfl (And.intro rfl (And.intro rfl (And.intro rfl (And.intro rfl trivial)))))))))
                  · try (exfalso; omega)
                    all_goals (
                      refine k_iload C dL_minute_60 rfl ?_
                      refine k_if_ne (tgt := 93) C dL_minute_62 (by decide) ⟨by omega, by omega⟩ (fun c62 => ?_) (fun c62 => ?_)
                      · try (exfalso; omega)
                        all_goals (
                          refine k_iinc C dL_minute_93 rfl (by decide) rfl ?_
                          refine k_goto (tgt := 11) C dL_minute_96 (by decide) ?_
                          first
                            | (have q1 := ih (jj - 1) jj (by omega) (by omega) (by rw [show jj - 1 + 1 = jj by omega]; exact zBk_take hbk (by omega) ⟨by omega, by omega⟩ (by omega)) (by omega) (by omega)
                               exact k_sub q1 (And.intro rfl (And.intro rfl (And.intro rfl (And.intro rfl (And.intro rfl (And.intro rfl (And.intro rfl trivial))))))))
                            | (have q1 := ih (jj - 1) bb (by omega) (by omega) (by rw [show jj - 1 + 1 = jj by omega]; exact zBk_skip hbk (by omega)) (by omega) (by omega)
                               exact k_sub q1 (And.intro rfl (And.intro rfl (And.intro rfl (And.intro rfl (And.intro rfl (And.intro rfl (And.intro rfl trivial)))))))))
                      · try (exfalso; omega)
                        all_goals (
                          refine k_iload C dL_minute_65 rfl ?_
                          refine k_if_lt (tgt := 89) C dL_minute_67 (by decide) ⟨by omega, by omega⟩ (fun c67 => ?_) (fun c67 => ?_)
                          · try (exfalso; omega)
                            all_goals (
                              refine k_iload C dL_minute_89 rfl ?_
                              refine k_istore C dL_minute_91 (by decide) rfl ?_
                              refine k_iinc C dL_minute_93 rfl (by decide) rfl ?_
                              refine k_goto (tgt := 11) C dL_minute_96 (by decide) ?_
                              first
                                | (have q1 := ih (jj - 1) jj (by omega) (by omega) (by rw [show jj - 1 + 1 = jj by omega]; exact zBk_take hbk (by omega) ⟨by omega, by omega⟩ (by omega)) (by omega) (by omega)
                                   exact k_sub q1 (And.intro rfl (And.intro rfl (And.intro rfl (And.intro rfl (And.intro rfl (And.intro rfl (And.intro rfl trivial))))))))
                                | (have q1 := ih (jj - 1) bb (by omega) (by omega) (by rw [show jj - 1 + 1 = jj by omega]; exact zBk_skip hbk (by omega)) (by omega) (by omega)
                                   exact k_sub q1 (And.intro rfl (And.intro rfl (And.intro rfl (And.intro rfl (And.intro rfl (And.intro rfl (And.intro rfl trivial)))))))))
                          · try (exfalso; omega)
                            all_goals (
                              have x0 : wi (5 * bb) = zrr (22 + 5 * bb) := ew (5 * bb) (by omega) (by omega)
                              have x1 : wi (5 * bb + 1) = zrr (22 + 5 * bb + 1) := by
                                have := ew (5 * bb + 1) (by omega) (by omega)
                                rw [← Int.add_assoc] at this
                                exact this
                              have x2 : wi (5 * bb + 2) = zrr (22 + 5 * bb + 2) := by
                                have := ew (5 * bb + 2) (by omega) (by omega)
                                rw [← Int.add_assoc] at this
                                exact this
                              have x3 : wi (5 * bb + 3) = zrr (22 + 5 * bb + 3) := by
                                have := ew (5 * bb + 3) (by omega) (by omega)
                                rw [← Int.add_assoc] at this
                                exact this
                              have x4 : wi (5 * bb + 4) = zrr (22 + 5 * bb + 4) := by
                                have := ew (5 * bb + 4) (by omega) (by omega)
                                rw [← Int.add_assoc] at this
                                exact this
                              have hwb := hwi bb (by omega) (by omega)
                              refine k_aload_n C dL_minute_70 rfl ?_
                              refine k_iconst C dL_minute_71 ?_
                              refine k_iload C dL_minute_72 rfl ?_
                              refine k_imul C dL_minute_74 ?_
                              refine k_iconst C dL_minute_75 ?_
                              refine k_iadd C dL_minute_76 ?_
                              refine k_iaload C dL_minute_77 (by repeat (first | exact hs_eq _ _ _ | refine hs_ne (by omega) ?_ | assumption)) (by omega) (by omega) (by omega) ?_
                              refine k_aload_n C dL_minute_78 rfl ?_
                              refine k_iconst C dL_minute_79 ?_
                              refine k_iload C dL_minute_80 rfl ?_
                              refine k_imul C dL_minute_82 ?_
                              refine k_iconst C dL_minute_83 ?_
                              refine k_iadd C dL_minute_84 ?_
                              refine k_iaload C dL_minute_85 (by repeat (first | exact hs_eq _ _ _ | refine hs_ne (by omega) ?_ | assumption)) (by omega) (by omega) (by omega) ?_
                              refine k_icmp_gt (tgt := 93) C dL_minute_86 (by decide) ⟨by omega, by omega⟩ ⟨by omega, by omega⟩ (fun c86 => ?_) (fun c86 => ?_)
                              · try (exfalso; omega)
                                all_goals (
                                  refine k_iinc C dL_minute_93 rfl (by decide) rfl ?_
                                  refine k_goto (tgt := 11) C dL_minute_96 (by decide) ?_
                                  first
                                    | (have q1 := ih (jj - 1) jj (by omega) (by omega) (by rw [show jj - 1 + 1 = jj by omega]; exact zBk_take hbk (by omega) ⟨by omega, by omega⟩ (by omega)) (by omega) (by omega)
                                       exact k_sub q1 (And.intro rfl (And.intro rfl (And.intro rfl (And.intro rfl (And.intro rfl (And.intro rfl (And.intro rfl trivial))))))))
                                    | (have q1 := ih (jj - 1) bb (by omega) (by omega) (by rw [show jj - 1 + 1 = jj by omega]; exact zBk_skip hbk (by omega)) (by omega) (by omega)
                                       exact k_sub q1 (And.intro rfl (And.intro rfl (And.intro rfl (And.intro rfl (And.intro rfl (And.intro rfl (And.intro rfl trivial)))))))))
                              · try (exfalso; omega)
                                all_goals (
                                  refine k_iload C dL_minute_89 rfl ?_
                                  refine k_istore C dL_minute_91 (by decide) rfl ?_
                                  refine k_iinc C dL_minute_93 rfl (by decide) rfl ?_
                                  refine k_goto (tgt := 11) C dL_minute_96 (by decide) ?_
                                  first
                                    | (have q1 := ih (jj - 1) jj (by omega) (by omega) (by rw [show jj - 1 + 1 = jj by omega]; exact zBk_take hbk (by omega) ⟨by omega, by omega⟩ (by omega)) (by omega) (by omega)
                                       exact k_sub q1 (And.intro rfl (And.intro rfl (And.intro rfl (And.intro rfl (And.intro rfl (And.intro rfl (And.intro rfl trivial))))))))
                                    | (have q1 := ih (jj - 1) bb (by omega) (by omega) (by rw [show jj - 1 + 1 = jj by omega]; exact zBk_skip hbk (by omega)) (by omega) (by omega)
                                       exact k_sub q1 (And.intro rfl (And.intro rfl (And.intro rfl (And.intro rfl (And.intro rfl (And.intro rfl (And.intro rfl trivial)))))))))))))
              · try (exfalso; omega)
                all_goals (
                  refine k_aload_n C dL_minute_33 rfl ?_
                  refine k_iconst C dL_minute_34 ?_
                  refine k_iaload C dL_minute_35 (by repeat (first | exact hs_eq _ _ _ | refine hs_ne (by omega) ?_ | assumption)) (by omega) (by omega) (by omega) ?_
                  refine k_if_le (tgt := 43) C dL_minute_36 (by decide) ⟨by omega, by omega⟩ (fun c36 => ?_) (fun c36 => ?_)
                  · try (exfalso; omega)
                    all_goals (
                      refine k_iconst C dL_minute_43 ?_
                      refine k_istore C dL_minute_44 (by decide) rfl ?_
                      refine k_aload_n C dL_minute_46 rfl ?_
                      refine k_iconst C dL_minute_47 ?_
                      refine k_iload C dL_minute_48 rfl ?_
                      refine k_imul C dL_minute_50 ?_
                      refine k_iconst C dL_minute_51 ?_
                      refine k_iadd C dL_minute_52 ?_
                      refine k_iaload C dL_minute_53 (by repeat (first | exact hs_eq _ _ _ | refine hs_ne (by omega) ?_ | assumption)) (by omega) (by omega) (by omega) ?_
                      refine k_aload_n C dL_minute_54 rfl ?_
                      refine k_iconst C dL_minute_55 ?_
                      refine k_iaload C dL_minute_56 (by repeat (first | exact hs_eq _ _ _ | refine hs_ne (by omega) ?_ | assumption)) (by omega) (by omega) (by omega) ?_
                      refine k_icmp_gt (tgt := 93) C dL_minute_57 (by decide) ⟨by omega, by omega⟩ ⟨by omega, by omega⟩ (fun c57 => ?_) (fun c57 => ?_)
                      · try (exfalso; omega)
                        all_goals (
                          refine k_iinc C dL_minute_93 rfl (by decide) rfl ?_
                          refine k_goto (tgt := 11) C dL_minute_96 (by decide) ?_
                          first
                            | (have q1 := ih (jj - 1) jj (by omega) (by omega) (by rw [show jj - 1 + 1 = jj by omega]; exact zBk_take hbk (by omega) ⟨by omega, by omega⟩ (by omega)) (by omega) (by omega)
                               exact k_sub q1 (And.intro rfl (And.intro rfl (And.intro rfl (And.intro rfl (And.intro rfl (And.intro rfl (And.intro rfl trivial))))))))
                            | (have q1 := ih (jj - 1) bb (by omega) (by omega) (by rw [show jj - 1 + 1 = jj by omega]; exact zBk_skip hbk (by omega)) (by omega) (by omega)
                               exact k_sub q1 (And.intro rfl (And.intro rfl (And.intro rfl (And.intro rfl (And.intro rfl (And.intro rfl (And.intro rfl trivial)))))))))
                      · try (exfalso; omega)
                        all_goals (
                          refine k_iload C dL_minute_60 rfl ?_
                          refine k_if_ne (tgt := 93) C dL_minute_62 (by decide) ⟨by omega, by omega⟩ (fun c62 => ?_) (fun c62 => ?_)
                          · try (exfalso; omega)
                            all_goals (
                              refine k_iinc C dL_minute_93 rfl (by decide) rfl ?_
                              refine k_goto (tgt := 11) C dL_minute_96 (by decide) ?_
                              first
                                | (have q1 := ih (jj - 1) jj (by omega) (by omega) (by rw [show jj - 1 + 1 = jj by omega]; exact zBk_take hbk (by omega) ⟨by omega, by omega⟩ (by omega)) (by omega) (by omega)
                                   exact k_sub q1 (And.intro rfl (And.intro rfl (And.intro rfl (And.intro rfl (And.intro rfl (And.intro rfl (And.intro rfl trivial))))))))
                                | (have q1 := ih (jj - 1) bb (by omega) (by omega) (by rw [show jj - 1 + 1 = jj by omega]; exact zBk_skip hbk (by omega)) (by omega) (by omega)
                                   exact k_sub q1 (And.intro rfl (And.intro rfl (And.intro rfl (And.intro rfl (And.intro rfl (And.intro rfl (And.intro rfl trivial)))))))))
                          · try (exfalso; omega)
                            all_goals (
                              refine k_iload C dL_minute_65 rfl ?_
                              refine k_if_lt (tgt := 89) C dL_minute_67 (by decide) ⟨by omega, by omega⟩ (fun c67 => ?_) (fun c67 => ?_)
                              · try (exfalso; omega)
                                all_goals (
                                  refine k_iload C dL_minute_89 rfl ?_
                                  refine k_istore C dL_minute_91 (by decide) rfl ?_
                                  refine k_iinc C dL_minute_93 rfl (by decide) rfl ?_
                                  refine k_goto (tgt := 11) C dL_minute_96 (by decide) ?_
                                  first
                                    | (have q1 := ih (jj - 1) jj (by omega) (by omega) (by rw [show jj - 1 + 1 = jj by omega]; exact zBk_take hbk (by omega) ⟨by omega, by omega⟩ (by omega)) (by omega) (by omega)
                                       exact k_sub q1 (And.intro rfl (And.intro rfl (And.intro rfl (And.intro rfl (And.intro rfl (And.intro rfl (And.intro rfl trivial))))))))
                                    | (have q1 := ih (jj - 1) bb (by omega) (by omega) (by rw [show jj - 1 + 1 = jj by omega]; exact zBk_skip hbk (by omega)) (by omega) (by omega)
                                       exact k_sub q1 (And.intro rfl (And.intro rfl (And.intro rfl (And.intro rfl (And.intro rfl (And.intro rfl (And.intro rfl trivial)))))))))
                              · try (exfalso; omega)
                                all_goals (
                                  have x0 : wi (5 * bb) = zrr (22 + 5 * bb) := ew (5 * bb) (by omega) (by omega)
                                  have x1 : wi (5 * bb + 1) = zrr (22 + 5 * bb + 1) := by
                                    have := ew (5 * bb + 1) (by omega) (by omega)
                                    rw [← Int.add_assoc] at this
                                    exact this
                                  have x2 : wi (5 * bb + 2) = zrr (22 + 5 * bb + 2) := by
                                    have := ew (5 * bb + 2) (by omega) (by omega)
                                    rw [← Int.add_assoc] at this
                                    exact this
                                  have x3 : wi (5 * bb + 3) = zrr (22 + 5 * bb + 3) := by
                                    have := ew (5 * bb + 3) (by omega) (by omega)
                                    rw [← Int.add_assoc] at this
                                    exact this
                                  have x4 : wi (5 * bb + 4) = zrr (22 + 5 * bb + 4) := by
                                    have := ew (5 * bb + 4) (by omega) (by omega)
                                    rw [← Int.add_assoc] at this
                                    exact this
                                  have hwb := hwi bb (by omega) (by omega)
                                  refine k_aload_n C dL_minute_70 rfl ?_
                                  refine k_iconst C dL_minute_71 ?_
                                  refine k_iload C dL_minute_72 rfl ?_
                                  refine k_imul C dL_minute_74 ?_
                                  refine k_iconst C dL_minute_75 ?_
                                  refine k_iadd C dL_minute_76 ?_
                                  refine k_iaload C dL_minute_77 (by repeat (first | exact hs_eq _ _ _ | refine hs_ne (by omega) ?_ | assumption)) (by omega) (by omega) (by omega) ?_
                                  refine k_aload_n C dL_minute_78 rfl ?_
                                  refine k_iconst C dL_minute_79 ?_
                                  refine k_iload C dL_minute_80 rfl ?_
                                  refine k_imul C dL_minute_82 ?_
                                  refine k_iconst C dL_minute_83 ?_
                                  refine k_iadd C dL_minute_84 ?_
                                  refine k_iaload C dL_minute_85 (by repeat (first | exact hs_eq _ _ _ | refine hs_ne (by omega) ?_ | assumption)) (by omega) (by omega) (by omega) ?_
                                  refine k_icmp_gt (tgt := 93) C dL_minute_86 (by decide) ⟨by omega, by omega⟩ ⟨by omega, by omega⟩ (fun c86 => ?_) (fun c86 => ?_)
                                  · try (exfalso; omega)
                                    all_goals (
                                      refine k_iinc C dL_minute_93 rfl (by decide) rfl ?_
                                      refine k_goto (tgt := 11) C dL_minute_96 (by decide) ?_
                                      first
                                        | (have q1 := ih (jj - 1) jj (by omega) (by omega) (by rw [show jj - 1 + 1 = jj by omega]; exact zBk_take hbk (by omega) ⟨by omega, by omega⟩ (by omega)) (by omega) (by omega)
                                           exact k_sub q1 (And.intro rfl (And.intro rfl (And.intro rfl (And.intro rfl (And.intro rfl (And.intro rfl (And.intro rfl trivial))))))))
                                        | (have q1 := ih (jj - 1) bb (by omega) (by omega) (by rw [show jj - 1 + 1 = jj by omega]; exact zBk_skip hbk (by omega)) (by omega) (by omega)
                                           exact k_sub q1 (And.intro rfl (And.intro rfl (And.intro rfl (And.intro rfl (And.intro rfl (And.intro rfl (And.intro rfl trivial)))))))))
                                  · try (exfalso; omega)
                                    all_goals (
                                      refine k_iload C dL_minute_89 rfl ?_
                                      refine k_istore C dL_minute_91 (by decide) rfl ?_
                                      refine k_iinc C dL_minute_93 rfl (by decide) rfl ?_
                                      refine k_goto (tgt := 11) C dL_minute_96 (by decide) ?_
                                      first
                                        | (have q1 := ih (jj - 1) jj (by omega) (by omega) (by rw [show jj - 1 + 1 = jj by omega]; exact zBk_take hbk (by omega) ⟨by omega, by omega⟩ (by omega)) (by omega) (by omega)
                                           exact k_sub q1 (And.intro rfl (And.intro rfl (And.intro rfl (And.intro rfl (And.intro rfl (And.intro rfl (And.intro rfl trivial))))))))
                                        | (have q1 := ih (jj - 1) bb (by omega) (by omega) (by rw [show jj - 1 + 1 = jj by omega]; exact zBk_skip hbk (by omega)) (by omega) (by omega)
                                           exact k_sub q1 (And.intro rfl (And.intro rfl (And.intro rfl (And.intro rfl (And.intro rfl (And.intro rfl (And.intro rfl trivial)))))))))))))
                  · try (exfalso; omega)
                    all_goals (
                      refine k_iconst C dL_minute_39 ?_
                      refine k_goto (tgt := 44) C dL_minute_40 (by decide) ?_
                      refine k_istore C dL_minute_44 (by decide) rfl ?_
                      refine k_aload_n C dL_minute_46 rfl ?_
                      refine k_iconst C dL_minute_47 ?_
                      refine k_iload C dL_minute_48 rfl ?_
                      refine k_imul C dL_minute_50 ?_
                      refine k_iconst C dL_minute_51 ?_
                      refine k_iadd C dL_minute_52 ?_
                      refine k_iaload C dL_minute_53 (by repeat (first | exact hs_eq _ _ _ | refine hs_ne (by omega) ?_ | assumption)) (by omega) (by omega) (by omega) ?_
                      refine k_aload_n C dL_minute_54 rfl ?_
                      refine k_iconst C dL_minute_55 ?_
                      refine k_iaload C dL_minute_56 (by repeat (first | exact hs_eq _ _ _ | refine hs_ne (by omega) ?_ | assumption)) (by omega) (by omega) (by omega) ?_
                      refine k_icmp_gt (tgt := 93) C dL_minute_57 (by decide) ⟨by omega, by omega⟩ ⟨by omega, by omega⟩ (fun c57 => ?_) (fun c57 => ?_)
                      · try (exfalso; omega)
                        all_goals (
                          refine k_iinc C dL_minute_93 rfl (by decide) rfl ?_
                          refine k_goto (tgt := 11) C dL_minute_96 (by decide) ?_
                          first
                            | (have q1 := ih (jj - 1) jj (by omega) (by omega) (by rw [show jj - 1 + 1 = jj by omega]; exact zBk_take hbk (by omega) ⟨by omega, by omega⟩ (by omega)) (by omega) (by omega)
                               exact k_sub q1 (And.intro rfl (And.intro rfl (And.intro rfl (And.intro rfl (And.intro rfl (And.intro rfl (And.intro rfl trivial))))))))
                            | (have q1 := ih (jj - 1) bb (by omega) (by omega) (by rw [show jj - 1 + 1 = jj by omega]; exact zBk_skip hbk (by omega)) (by omega) (by omega)
                               exact k_sub q1 (And.intro rfl (And.intro rfl (And.intro rfl (And.intro rfl (And.intro rfl (And.intro rfl (And.intro rfl trivial)))))))))
                      · try (exfalso; omega)
                        all_goals (
                          refine k_iload C dL_minute_60 rfl ?_
                          refine k_if_ne (tgt := 93) C dL_minute_62 (by decide) ⟨by omega, by omega⟩ (fun c62 => ?_) (fun c62 => ?_)
                          · try (exfalso; omega)
                            all_goals (
                              refine k_iinc C dL_minute_93 rfl (by decide) rfl ?_
                              refine k_goto (tgt := 11) C dL_minute_96 (by decide) ?_
                              first
                                | (have q1 := ih (jj - 1) jj (by omega) (by omega) (by rw [show jj - 1 + 1 = jj by omega]; exact zBk_take hbk (by omega) ⟨by omega, by omega⟩ (by omega)) (by omega) (by omega)
                                   exact k_sub q1 (And.intro rfl (And.intro rfl (And.intro rfl (And.intro rfl (And.intro rfl (And.intro rfl (And.intro rfl trivial))))))))
                                | (have q1 := ih (jj - 1) bb (by omega) (by omega) (by rw [show jj - 1 + 1 = jj by omega]; exact zBk_skip hbk (by omega)) (by omega) (by omega)
                                   exact k_sub q1 (And.intro rfl (And.intro rfl (And.intro rfl (And.intro rfl (And.intro rfl (And.intro rfl (And.intro rfl trivial)))))))))
                          · try (exfalso; omega)
                            all_goals (
                              refine k_iload C dL_minute_65 rfl ?_
                              refine k_if_lt (tgt := 89) C dL_minute_67 (by decide) ⟨by omega, by omega⟩ (fun c67 => ?_) (fun c67 => ?_)
                              · try (exfalso; omega)
                                all_goals (
                                  refine k_iload C dL_minute_89 rfl ?_
                                  refine k_istore C dL_minute_91 (by decide) rfl ?_
                                  refine k_iinc C dL_minute_93 rfl (by decide) rfl ?_
                                  refine k_goto (tgt := 11) C dL_minute_96 (by decide) ?_
                                  first
                                    | (have q1 := ih (jj - 1) jj (by omega) (by omega) (by rw [show jj - 1 + 1 = jj by omega]; exact zBk_take hbk (by omega) ⟨by omega, by omega⟩ (by omega)) (by omega) (by omega)
                                       exact k_sub q1 (And.intro rfl (And.intro rfl (And.intro rfl (And.intro rfl (And.intro rfl (And.intro rfl (And.intro rfl trivial))))))))
                                    | (have q1 := ih (jj - 1) bb (by omega) (by omega) (by rw [show jj - 1 + 1 = jj by omega]; exact zBk_skip hbk (by omega)) (by omega) (by omega)
                                       exact k_sub q1 (And.intro rfl (And.intro rfl (And.intro rfl (And.intro rfl (And.intro rfl (And.intro rfl (And.intro rfl trivial)))))))))
                              · try (exfalso; omega)
                                all_goals (
                                  have x0 : wi (5 * bb) = zrr (22 + 5 * bb) := ew (5 * bb) (by omega) (by omega)
                                  have x1 : wi (5 * bb + 1) = zrr (22 + 5 * bb + 1) := by
                                    have := ew (5 * bb + 1) (by omega) (by omega)
                                    rw [← Int.add_assoc] at this
                                    exact this
                                  have x2 : wi (5 * bb + 2) = zrr (22 + 5 * bb + 2) := by
                                    have := ew (5 * bb + 2) (by omega) (by omega)
                                    rw [← Int.add_assoc] at this
                                    exact this
                                  have x3 : wi (5 * bb + 3) = zrr (22 + 5 * bb + 3) := by
                                    have := ew (5 * bb + 3) (by omega) (by omega)
                                    rw [← Int.add_assoc] at this
                                    exact this
                                  have x4 : wi (5 * bb + 4) = zrr (22 + 5 * bb + 4) := by
                                    have := ew (5 * bb + 4) (by omega) (by omega)
                                    rw [← Int.add_assoc] at this
                                    exact this
                                  have hwb := hwi bb (by omega) (by omega)
                                  refine k_aload_n C dL_minute_70 rfl ?_
                                  refine k_iconst C dL_minute_71 ?_
                                  refine k_iload C dL_minute_72 rfl ?_
                                  refine k_imul C dL_minute_74 ?_
                                  refine k_iconst C dL_minute_75 ?_
                                  refine k_iadd C dL_minute_76 ?_
                                  refine k_iaload C dL_minute_77 (by repeat (first | exact hs_eq _ _ _ | refine hs_ne (by omega) ?_ | assumption)) (by omega) (by omega) (by omega) ?_
                                  refine k_aload_n C dL_minute_78 rfl ?_
                                  refine k_iconst C dL_minute_79 ?_
                                  refine k_iload C dL_minute_80 rfl ?_
                                  refine k_imul C dL_minute_82 ?_
                                  refine k_iconst C dL_minute_83 ?_
                                  refine k_iadd C dL_minute_84 ?_
                                  refine k_iaload C dL_minute_85 (by repeat (first | exact hs_eq _ _ _ | refine hs_ne (by omega) ?_ | assumption)) (by omega) (by omega) (by omega) ?_
                                  refine k_icmp_gt (tgt := 93) C dL_minute_86 (by decide) ⟨by omega, by omega⟩ ⟨by omega, by omega⟩ (fun c86 => ?_) (fun c86 => ?_)
                                  · try (exfalso; omega)
                                    all_goals (
                                      refine k_iinc C dL_minute_93 rfl (by decide) rfl ?_
                                      refine k_goto (tgt := 11) C dL_minute_96 (by decide) ?_
                                      first
                                        | (have q1 := ih (jj - 1) jj (by omega) (by omega) (by rw [show jj - 1 + 1 = jj by omega]; exact zBk_take hbk (by omega) ⟨by omega, by omega⟩ (by omega)) (by omega) (by omega)
                                           exact k_sub q1 (And.intro rfl (And.intro rfl (And.intro rfl (And.intro rfl (And.intro rfl (And.intro rfl (And.intro rfl trivial))))))))
                                        | (have q1 := ih (jj - 1) bb (by omega) (by omega) (by rw [show jj - 1 + 1 = jj by omega]; exact zBk_skip hbk (by omega)) (by omega) (by omega)
                                           exact k_sub q1 (And.intro rfl (And.intro rfl (And.intro rfl (And.intro rfl (And.intro rfl (And.intro rfl (And.intro rfl trivial)))))))))
                                  · try (exfalso; omega)
                                    all_goals (
                                      refine k_iload C dL_minute_89 rfl ?_
                                      refine k_istore C dL_minute_91 (by decide) rfl ?_
                                      refine k_iinc C dL_minute_93 rfl (by decide) rfl ?_
                                      refine k_goto (tgt := 11) C dL_minute_96 (by decide) ?_
                                      first
                                        | (have q1 := ih (jj - 1) jj (by omega) (by omega) (by rw [show jj - 1 + 1 = jj by omega]; exact zBk_take hbk (by omega) ⟨by omega, by omega⟩ (by omega)) (by omega) (by omega)
                                           exact k_sub q1 (And.intro rfl (And.intro rfl (And.intro rfl (And.intro rfl (And.intro rfl (And.intro rfl (And.intro rfl trivial))))))))
                                        | (have q1 := ih (jj - 1) bb (by omega) (by omega) (by rw [show jj - 1 + 1 = jj by omega]; exact zBk_skip hbk (by omega)) (by omega) (by omega)
                                           exact k_sub q1 (And.intro rfl (And.intro rfl (And.intro rfl (And.intro rfl (And.intro rfl (And.intro rfl (And.intro rfl trivial))))))))))))))))
  have q1 := loop11 (zrr 21 + 1).toNat (nu 12 - 1) (-1) (by omega) (by omega) (by rw [e12, show zrr 21 - 1 + 1 = zrr 21 by omega]; exact zBk_top zrr) (by omega) (by omega)
  exact q1

set_option maxRecDepth 20000 in
set_option maxHeartbeats 1000000 in
theorem sg_wind {D : va_G} {tc : Nat → ClassId} {base : Nat} {p : Program} {l : Launch} {e : Env} {s : State} {m : MethodId} {args : Array Value} {below : List Frame} {meth : Method} {c : Code} {Q : State → Prop} (C : Cx D tc base RL cL_minute 10 p s m args meth c) (an : Nat) (nx hh se : Int → Int) (c9 c0 c61 : Int) (hpp : AH) (y0 : hpp an = some (eA 0 15 nx)) (y1 : hpp (an + 1) = some (eA 0 9 hh)) (y2 : hpp (an + 2) = some (eA 0 6 se)) (q9 : nx 2 = c9) (q0 : hh 0 = c0) (q61 : se 0 = c61) (r9 : 0 ≤ c9 ∧ c9 ≤ 30) (r0 : 0 ≤ c0 ∧ c0 ≤ 200) (r61 : 0 ≤ c61 ∧ c61 ≤ 30) (kend : ∀ mm : Int, 0 ≤ mm → mm ≤ c0 → (mm = 0 ∨ c9 + mm ≤ c61) → (c61 ≤ c9 + mm ∨ c0 = mm) → Wk D tc base 10 p l e (lvR 2) s m args below meth c 0 0 Q 235 [some (aR an), some (aR (an + 1)), some (aR (an + 2)), some (aR (an + 3)), some (aR (an + 4)), none, none, none, none, none] [] (hs (hs hpp an (eA 0 15 (iu nx 2 (nx 2 + mm)))) (an + 1) (eA 0 9 (iu (iu hh 0 (hh 0 - mm)) 3 (hh 3 + mm))))) : Wk D tc base 10 p l e (lvR 2) s m args below meth c 0 0 Q 196 [some (aR an), some (aR (an + 1)), some (aR (an + 2)), some (aR (an + 3)), some (aR (an + 4)), none, none, none, none, none] [] hpp := by
  have loop196 : ∀ (n : Nat) (kk : Int), 0 ≤ kk → kk ≤ c0 → (kk = 0 ∨ c9 + kk ≤ c61) → c0 - kk < (n : Int) → Wk D tc base 10 p l e (lvR 2) s m args below meth c 0 0 Q 196 [some (aR an), some (aR (an + 1)), some (aR (an + 2)), some (aR (an + 3)), some (aR (an + 4)), none, none, none, none, none] [] (hs (hs hpp an (eA 0 15 (iu nx 2 (nx 2 + kk)))) (an + 1) (eA 0 9 (iu (iu hh 0 (hh 0 - kk)) 3 (hh 3 + kk)))) := by
    intro n
    induction n with
    | zero =>
      intro kk k0 k1 k2 hmu
      exfalso
      omega
    | succ n ih =>
      intro kk k0 k1 k2 hmu
      refine k_aload_n C dL_minute_196 rfl ?_
      refine k_iconst C dL_minute_197 ?_
      refine k_iaload C dL_minute_198 (by repeat (first | exact hs_eq _ _ _ | refine hs_ne (by omega) ?_ | assumption)) (by omega) (by omega) (by omega) ?_
      try simp (disch := omega) only [hs_hs, iu_ne, iu_eq]
      refine k_aload_n C dL_minute_199 rfl ?_
      refine k_iconst C dL_minute_200 ?_
      refine k_iaload C dL_minute_201 (by repeat (first | exact hs_eq _ _ _ | refine hs_ne (by omega) ?_ | assumption)) (by omega) (by omega) (by omega) ?_
      try simp (disch := omega) only [hs_hs, iu_ne, iu_eq]
      refine k_icmp_ge (tgt := 235) C dL_minute_202 (by decide) ⟨by omega, by omega⟩ ⟨by omega, by omega⟩ (fun c202 => ?_) (fun c202 => ?_)
      · try (exfalso; omega)
        all_goals (
          exact kend kk (by omega) (by omega) (by omega) (by omega))
      · try (exfalso; omega)
        all_goals (
          refine k_aload_n C dL_minute_205 rfl ?_
          refine k_iconst C dL_minute_206 ?_
          refine k_iaload C dL_minute_207 (by repeat (first | exact hs_eq _ _ _ | refine hs_ne (by omega) ?_ | assumption)) (by omega) (by omega) (by omega) ?_
          try simp (disch := omega) only [hs_hs, iu_ne, iu_eq]
          refine k_if_le (tgt := 235) C dL_minute_208 (by decide) ⟨by omega, by omega⟩ (fun c208 => ?_) (fun c208 => ?_)
          · try (exfalso; omega)
            all_goals (
              exact kend kk (by omega) (by omega) (by omega) (by omega))
          · try (exfalso; omega)
            all_goals (
              refine k_aload_n C dL_minute_211 rfl ?_
              refine k_iconst C dL_minute_212 ?_
              refine k_dup2 C dL_minute_213 rfl rfl ?_
              refine k_iaload C dL_minute_214 (by repeat (first | exact hs_eq _ _ _ | refine hs_ne (by omega) ?_ | assumption)) (by omega) (by omega) (by omega) ?_
              try simp (disch := omega) only [hs_hs, iu_ne, iu_eq]
              refine k_iconst C dL_minute_215 ?_
              refine k_iadd C dL_minute_216 ?_
              refine k_iastore C dL_minute_217 (by repeat (first | exact hs_eq _ _ _ | refine hs_ne (by omega) ?_ | assumption)) (by omega) (by omega) (by omega) ?_
              refine k_aload_n C dL_minute_218 rfl ?_
              refine k_iconst C dL_minute_219 ?_
              refine k_dup2 C dL_minute_220 rfl rfl ?_
              refine k_iaload C dL_minute_221 (by repeat (first | exact hs_eq _ _ _ | refine hs_ne (by omega) ?_ | assumption)) (by omega) (by omega) (by omega) ?_
              try simp (disch := omega) only [hs_hs, iu_ne, iu_eq]
              refine k_iconst C dL_minute_222 ?_
              refine k_isub C dL_minute_223 ?_
              refine k_iastore C dL_minute_224 (by repeat (first | exact hs_eq _ _ _ | refine hs_ne (by omega) ?_ | assumption)) (by omega) (by omega) (by omega) ?_
              refine k_aload_n C dL_minute_225 rfl ?_
              refine k_iconst C dL_minute_226 ?_
              refine k_dup2 C dL_minute_227 rfl rfl ?_
              refine k_iaload C dL_minute_228 (by repeat (first | exact hs_eq _ _ _ | refine hs_ne (by omega) ?_ | assumption)) (by omega) (by omega) (by omega) ?_
              try simp (disch := omega) only [hs_hs, iu_ne, iu_eq]
              refine k_iconst C dL_minute_229 ?_
              refine k_iadd C dL_minute_230 ?_
              refine k_iastore C dL_minute_231 (by repeat (first | exact hs_eq _ _ _ | refine hs_ne (by omega) ?_ | assumption)) (by omega) (by omega) (by omega) ?_
              refine k_goto (tgt := 196) C dL_minute_232 (by decide) ?_
              have q1 := ih (kk + 1) (by omega) (by omega) (by omega) (by omega)
              rw [← Int.add_assoc, ← Int.add_assoc, show hh 0 - (kk + 1) = hh 0 - kk - 1 by omega] at q1
              have e1 : ∀ (a b c d : Int → Int), hs (hs (hs (hs (hs hpp an (eA 0 15 a)) (an + 1) (eA 0 9 b)) an (eA 0 15 c)) (an + 1) (eA 0 9 d)) (an + 1) (eA 0 9 d) = hs (hs hpp an (eA 0 15 c)) (an + 1) (eA 0 9 d) := fun a b c d => by rw [hs_hs, hs2]
              simp only [hs_hs, iu_iu, iu_com _ _ _ _ (show (0 : Int) ≠ 3 by decide)]
              rw [hs2]
              exact q1))
  have q1 := loop196 (c0 + 1).toNat 0 (by omega) (by omega) (by omega) (by omega)
  rw [show nx 2 + 0 = nx 2 by omega, show hh 0 - 0 = hh 0 by omega, show hh 3 + 0 = hh 3 by omega, iu_self, iu_self, iu_self, hs_same y0, hs_same y1] at q1
  exact q1

set_option maxRecDepth 20000 in
set_option maxHeartbeats 1000000 in
theorem sg_two {D : va_G} {tc : Nat → ClassId} {base : Nat} {p : Program} {l : Launch} {e : Env} {s : State} {m : MethodId} {args : Array Value} {below : List Frame} {meth : Method} {c : Code} {Q : State → Prop} (C : Cx D tc base RL cL_minute 10 p s m args meth c) (an : Nat) (zrr : RZ) (kc : Int) (hpp : AH) (hA : LA hpp an zrr kc) (hi : zInv zrr) (hm : zrr 13 ≤ 100000) (ha : zrr 18 + zrr 19 ≤ zrr 13 + 1) (kend : ∀ (hx : AH), LA hx an (zTwo zrr) kc → Fr hpp hx an 5 → Wk D tc base 10 p l e (lvR 2) s m args below meth c 0 0 Q 235 [some (aR an), some (aR (an + 1)), some (aR (an + 2)), some (aR (an + 3)), some (aR (an + 4)), none, none, none, none, none] [] hx) : Wk D tc base 10 p l e (lvR 2) s m args below meth c 0 0 Q 155 [some (aR an), some (aR (an + 1)), some (aR (an + 2)), some (aR (an + 3)), some (aR (an + 4)), none, none, none, none, none] [] hpp := by
  obtain ⟨nu, hh, se, wi, de, ⟨y0, y1, y2, y3, y4⟩, hLR⟩ := id hA
  obtain ⟨⟨e0, e1, e2, e3, e4, e5, e6, e7, e8, e9, e10, e11, e12, e13, e14⟩, eh, es, ew, ed⟩ := id hLR
  obtain ⟨⟨g0, g1, g2, g9, g10, g11, g12, g13, g21, g52, g61, g62, g63, g64, g65, g66⟩, hwi, hde⟩ := id hi
  have h0 : hh 0 = zrr 0 := eh 0 (by omega) (by omega)
  have h3 : hh 3 = zrr 3 := eh 3 (by omega) (by omega)
  have s0 : se 0 = zrr 61 := es 0 (by omega) (by omega)
  have s1 : se 1 = zrr 62 := es 1 (by omega) (by omega)
  refine k_aload_n C dL_minute_155 rfl ?_
  refine k_iconst C dL_minute_156 ?_
  refine k_iaload C dL_minute_157 (by repeat (first | exact hs_eq _ _ _ | refine hs_ne (by omega) ?_ | assumption)) (by omega) (by omega) (by omega) ?_
  refine k_aload_n C dL_minute_158 rfl ?_
  refine k_iconst C dL_minute_159 ?_
  refine k_iaload C dL_minute_160 (by repeat (first | exact hs_eq _ _ _ | refine hs_ne (by omega) ?_ | assumption)) (by omega) (by omega) (by omega) ?_
  refine k_icmp_gt (tgt := 187) C dL_minute_161 (by decide) ⟨by omega, by omega⟩ ⟨by omega, by omega⟩ (fun c161 => ?_) (fun c161 => ?_)
  · try (exfalso; omega)
    all_goals (
      refine k_aload_n C dL_minute_187 rfl ?_
      refine k_iconst C dL_minute_188 ?_
      refine k_iaload C dL_minute_189 (by repeat (first | exact hs_eq _ _ _ | refine hs_ne (by omega) ?_ | assumption)) (by omega) (by omega) (by omega) ?_
      try simp (disch := decide) only [iu_ne]
      refine k_aload_n C dL_minute_190 rfl ?_
      refine k_iconst C dL_minute_191 ?_
      refine k_iaload C dL_minute_192 (by repeat (first | exact hs_eq _ _ _ | refine hs_ne (by omega) ?_ | assumption)) (by omega) (by omega) (by omega) ?_
      refine k_icmp_gt (tgt := 235) C dL_minute_193 (by decide) ⟨by omega, by omega⟩ ⟨by omega, by omega⟩ (fun c193 => ?_) (fun c193 => ?_)
      · try (exfalso; omega)
        all_goals (
          have hc : ¬ (zrr 9 ≤ zrr 62 ∧ zrr 9 < zrr 61 ∧ ¬ zrr 0 = 0) := by omega
          have hz : zTwo zrr = zrr := by rw [zTwo, if_neg hc]
          exact k_sub (kend _ (by rw [hz]; exact hA) (fun aaa haa => by repeat (first | rfl | refine hs_ne (by omega) ?_))) ((And.intro rfl (And.intro rfl (And.intro rfl (And.intro rfl (And.intro rfl trivial)))))))
      · try (exfalso; omega)
        all_goals (
          refine sg_wind C an _ hh se (zrr 9) (zrr 0) (zrr 61) _ (by repeat (first | exact hs_eq _ _ _ | refine hs_ne (by omega) ?_ | assumption)) (by repeat (first | exact hs_eq _ _ _ | refine hs_ne (by omega) ?_ | assumption)) (by repeat (first | exact hs_eq _ _ _ | refine hs_ne (by omega) ?_ | assumption)) (by first | exact e2 | (rw [iu_ne (by decide)]; exact e2)) h0 s0 ⟨by omega, by omega⟩ ⟨by omega, by omega⟩ ⟨by omega, by omega⟩ (fun mm m0 m1 m2 m3 => ?_)
          first
            | (have hc : zrr 9 ≤ zrr 62 ∧ zrr 9 < zrr 61 ∧ ¬ zrr 0 = 0 := ⟨by omega, by omega, by omega⟩
               have em : mm = mnI (zrr 61 - zrr 9) (zrr 0) := by have := mnI_le (zrr 61 - zrr 9) (zrr 0); omega
               have hz : zTwo zrr = iu (iu (iu (iu zrr 20 (zrr 20 + 1)) 9 (zrr 9 + mm)) 0 (zrr 0 - mm)) 3 (zrr 3 + mm) := by
                 rw [zTwo, if_pos hc, ← em]
                 unfold zTake
                 rw [show (3 : Int) + 0 = 3 from rfl]
                 funext kkk
                 simp only [iu]
                 (repeat' split) <;> first | rfl | omega | (exfalso; omega) | (subst_vars; rfl)
               refine k_sub (kend _ ⟨_, _, _, _, _, ⟨(by repeat (first | exact hs_eq _ _ _ | refine hs_ne (by omega) ?_ | assumption)), (by repeat (first | exact hs_eq _ _ _ | refine hs_ne (by omega) ?_ | assumption)), (by repeat (first | exact hs_eq _ _ _ | refine hs_ne (by omega) ?_ | assumption)), (by repeat (first | exact hs_eq _ _ _ | refine hs_ne (by omega) ?_ | assumption)), (by repeat (first | exact hs_eq _ _ _ | refine hs_ne (by omega) ?_ | assumption))⟩, ?_⟩ (fun aaa haa => by repeat (first | rfl | refine hs_ne (by omega) ?_))) ((And.intro rfl (And.intro rfl (And.intro rfl (And.intro rfl (And.intro rfl trivial))))))
               rw [hz]
               exact ((((hLR.n (by decide) (by first | omega | (simp (disch := decide) only [iu_ne, iu_eq]; omega))).n (by decide) (by first | omega | (simp (disch := decide) only [iu_ne, iu_eq]; omega))).h (by decide) (by first | omega | (simp (disch := decide) only [iu_ne, iu_eq]; omega))).h (by decide) (by first | omega | (simp (disch := decide) only [iu_ne, iu_eq]; omega))))
            | (have hc : ¬ (zrr 9 ≤ zrr 62 ∧ zrr 9 < zrr 61 ∧ ¬ zrr 0 = 0) := by omega
               have em : mm = 0 := by omega
               have hz : zTwo zrr = iu (iu (iu zrr 9 (zrr 9 + mm)) 0 (zrr 0 - mm)) 3 (zrr 3 + mm) := by
                 rw [zTwo, if_neg hc, em]
                 rw [show zrr 9 + 0 = zrr 9 by omega, show zrr 0 - 0 = zrr 0 by omega, show zrr 3 + 0 = zrr 3 by omega, iu_self, iu_self, iu_self]
               refine k_sub (kend _ ⟨_, _, _, _, _, ⟨(by repeat (first | exact hs_eq _ _ _ | refine hs_ne (by omega) ?_ | assumption)), (by repeat (first | exact hs_eq _ _ _ | refine hs_ne (by omega) ?_ | assumption)), (by repeat (first | exact hs_eq _ _ _ | refine hs_ne (by omega) ?_ | assumption)), (by repeat (first | exact hs_eq _ _ _ | refine hs_ne (by omega) ?_ | assumption)), (by repeat (first | exact hs_eq _ _ _ | refine hs_ne (by omega) ?_ | assumption))⟩, ?_⟩ (fun aaa haa => by repeat (first | rfl | refine hs_ne (by omega) ?_))) ((And.intro rfl (And.intro rfl (And.intro rfl (And.intro rfl (And.intro rfl trivial))))))
               rw [hz]
               exact (((hLR.n (by decide) (by first | omega | (simp (disch := decide) only [iu_ne, iu_eq]; omega))).h (by decide) (by first | omega | (simp (disch := decide) only [iu_ne, iu_eq]; omega))).h (by decide) (by first | omega | (simp (disch := decide) only [iu_ne, iu_eq]; omega))))))
  · try (exfalso; omega)
    all_goals (
      refine k_aload_n C dL_minute_164 rfl ?_
      refine k_iconst C dL_minute_165 ?_
      refine k_iaload C dL_minute_166 (by repeat (first | exact hs_eq _ _ _ | refine hs_ne (by omega) ?_ | assumption)) (by omega) (by omega) (by omega) ?_
      refine k_aload_n C dL_minute_167 rfl ?_
      refine k_iconst C dL_minute_168 ?_
      refine k_iaload C dL_minute_169 (by repeat (first | exact hs_eq _ _ _ | refine hs_ne (by omega) ?_ | assumption)) (by omega) (by omega) (by omega) ?_
      refine k_icmp_ge (tgt := 187) C dL_minute_170 (by decide) ⟨by omega, by omega⟩ ⟨by omega, by omega⟩ (fun c170 => ?_) (fun c170 => ?_)
      · try (exfalso; omega)
        all_goals (
          refine k_aload_n C dL_minute_187 rfl ?_
          refine k_iconst C dL_minute_188 ?_
          refine k_iaload C dL_minute_189 (by repeat (first | exact hs_eq _ _ _ | refine hs_ne (by omega) ?_ | assumption)) (by omega) (by omega) (by omega) ?_
          try simp (disch := decide) only [iu_ne]
          refine k_aload_n C dL_minute_190 rfl ?_
          refine k_iconst C dL_minute_191 ?_
          refine k_iaload C dL_minute_192 (by repeat (first | exact hs_eq _ _ _ | refine hs_ne (by omega) ?_ | assumption)) (by omega) (by omega) (by omega) ?_
          refine k_icmp_gt (tgt := 235) C dL_minute_193 (by decide) ⟨by omega, by omega⟩ ⟨by omega, by omega⟩ (fun c193 => ?_) (fun c193 => ?_)
          · try (exfalso; omega)
            all_goals (
              have hc : ¬ (zrr 9 ≤ zrr 62 ∧ zrr 9 < zrr 61 ∧ ¬ zrr 0 = 0) := by omega
              have hz : zTwo zrr = zrr := by rw [zTwo, if_neg hc]
              exact k_sub (kend _ (by rw [hz]; exact hA) (fun aaa haa => by repeat (first | rfl | refine hs_ne (by omega) ?_))) ((And.intro rfl (And.intro rfl (And.intro rfl (And.intro rfl (And.intro rfl trivial)))))))
          · try (exfalso; omega)
            all_goals (
              refine sg_wind C an _ hh se (zrr 9) (zrr 0) (zrr 61) _ (by repeat (first | exact hs_eq _ _ _ | refine hs_ne (by omega) ?_ | assumption)) (by repeat (first | exact hs_eq _ _ _ | refine hs_ne (by omega) ?_ | assumption)) (by repeat (first | exact hs_eq _ _ _ | refine hs_ne (by omega) ?_ | assumption)) (by first | exact e2 | (rw [iu_ne (by decide)]; exact e2)) h0 s0 ⟨by omega, by omega⟩ ⟨by omega, by omega⟩ ⟨by omega, by omega⟩ (fun mm m0 m1 m2 m3 => ?_)
              first
                | (have hc : zrr 9 ≤ zrr 62 ∧ zrr 9 < zrr 61 ∧ ¬ zrr 0 = 0 := ⟨by omega, by omega, by omega⟩
                   have em : mm = mnI (zrr 61 - zrr 9) (zrr 0) := by have := mnI_le (zrr 61 - zrr 9) (zrr 0); omega
                   have hz : zTwo zrr = iu (iu (iu (iu zrr 20 (zrr 20 + 1)) 9 (zrr 9 + mm)) 0 (zrr 0 - mm)) 3 (zrr 3 + mm) := by
                     rw [zTwo, if_pos hc, ← em]
                     unfold zTake
                     rw [show (3 : Int) + 0 = 3 from rfl]
                     funext kkk
                     simp only [iu]
                     (repeat' split) <;> first | rfl | omega | (exfalso; omega) | (subst_vars; rfl)
                   refine k_sub (kend _ ⟨_, _, _, _, _, ⟨(by repeat (first | exact hs_eq _ _ _ | refine hs_ne (by omega) ?_ | assumption)), (by repeat (first | exact hs_eq _ _ _ | refine hs_ne (by omega) ?_ | assumption)), (by repeat (first | exact hs_eq _ _ _ | refine hs_ne (by omega) ?_ | assumption)), (by repeat (first | exact hs_eq _ _ _ | refine hs_ne (by omega) ?_ | assumption)), (by repeat (first | exact hs_eq _ _ _ | refine hs_ne (by omega) ?_ | assumption))⟩, ?_⟩ (fun aaa haa => by repeat (first | rfl | refine hs_ne (by omega) ?_))) ((And.intro rfl (And.intro rfl (And.intro rfl (And.intro rfl (And.intro rfl trivial))))))
                   rw [hz]
                   exact ((((hLR.n (by decide) (by first | omega | (simp (disch := decide) only [iu_ne, iu_eq]; omega))).n (by decide) (by first | omega | (simp (disch := decide) only [iu_ne, iu_eq]; omega))).h (by decide) (by first | omega | (simp (disch := decide) only [iu_ne, iu_eq]; omega))).h (by decide) (by first | omega | (simp (disch := decide) only [iu_ne, iu_eq]; omega))))
                | (have hc : ¬ (zrr 9 ≤ zrr 62 ∧ zrr 9 < zrr 61 ∧ ¬ zrr 0 = 0) := by omega
                   have em : mm = 0 := by omega
                   have hz : zTwo zrr = iu (iu (iu zrr 9 (zrr 9 + mm)) 0 (zrr 0 - mm)) 3 (zrr 3 + mm) := by
                     rw [zTwo, if_neg hc, em]
                     rw [show zrr 9 + 0 = zrr 9 by omega, show zrr 0 - 0 = zrr 0 by omega, show zrr 3 + 0 = zrr 3 by omega, iu_self, iu_self, iu_self]
                   refine k_sub (kend _ ⟨_, _, _, _, _, ⟨(by repeat (first | exact hs_eq _ _ _ | refine hs_ne (by omega) ?_ | assumption)), (by repeat (first | exact hs_eq _ _ _ | refine hs_ne (by omega) ?_ | assumption)), (by repeat (first | exact hs_eq _ _ _ | refine hs_ne (by omega) ?_ | assumption)), (by repeat (first | exact hs_eq _ _ _ | refine hs_ne (by omega) ?_ | assumption)), (by repeat (first | exact hs_eq _ _ _ | refine hs_ne (by omega) ?_ | assumption))⟩, ?_⟩ (fun aaa haa => by repeat (first | rfl | refine hs_ne (by omega) ?_))) ((And.intro rfl (And.intro rfl (And.intro rfl (And.intro rfl (And.intro rfl trivial))))))
                   rw [hz]
                   exact (((hLR.n (by decide) (by first | omega | (simp (disch := decide) only [iu_ne, iu_eq]; omega))).h (by decide) (by first | omega | (simp (disch := decide) only [iu_ne, iu_eq]; omega))).h (by decide) (by first | omega | (simp (disch := decide) only [iu_ne, iu_eq]; omega))))))
      · try (exfalso; omega)
        all_goals (
          refine k_aload_n C dL_minute_173 rfl ?_
          refine k_iconst C dL_minute_174 ?_
          refine k_iaload C dL_minute_175 (by repeat (first | exact hs_eq _ _ _ | refine hs_ne (by omega) ?_ | assumption)) (by omega) (by omega) (by omega) ?_
          refine k_if_le (tgt := 187) C dL_minute_176 (by decide) ⟨by omega, by omega⟩ (fun c176 => ?_) (fun c176 => ?_)
          · try (exfalso; omega)
            all_goals (
              refine k_aload_n C dL_minute_187 rfl ?_
              refine k_iconst C dL_minute_188 ?_
              refine k_iaload C dL_minute_189 (by repeat (first | exact hs_eq _ _ _ | refine hs_ne (by omega) ?_ | assumption)) (by omega) (by omega) (by omega) ?_
              try simp (disch := decide) only [iu_ne]
              refine k_aload_n C dL_minute_190 rfl ?_
              refine k_iconst C dL_minute_191 ?_
              refine k_iaload C dL_minute_192 (by repeat (first | exact hs_eq _ _ _ | refine hs_ne (by omega) ?_ | assumption)) (by omega) (by omega) (by omega) ?_
              refine k_icmp_gt (tgt := 235) C dL_minute_193 (by decide) ⟨by omega, by omega⟩ ⟨by omega, by omega⟩ (fun c193 => ?_) (fun c193 => ?_)
              · try (exfalso; omega)
                all_goals (
                  have hc : ¬ (zrr 9 ≤ zrr 62 ∧ zrr 9 < zrr 61 ∧ ¬ zrr 0 = 0) := by omega
                  have hz : zTwo zrr = zrr := by rw [zTwo, if_neg hc]
                  exact k_sub (kend _ (by rw [hz]; exact hA) (fun aaa haa => by repeat (first | rfl | refine hs_ne (by omega) ?_))) ((And.intro rfl (And.intro rfl (And.intro rfl (And.intro rfl (And.intro rfl trivial)))))))
              · try (exfalso; omega)
                all_goals (
                  refine sg_wind C an _ hh se (zrr 9) (zrr 0) (zrr 61) _ (by repeat (first | exact hs_eq _ _ _ | refine hs_ne (by omega) ?_ | assumption)) (by repeat (first | exact hs_eq _ _ _ | refine hs_ne (by omega) ?_ | assumption)) (by repeat (first | exact hs_eq _ _ _ | refine hs_ne (by omega) ?_ | assumption)) (by first | exact e2 | (rw [iu_ne (by decide)]; exact e2)) h0 s0 ⟨by omega, by omega⟩ ⟨by omega, by omega⟩ ⟨by omega, by omega⟩ (fun mm m0 m1 m2 m3 => ?_)
                  first
                    | (have hc : zrr 9 ≤ zrr 62 ∧ zrr 9 < zrr 61 ∧ ¬ zrr 0 = 0 := ⟨by omega, by omega, by omega⟩
                       have em : mm = mnI (zrr 61 - zrr 9) (zrr 0) := by have := mnI_le (zrr 61 - zrr 9) (zrr 0); omega
                       have hz : zTwo zrr = iu (iu (iu (iu zrr 20 (zrr 20 + 1)) 9 (zrr 9 + mm)) 0 (zrr 0 - mm)) 3 (zrr 3 + mm) := by
                         rw [zTwo, if_pos hc, ← em]
                         unfold zTake
                         rw [show (3 : Int) + 0 = 3 from rfl]
                         funext kkk
                         simp only [iu]
                         (repeat' split) <;> first | rfl | omega | (exfalso; omega) | (subst_vars; rfl)
                       refine k_sub (kend _ ⟨_, _, _, _, _, ⟨(by repeat (first | exact hs_eq _ _ _ | refine hs_ne (by omega) ?_ | assumption)), (by repeat (first | exact hs_eq _ _ _ | refine hs_ne (by omega) ?_ | assumption)), (by repeat (first | exact hs_eq _ _ _ | refine hs_ne (by omega) ?_ | assumption)), (by repeat (first | exact hs_eq _ _ _ | refine hs_ne (by omega) ?_ | assumption)), (by repeat (first | exact hs_eq _ _ _ | refine hs_ne (by omega) ?_ | assumption))⟩, ?_⟩ (fun aaa haa => by repeat (first | rfl | refine hs_ne (by omega) ?_))) ((And.intro rfl (And.intro rfl (And.intro rfl (And.intro rfl (And.intro rfl trivial))))))
                       rw [hz]
                       exact ((((hLR.n (by decide) (by first | omega | (simp (disch := decide) only [iu_ne, iu_eq]; omega))).n (by decide) (by first | omega | (simp (disch := decide) only [iu_ne, iu_eq]; omega))).h (by decide) (by first | omega | (simp (disch := decide) only [iu_ne, iu_eq]; omega))).h (by decide) (by first | omega | (simp (disch := decide) only [iu_ne, iu_eq]; omega))))
                    | (have hc : ¬ (zrr 9 ≤ zrr 62 ∧ zrr 9 < zrr 61 ∧ ¬ zrr 0 = 0) := by omega
                       have em : mm = 0 := by omega
                       have hz : zTwo zrr = iu (iu (iu zrr 9 (zrr 9 + mm)) 0 (zrr 0 - mm)) 3 (zrr 3 + mm) := by
                         rw [zTwo, if_neg hc, em]
                         rw [show zrr 9 + 0 = zrr 9 by omega, show zrr 0 - 0 = zrr 0 by omega, show zrr 3 + 0 = zrr 3 by omega, iu_self, iu_self, iu_self]
                       refine k_sub (kend _ ⟨_, _, _, _, _, ⟨(by repeat (first | exact hs_eq _ _ _ | refine hs_ne (by omega) ?_ | assumption)), (by repeat (first | exact hs_eq _ _ _ | refine hs_ne (by omega) ?_ | assumption)), (by repeat (first | exact hs_eq _ _ _ | refine hs_ne (by omega) ?_ | assumption)), (by repeat (first | exact hs_eq _ _ _ | refine hs_ne (by omega) ?_ | assumption)), (by repeat (first | exact hs_eq _ _ _ | refine hs_ne (by omega) ?_ | assumption))⟩, ?_⟩ (fun aaa haa => by repeat (first | rfl | refine hs_ne (by omega) ?_))) ((And.intro rfl (And.intro rfl (And.intro rfl (And.intro rfl (And.intro rfl trivial))))))
                       rw [hz]
                       exact (((hLR.n (by decide) (by first | omega | (simp (disch := decide) only [iu_ne, iu_eq]; omega))).h (by decide) (by first | omega | (simp (disch := decide) only [iu_ne, iu_eq]; omega))).h (by decide) (by first | omega | (simp (disch := decide) only [iu_ne, iu_eq]; omega))))))
          · try (exfalso; omega)
            all_goals (
              refine k_aload_n C dL_minute_179 rfl ?_
              refine k_bipush C dL_minute_180 (by decide +kernel) ?_
              refine k_dup2 C dL_minute_182 rfl rfl ?_
              refine k_iaload C dL_minute_183 (by repeat (first | exact hs_eq _ _ _ | refine hs_ne (by omega) ?_ | assumption)) (by omega) (by omega) (by omega) ?_
              refine k_iconst C dL_minute_184 ?_
              refine k_iadd C dL_minute_185 ?_
              refine k_iastore C dL_minute_186 (by repeat (first | exact hs_eq _ _ _ | refine hs_ne (by omega) ?_ | assumption)) (by omega) (by omega) (by omega) ?_
              refine k_aload_n C dL_minute_187 rfl ?_
              refine k_iconst C dL_minute_188 ?_
              refine k_iaload C dL_minute_189 (by repeat (first | exact hs_eq _ _ _ | refine hs_ne (by omega) ?_ | assumption)) (by omega) (by omega) (by omega) ?_
              try simp (disch := decide) only [iu_ne]
              refine k_aload_n C dL_minute_190 rfl ?_
              refine k_iconst C dL_minute_191 ?_
              refine k_iaload C dL_minute_192 (by repeat (first | exact hs_eq _ _ _ | refine hs_ne (by omega) ?_ | assumption)) (by omega) (by omega) (by omega) ?_
              refine k_icmp_gt (tgt := 235) C dL_minute_193 (by decide) ⟨by omega, by omega⟩ ⟨by omega, by omega⟩ (fun c193 => ?_) (fun c193 => ?_)
              · try (exfalso; omega)
                all_goals (
                  have hc : ¬ (zrr 9 ≤ zrr 62 ∧ zrr 9 < zrr 61 ∧ ¬ zrr 0 = 0) := by omega
                  have hz : zTwo zrr = zrr := by rw [zTwo, if_neg hc]
                  exact k_sub (kend _ (by rw [hz]; exact hA) (fun aaa haa => by repeat (first | rfl | refine hs_ne (by omega) ?_))) ((And.intro rfl (And.intro rfl (And.intro rfl (And.intro rfl (And.intro rfl trivial)))))))
              · try (exfalso; omega)
                all_goals (
                  refine sg_wind C an _ hh se (zrr 9) (zrr 0) (zrr 61) _ (by repeat (first | exact hs_eq _ _ _ | refine hs_ne (by omega) ?_ | assumption)) (by repeat (first | exact hs_eq _ _ _ | refine hs_ne (by omega) ?_ | assumption)) (by repeat (first | exact hs_eq _ _ _ | refine hs_ne (by omega) ?_ | assumption)) (by first | exact e2 | (rw [iu_ne (by decide)]; exact e2)) h0 s0 ⟨by omega, by omega⟩ ⟨by omega, by omega⟩ ⟨by omega, by omega⟩ (fun mm m0 m1 m2 m3 => ?_)
                  first
                    | (have hc : zrr 9 ≤ zrr 62 ∧ zrr 9 < zrr 61 ∧ ¬ zrr 0 = 0 := ⟨by omega, by omega, by omega⟩
                       have em : mm = mnI (zrr 61 - zrr 9) (zrr 0) := by have := mnI_le (zrr 61 - zrr 9) (zrr 0); omega
                       have hz : zTwo zrr = iu (iu (iu (iu zrr 20 (zrr 20 + 1)) 9 (zrr 9 + mm)) 0 (zrr 0 - mm)) 3 (zrr 3 + mm) := by
                         rw [zTwo, if_pos hc, ← em]
                         unfold zTake
                         rw [show (3 : Int) + 0 = 3 from rfl]
                         funext kkk
                         simp only [iu]
                         (repeat' split) <;> first | rfl | omega | (exfalso; omega) | (subst_vars; rfl)
                       refine k_sub (kend _ ⟨_, _, _, _, _, ⟨(by repeat (first | exact hs_eq _ _ _ | refine hs_ne (by omega) ?_ | assumption)), (by repeat (first | exact hs_eq _ _ _ | refine hs_ne (by omega) ?_ | assumption)), (by repeat (first | exact hs_eq _ _ _ | refine hs_ne (by omega) ?_ | assumption)), (by repeat (first | exact hs_eq _ _ _ | refine hs_ne (by omega) ?_ | assumption)), (by repeat (first | exact hs_eq _ _ _ | refine hs_ne (by omega) ?_ | assumption))⟩, ?_⟩ (fun aaa haa => by repeat (first | rfl | refine hs_ne (by omega) ?_))) ((And.intro rfl (And.intro rfl (And.intro rfl (And.intro rfl (And.intro rfl trivial))))))
                       rw [hz]
                       exact ((((hLR.n (by decide) (by first | omega | (simp (disch := decide) only [iu_ne, iu_eq]; omega))).n (by decide) (by first | omega | (simp (disch := decide) only [iu_ne, iu_eq]; omega))).h (by decide) (by first | omega | (simp (disch := decide) only [iu_ne, iu_eq]; omega))).h (by decide) (by first | omega | (simp (disch := decide) only [iu_ne, iu_eq]; omega))))
                    | (have hc : ¬ (zrr 9 ≤ zrr 62 ∧ zrr 9 < zrr 61 ∧ ¬ zrr 0 = 0) := by omega
                       have em : mm = 0 := by omega
                       have hz : zTwo zrr = iu (iu (iu zrr 9 (zrr 9 + mm)) 0 (zrr 0 - mm)) 3 (zrr 3 + mm) := by
                         rw [zTwo, if_neg hc, em]
                         rw [show zrr 9 + 0 = zrr 9 by omega, show zrr 0 - 0 = zrr 0 by omega, show zrr 3 + 0 = zrr 3 by omega, iu_self, iu_self, iu_self]
                       refine k_sub (kend _ ⟨_, _, _, _, _, ⟨(by repeat (first | exact hs_eq _ _ _ | refine hs_ne (by omega) ?_ | assumption)), (by repeat (first | exact hs_eq _ _ _ | refine hs_ne (by omega) ?_ | assumption)), (by repeat (first | exact hs_eq _ _ _ | refine hs_ne (by omega) ?_ | assumption)), (by repeat (first | exact hs_eq _ _ _ | refine hs_ne (by omega) ?_ | assumption)), (by repeat (first | exact hs_eq _ _ _ | refine hs_ne (by omega) ?_ | assumption))⟩, ?_⟩ (fun aaa haa => by repeat (first | rfl | refine hs_ne (by omega) ?_))) ((And.intro rfl (And.intro rfl (And.intro rfl (And.intro rfl (And.intro rfl trivial))))))
                       rw [hz]
                       exact (((hLR.n (by decide) (by first | omega | (simp (disch := decide) only [iu_ne, iu_eq]; omega))).h (by decide) (by first | omega | (simp (disch := decide) only [iu_ne, iu_eq]; omega))).h (by decide) (by first | omega | (simp (disch := decide) only [iu_ne, iu_eq]; omega))))))))

set_option maxRecDepth 20000 in
set_option maxHeartbeats 1000000 in
theorem sg_three {D : va_G} {tc : Nat → ClassId} {base : Nat} {p : Program} {l : Launch} {e : Env} {s : State} {m : MethodId} {args : Array Value} {below : List Frame} {meth : Method} {c : Code} {Q : State → Prop} (C : Cx D tc base RL cL_minute 10 p s m args meth c) (an : Nat) (zrr : RZ) (kc : Int) (hpp : AH) (hA : LA hpp an zrr kc) (hi : zInv zrr) (hm : zrr 13 ≤ 100000) (ha : zrr 18 + zrr 19 ≤ zrr 13 + 1) (kend : ∀ (hx : AH) (ov : Int), ((ov = 1 ∧ zHow zrr = 0) ∨ (ov = 0 ∧ ¬ zHow zrr = 0)) → LA hx an (zThree zrr) kc → Fr hpp hx an 5 → Wk D tc base 10 p l e (lvR 2) s m args below meth c 0 0 Q 334 [some (aR an), some (aR (an + 1)), some (aR (an + 2)), some (aR (an + 3)), some (aR (an + 4)), none, some (aI ov), none, none, none] [] hx) : Wk D tc base 10 p l e (lvR 2) s m args below meth c 0 0 Q 235 [some (aR an), some (aR (an + 1)), some (aR (an + 2)), some (aR (an + 3)), some (aR (an + 4)), none, none, none, none, none] [] hpp := by
  obtain ⟨nu, hh, se, wi, de, ⟨y0, y1, y2, y3, y4⟩, hLR⟩ := id hA
  obtain ⟨⟨e0, e1, e2, e3, e4, e5, e6, e7, e8, e9, e10, e11, e12, e13, e14⟩, eh, es, ew, ed⟩ := id hLR
  obtain ⟨⟨g0, g1, g2, g9, g10, g11, g12, g13, g21, g52, g61, g62, g63, g64, g65, g66⟩, hwi, hde⟩ := id hi
  have s2 : se 2 = zrr 63 := es 2 (by omega) (by omega)
  refine k_aload_n C dL_minute_235 rfl ?_
  refine k_iconst C dL_minute_236 ?_
  refine k_iaload C dL_minute_237 (by repeat (first | exact hs_eq _ _ _ | refine hs_ne (by omega) ?_ | assumption)) (by omega) (by omega) (by omega) ?_
  refine k_if_le (tgt := 258) C dL_minute_238 (by decide) ⟨by omega, by omega⟩ (fun c238 => ?_) (fun c238 => ?_)
  · try (exfalso; omega)
    all_goals (
      refine k_iconst C dL_minute_258 ?_
      refine k_istore C dL_minute_259 (by decide) rfl ?_
      refine k_aload_n C dL_minute_261 rfl ?_
      refine k_iconst C dL_minute_262 ?_
      refine k_iaload C dL_minute_263 (by repeat (first | exact hs_eq _ _ _ | refine hs_ne (by omega) ?_ | assumption)) (by omega) (by omega) (by omega) ?_
      refine k_if_ne (tgt := 278) C dL_minute_264 (by decide) ⟨by omega, by omega⟩ (fun c264 => ?_) (fun c264 => ?_)
      · try (exfalso; omega)
        all_goals (
          refine k_aload_n C dL_minute_278 rfl ?_
          refine k_iconst C dL_minute_279 ?_
          refine k_dup2 C dL_minute_280 rfl rfl ?_
          refine k_iaload C dL_minute_281 (by repeat (first | exact hs_eq _ _ _ | refine hs_ne (by omega) ?_ | assumption)) (by omega) (by omega) (by omega) ?_
          refine k_iconst C dL_minute_282 ?_
          refine k_isub C dL_minute_283 ?_
          refine k_iastore C dL_minute_284 (by repeat (first | exact hs_eq _ _ _ | refine hs_ne (by omega) ?_ | assumption)) (by omega) (by omega) (by omega) ?_
          refine k_iload C dL_minute_285 rfl ?_
          refine k_if_eq (tgt := 305) C dL_minute_287 (by decide) ⟨by omega, by omega⟩ (fun c287 => ?_) (fun c287 => ?_)
          · try (exfalso; omega)
            all_goals (
              refine k_aload_n C dL_minute_305 rfl ?_
              refine k_bipush C dL_minute_306 (by decide +kernel) ?_
              refine k_dup2 C dL_minute_308 rfl rfl ?_
              refine k_iaload C dL_minute_309 (by repeat (first | exact hs_eq _ _ _ | refine hs_ne (by omega) ?_ | assumption)) (by omega) (by omega) (by omega) ?_
              try simp (disch := omega) only [hs_hs, iu_ne, iu_eq]
              refine k_iconst C dL_minute_310 ?_
              refine k_iadd C dL_minute_311 ?_
              refine k_dup_x2 C dL_minute_312 rfl rfl rfl ?_
              refine k_iastore C dL_minute_313 (by repeat (first | exact hs_eq _ _ _ | refine hs_ne (by omega) ?_ | assumption)) (by omega) (by omega) (by omega) ?_
              refine k_iconst C dL_minute_314 ?_
              refine k_irem C dL_minute_315 (by omega) (by omega) (by omega) (by omega) ?_
              refine k_if_ne (tgt := 334) C dL_minute_316 (by decide) ⟨by omega, by omega⟩ (fun c316 => ?_) (fun c316 => ?_)
              · try (exfalso; omega)
                all_goals (
                  first
                    | (have hc : zrr 9 = 0 := by omega
                       have hw : ¬ zHow zrr = 0 := by rw [zHow, if_pos (by omega)]; omega
                       have hz : zThree zrr = iu zrr 19 (zrr 19 + 1) := by
                         exact if_pos hc
                       refine k_sub (kend _ _ (by omega) ⟨_, _, _, _, _, ⟨(by repeat (first | exact hs_eq _ _ _ | refine hs_ne (by omega) ?_ | assumption)), (by repeat (first | exact hs_eq _ _ _ | refine hs_ne (by omega) ?_ | assumption)), (by repeat (first | exact hs_eq _ _ _ | refine hs_ne (by omega) ?_ | assumption)), (by repeat (first | exact hs_eq _ _ _ | refine hs_ne (by omega) ?_ | assumption)), (by repeat (first | exact hs_eq _ _ _ | refine hs_ne (by omega) ?_ | assumption))⟩, ?_⟩ (fun aaa haa => by repeat (first | rfl | refine hs_ne (by omega) ?_))) ((And.intro rfl (And.intro rfl (And.intro rfl (And.intro rfl (And.intro rfl (And.intro rfl trivial)))))))
                       rw [hz]
                       exact (hLR.n (by decide) (by first | omega | (simp (disch := decide) only [iu_ne, iu_eq]; omega))))
                    | (have hc : ¬ zrr 9 = 0 ∧ ¬ zrr 63 - zrr 12 < zrr 11 := ⟨by omega, by omega⟩
                       have hw : zHow zrr = 0 := by rw [zHow, if_neg hc.1, if_neg hc.2]
                       have hz : zThree zrr = iu (iu zrr 9 (zrr 9 - 1)) 10 ((zrr 10 + 1) % 720) := by
                         rw [zThree, if_neg hc.1, if_neg hc.2]
                       refine k_sub (kend _ _ (by omega) ⟨_, _, _, _, _, ⟨(by repeat (first | exact hs_eq _ _ _ | refine hs_ne (by omega) ?_ | assumption)), (by repeat (first | exact hs_eq _ _ _ | refine hs_ne (by omega) ?_ | assumption)), (by repeat (first | exact hs_eq _ _ _ | refine hs_ne (by omega) ?_ | assumption)), (by repeat (first | exact hs_eq _ _ _ | refine hs_ne (by omega) ?_ | assumption)), (by repeat (first | exact hs_eq _ _ _ | refine hs_ne (by omega) ?_ | assumption))⟩, ?_⟩ (fun aaa haa => by repeat (first | rfl | refine hs_ne (by omega) ?_))) ((And.intro rfl (And.intro rfl (And.intro rfl (And.intro rfl (And.intro rfl (And.intro rfl trivial)))))))
                       rw [hz]
                       exact ((hLR.n (by decide) (by first | omega | (simp (disch := decide) only [iu_ne, iu_eq]; omega))).n (by decide) (by first | omega | (simp (disch := decide) only [iu_ne, iu_eq]; omega))))
                    | (have hc : ¬ zrr 9 = 0 ∧ zrr 63 - zrr 12 < zrr 11 ∧ ((zrr 18 + 1) % 5 = 0 ∧ zrr 12 < 20) := ⟨by omega, by omega, by omega, by omega⟩
                       have hw : ¬ zHow zrr = 0 := by rw [zHow, if_neg hc.1, if_pos hc.2.1]; decide
                       have hz : zThree zrr = iu (iu (iu zrr 9 (zrr 9 - 1)) 18 (zrr 18 + 1)) 12 (zrr 12 + 1) := by
                         rw [zThree, if_neg hc.1, if_pos hc.2.1, if_pos hc.2.2]
                       refine k_sub (kend _ _ (by omega) ⟨_, _, _, _, _, ⟨(by repeat (first | exact hs_eq _ _ _ | refine hs_ne (by omega) ?_ | assumption)), (by repeat (first | exact hs_eq _ _ _ | refine hs_ne (by omega) ?_ | assumption)), (by repeat (first | exact hs_eq _ _ _ | refine hs_ne (by omega) ?_ | assumption)), (by repeat (first | exact hs_eq _ _ _ | refine hs_ne (by omega) ?_ | assumption)), (by repeat (first | exact hs_eq _ _ _ | refine hs_ne (by omega) ?_ | assumption))⟩, ?_⟩ (fun aaa haa => by repeat (first | rfl | refine hs_ne (by omega) ?_))) ((And.intro rfl (And.intro rfl (And.intro rfl (And.intro rfl (And.intro rfl (And.intro rfl trivial)))))))
                       rw [hz]
                       exact (((hLR.n (by decide) (by first | omega | (simp (disch := decide) only [iu_ne, iu_eq]; omega))).n (by decide) (by first | omega | (simp (disch := decide) only [iu_ne, iu_eq]; omega))).n (by decide) (by first | omega | (simp (disch := decide) only [iu_ne, iu_eq]; omega))))
                    | (have hc : ¬ zrr 9 = 0 ∧ zrr 63 - zrr 12 < zrr 11 ∧ ¬ ((zrr 18 + 1) % 5 = 0 ∧ zrr 12 < 20) := ⟨by omega, by omega, by omega⟩
                       have hw : ¬ zHow zrr = 0 := by rw [zHow, if_neg hc.1, if_pos hc.2.1]; decide
                       have hz : zThree zrr = iu (iu zrr 9 (zrr 9 - 1)) 18 (zrr 18 + 1) := by
                         rw [zThree, if_neg hc.1, if_pos hc.2.1, if_neg hc.2.2, Int.add_zero]
                         funext kkk
                         simp only [iu]
                         (repeat' split) <;> first | rfl | omega | (exfalso; omega) | (subst_vars; rfl)
                       refine k_sub (kend _ _ (by omega) ⟨_, _, _, _, _, ⟨(by repeat (first | exact hs_eq _ _ _ | refine hs_ne (by omega) ?_ | assumption)), (by repeat (first | exact hs_eq _ _ _ | refine hs_ne (by omega) ?_ | assumption)), (by repeat (first | exact hs_eq _ _ _ | refine hs_ne (by omega) ?_ | assumption)), (by repeat (first | exact hs_eq _ _ _ | refine hs_ne (by omega) ?_ | assumption)), (by repeat (first | exact hs_eq _ _ _ | refine hs_ne (by omega) ?_ | assumption))⟩, ?_⟩ (fun aaa haa => by repeat (first | rfl | refine hs_ne (by omega) ?_))) ((And.intro rfl (And.intro rfl (And.intro rfl (And.intro rfl (And.intro rfl (And.intro rfl trivial)))))))
                       rw [hz]
                       exact ((hLR.n (by decide) (by first | omega | (simp (disch := decide) only [iu_ne, iu_eq]; omega))).n (by decide) (by first | omega | (simp (disch := decide) only [iu_ne, iu_eq]; omega)))))
              · try (exfalso; omega)
                all_goals (
                  refine k_aload_n C dL_minute_319 rfl ?_
                  refine k_iconst C dL_minute_320 ?_
                  refine k_iaload C dL_minute_321 (by repeat (first | exact hs_eq _ _ _ | refine hs_ne (by omega) ?_ | assumption)) (by omega) (by omega) (by omega) ?_
                  try simp (disch := omega) only [hs_hs, iu_ne, iu_eq]
                  refine k_bipush C dL_minute_322 (by decide +kernel) ?_
                  refine k_icmp_ge (tgt := 334) C dL_minute_324 (by decide) ⟨by omega, by omega⟩ ⟨by omega, by omega⟩ (fun c324 => ?_) (fun c324 => ?_)
                  · try (exfalso; omega)
                    all_goals (
                      first
                        | (have hc : zrr 9 = 0 := by omega
                           have hw : ¬ zHow zrr = 0 := by rw [zHow, if_pos (by omega)]; omega
                           have hz : zThree zrr = iu zrr 19 (zrr 19 + 1) := by
                             exact if_pos hc
                           refine k_sub (kend _ _ (by omega) ⟨_, _, _, _, _, ⟨(by repeat (first | exact hs_eq _ _ _ | refine hs_ne (by omega) ?_ | assumption)), (by repeat (first | exact hs_eq _ _ _ | refine hs_ne (by omega) ?_ | assumption)), (by repeat (first | exact hs_eq _ _ _ | refine hs_ne (by omega) ?_ | assumption)), (by repeat (first | exact hs_eq _ _ _ | refine hs_ne (by omega) ?_ | assumption)), (by repeat (first | exact hs_eq _ _ _ | refine hs_ne (by omega) ?_ | assumption))⟩, ?_⟩ (fun aaa haa => by repeat (first | rfl | refine hs_ne (by omega) ?_))) ((And.intro rfl (And.intro rfl (And.intro rfl (And.intro rfl (And.intro rfl (And.intro rfl trivial)))))))
                           rw [hz]
                           exact (hLR.n (by decide) (by first | omega | (simp (disch := decide) only [iu_ne, iu_eq]; omega))))
                        | (have hc : ¬ zrr 9 = 0 ∧ ¬ zrr 63 - zrr 12 < zrr 11 := ⟨by omega, by omega⟩
                           have hw : zHow zrr = 0 := by rw [zHow, if_neg hc.1, if_neg hc.2]
                           have hz : zThree zrr = iu (iu zrr 9 (zrr 9 - 1)) 10 ((zrr 10 + 1) % 720) := by
                             rw [zThree, if_neg hc.1, if_neg hc.2]
                           refine k_sub (kend _ _ (by omega) ⟨_, _, _, _, _, ⟨(by repeat (first | exact hs_eq _ _ _ | refine hs_ne (by omega) ?_ | assumption)), (by repeat (first | exact hs_eq _ _ _ | refine hs_ne (by omega) ?_ | assumption)), (by repeat (first | exact hs_eq _ _ _ | refine hs_ne (by omega) ?_ | assumption)), (by repeat (first | exact hs_eq _ _ _ | refine hs_ne (by omega) ?_ | assumption)), (by repeat (first | exact hs_eq _ _ _ | refine hs_ne (by omega) ?_ | assumption))⟩, ?_⟩ (fun aaa haa => by repeat (first | rfl | refine hs_ne (by omega) ?_))) ((And.intro rfl (And.intro rfl (And.intro rfl (And.intro rfl (And.intro rfl (And.intro rfl trivial)))))))
                           rw [hz]
                           exact ((hLR.n (by decide) (by first | omega | (simp (disch := decide) only [iu_ne, iu_eq]; omega))).n (by decide) (by first | omega | (simp (disch := decide) only [iu_ne, iu_eq]; omega))))
                        | (have hc : ¬ zrr 9 = 0 ∧ zrr 63 - zrr 12 < zrr 11 ∧ ((zrr 18 + 1) % 5 = 0 ∧ zrr 12 < 20) := ⟨by omega, by omega, by omega, by omega⟩
                           have hw : ¬ zHow zrr = 0 := by rw [zHow, if_neg hc.1, if_pos hc.2.1]; decide
                           have hz : zThree zrr = iu (iu (iu zrr 9 (zrr 9 - 1)) 18 (zrr 18 + 1)) 12 (zrr 12 + 1) := by
                             rw [zThree, if_neg hc.1, if_pos hc.2.1, if_pos hc.2.2]
                           refine k_sub (kend _ _ (by omega) ⟨_, _, _, _, _, ⟨(by repeat (first | exact hs_eq _ _ _ | refine hs_ne (by omega) ?_ | assumption)), (by repeat (first | exact hs_eq _ _ _ | refine hs_ne (by omega) ?_ | assumption)), (by repeat (first | exact hs_eq _ _ _ | refine hs_ne (by omega) ?_ | assumption)), (by repeat (first | exact hs_eq _ _ _ | refine hs_ne (by omega) ?_ | assumption)), (by repeat (first | exact hs_eq _ _ _ | refine hs_ne (by omega) ?_ | assumption))⟩, ?_⟩ (fun aaa haa => by repeat (first | rfl | refine hs_ne (by omega) ?_))) ((And.intro rfl (And.intro rfl (And.intro rfl (And.intro rfl (And.intro rfl (And.intro rfl trivial)))))))
                           rw [hz]
                           exact (((hLR.n (by decide) (by first | omega | (simp (disch := decide) only [iu_ne, iu_eq]; omega))).n (by decide) (by first | omega | (simp (disch := decide) only [iu_ne, iu_eq]; omega))).n (by decide) (by first | omega | (simp (disch := decide) only [iu_ne, iu_eq]; omega))))
                        | (have hc : ¬ zrr 9 = 0 ∧ zrr 63 - zrr 12 < zrr 11 ∧ ¬ ((zrr 18 + 1) % 5 = 0 ∧ zrr 12 < 20) := ⟨by omega, by omega, by omega⟩
                           have hw : ¬ zHow zrr = 0 := by rw [zHow, if_neg hc.1, if_pos hc.2.1]; decide
                           have hz : zThree zrr = iu (iu zrr 9 (zrr 9 - 1)) 18 (zrr 18 + 1) := by
                             rw [zThree, if_neg hc.1, if_pos hc.2.1, if_neg hc.2.2, Int.add_zero]
                             funext kkk
                             simp only [iu]
                             (repeat' split) <;> first | rfl | omega | (exfalso; omega) | (subst_vars; rfl)
                           refine k_sub (kend _ _ (by omega) ⟨_, _, _, _, _, ⟨(by repeat (first | exact hs_eq _ _ _ | refine hs_ne (by omega) ?_ | assumption)), (by repeat (first | exact hs_eq _ _ _ | refine hs_ne (by omega) ?_ | assumption)), (by repeat (first | exact hs_eq _ _ _ | refine hs_ne (by omega) ?_ | assumption)), (by repeat (first | exact hs_eq _ _ _ | refine hs_ne (by omega) ?_ | assumption)), (by repeat (first | exact hs_eq _ _ _ | refine hs_ne (by omega) ?_ | assumption))⟩, ?_⟩ (fun aaa haa => by repeat (first | rfl | refine hs_ne (by omega) ?_))) ((And.intro rfl (And.intro rfl (And.intro rfl (And.intro rfl (And.intro rfl (And.intro rfl trivial)))))))
                           rw [hz]
                           exact ((hLR.n (by decide) (by first | omega | (simp (disch := decide) only [iu_ne, iu_eq]; omega))).n (by decide) (by first | omega | (simp (disch := decide) only [iu_ne, iu_eq]; omega)))))
                  · try (exfalso; omega)
                    all_goals (
                      refine k_aload_n C dL_minute_327 rfl ?_
                      refine k_iconst C dL_minute_328 ?_
                      refine k_dup2 C dL_minute_329 rfl rfl ?_
                      refine k_iaload C dL_minute_330 (by repeat (first | exact hs_eq _ _ _ | refine hs_ne (by omega) ?_ | assumption)) (by omega) (by omega) (by omega) ?_
                      try simp (disch := omega) only [hs_hs, iu_ne, iu_eq]
                      refine k_iconst C dL_minute_331 ?_
                      refine k_iadd C dL_minute_332 ?_
                      refine k_iastore C dL_minute_333 (by repeat (first | exact hs_eq _ _ _ | refine hs_ne (by omega) ?_ | assumption)) (by omega) (by omega) (by omega) ?_
                      first
                        | (have hc : zrr 9 = 0 := by omega
                           have hw : ¬ zHow zrr = 0 := by rw [zHow, if_pos (by omega)]; omega
                           have hz : zThree zrr = iu zrr 19 (zrr 19 + 1) := by
                             exact if_pos hc
                           refine k_sub (kend _ _ (by omega) ⟨_, _, _, _, _, ⟨(by repeat (first | exact hs_eq _ _ _ | refine hs_ne (by omega) ?_ | assumption)), (by repeat (first | exact hs_eq _ _ _ | refine hs_ne (by omega) ?_ | assumption)), (by repeat (first | exact hs_eq _ _ _ | refine hs_ne (by omega) ?_ | assumption)), (by repeat (first | exact hs_eq _ _ _ | refine hs_ne (by omega) ?_ | assumption)), (by repeat (first | exact hs_eq _ _ _ | refine hs_ne (by omega) ?_ | assumption))⟩, ?_⟩ (fun aaa haa => by repeat (first | rfl | refine hs_ne (by omega) ?_))) ((And.intro rfl (And.intro rfl (And.intro rfl (And.intro rfl (And.intro rfl (And.intro rfl trivial)))))))
                           rw [hz]
                           exact (hLR.n (by decide) (by first | omega | (simp (disch := decide) only [iu_ne, iu_eq]; omega))))
                        | (have hc : ¬ zrr 9 = 0 ∧ ¬ zrr 63 - zrr 12 < zrr 11 := ⟨by omega, by omega⟩
                           have hw : zHow zrr = 0 := by rw [zHow, if_neg hc.1, if_neg hc.2]
                           have hz : zThree zrr = iu (iu zrr 9 (zrr 9 - 1)) 10 ((zrr 10 + 1) % 720) := by
                             rw [zThree, if_neg hc.1, if_neg hc.2]
                           refine k_sub (kend _ _ (by omega) ⟨_, _, _, _, _, ⟨(by repeat (first | exact hs_eq _ _ _ | refine hs_ne (by omega) ?_ | assumption)), (by repeat (first | exact hs_eq _ _ _ | refine hs_ne (by omega) ?_ | assumption)), (by repeat (first | exact hs_eq _ _ _ | refine hs_ne (by omega) ?_ | assumption)), (by repeat (first | exact hs_eq _ _ _ | refine hs_ne (by omega) ?_ | assumption)), (by repeat (first | exact hs_eq _ _ _ | refine hs_ne (by omega) ?_ | assumption))⟩, ?_⟩ (fun aaa haa => by repeat (first | rfl | refine hs_ne (by omega) ?_))) ((And.intro rfl (And.intro rfl (And.intro rfl (And.intro rfl (And.intro rfl (And.intro rfl trivial)))))))
                           rw [hz]
                           exact ((hLR.n (by decide) (by first | omega | (simp (disch := decide) only [iu_ne, iu_eq]; omega))).n (by decide) (by first | omega | (simp (disch := decide) only [iu_ne, iu_eq]; omega))))
                        | (have hc : ¬ zrr 9 = 0 ∧ zrr 63 - zrr 12 < zrr 11 ∧ ((zrr 18 + 1) % 5 = 0 ∧ zrr 12 < 20) := ⟨by omega, by omega, by omega, by omega⟩
                           have hw : ¬ zHow zrr = 0 := by rw [zHow, if_neg hc.1, if_pos hc.2.1]; decide
                           have hz : zThree zrr = iu (iu (iu zrr 9 (zrr 9 - 1)) 18 (zrr 18 + 1)) 12 (zrr 12 + 1) := by
                             rw [zThree, if_neg hc.1, if_pos hc.2.1, if_pos hc.2.2]
                           refine k_sub (kend _ _ (by omega) ⟨_, _, _, _, _, ⟨(by repeat (first | exact hs_eq _ _ _ | refine hs_ne (by omega) ?_ | assumption)), (by repeat (first | exact hs_eq _ _ _ | refine hs_ne (by omega) ?_ | assumption)), (by repeat (first | exact hs_eq _ _ _ | refine hs_ne (by omega) ?_ | assumption)), (by repeat (first | exact hs_eq _ _ _ | refine hs_ne (by omega) ?_ | assumption)), (by repeat (first | exact hs_eq _ _ _ | refine hs_ne (by omega) ?_ | assumption))⟩, ?_⟩ (fun aaa haa => by repeat (first | rfl | refine hs_ne (by omega) ?_))) ((And.intro rfl (And.intro rfl (And.intro rfl (And.intro rfl (And.intro rfl (And.intro rfl trivial)))))))
                           rw [hz]
                           exact (((hLR.n (by decide) (by first | omega | (simp (disch := decide) only [iu_ne, iu_eq]; omega))).n (by decide) (by first | omega | (simp (disch := decide) only [iu_ne, iu_eq]; omega))).n (by decide) (by first | omega | (simp (disch := decide) only [iu_ne, iu_eq]; omega))))
                        | (have hc : ¬ zrr 9 = 0 ∧ zrr 63 - zrr 12 < zrr 11 ∧ ¬ ((zrr 18 + 1) % 5 = 0 ∧ zrr 12 < 20) := ⟨by omega, by omega, by omega⟩
                           have hw : ¬ zHow zrr = 0 := by rw [zHow, if_neg hc.1, if_pos hc.2.1]; decide
                           have hz : zThree zrr = iu (iu zrr 9 (zrr 9 - 1)) 18 (zrr 18 + 1) := by
                             rw [zThree, if_neg hc.1, if_pos hc.2.1, if_neg hc.2.2, Int.add_zero]
                             funext kkk
                             simp only [iu]
                             (repeat' split) <;> first | rfl | omega | (exfalso; omega) | (subst_vars; rfl)
                           refine k_sub (kend _ _ (by omega) ⟨_, _, _, _, _, ⟨(by repeat (first | exact hs_eq _ _ _ | refine hs_ne (by omega) ?_ | assumption)), (by repeat (first | exact hs_eq _ _ _ | refine hs_ne (by omega) ?_ | assumption)), (by repeat (first | exact hs_eq _ _ _ | refine hs_ne (by omega) ?_ | assumption)), (by repeat (first | exact hs_eq _ _ _ | refine hs_ne (by omega) ?_ | assumption)), (by repeat (first | exact hs_eq _ _ _ | refine hs_ne (by omega) ?_ | assumption))⟩, ?_⟩ (fun aaa haa => by repeat (first | rfl | refine hs_ne (by omega) ?_))) ((And.intro rfl (And.intro rfl (And.intro rfl (And.intro rfl (And.intro rfl (And.intro rfl trivial)))))))
                           rw [hz]
                           exact ((hLR.n (by decide) (by first | omega | (simp (disch := decide) only [iu_ne, iu_eq]; omega))).n (by decide) (by first | omega | (simp (disch := decide) only [iu_ne, iu_eq]; omega)))))))
          · try (exfalso; omega)
            all_goals (
              refine k_aload_n C dL_minute_290 rfl ?_
              refine k_iconst C dL_minute_291 ?_
              refine k_aload_n C dL_minute_292 rfl ?_
              refine k_iconst C dL_minute_293 ?_
              refine k_iaload C dL_minute_294 (by repeat (first | exact hs_eq _ _ _ | refine hs_ne (by omega) ?_ | assumption)) (by omega) (by omega) (by omega) ?_
              try simp (disch := omega) only [hs_hs, iu_ne, iu_eq]
              refine k_iconst C dL_minute_295 ?_
              refine k_iadd C dL_minute_296 ?_
              refine k_sipush C dL_minute_297 (by decide +kernel) ?_
              refine k_irem C dL_minute_300 (by omega) (by omega) (by omega) (by omega) ?_
              refine k_iastore C dL_minute_301 (by repeat (first | exact hs_eq _ _ _ | refine hs_ne (by omega) ?_ | assumption)) (by omega) (by omega) (by omega) ?_
              refine k_goto (tgt := 334) C dL_minute_302 (by decide) ?_
              first
                | (have hc : zrr 9 = 0 := by omega
                   have hw : ¬ zHow zrr = 0 := by rw [zHow, if_pos (by omega)]; omega
                   have hz : zThree zrr = iu zrr 19 (zrr 19 + 1) := by
                     exact if_pos hc
                   refine k_sub (kend _ _ (by omega) ⟨_, _, _, _, _, ⟨(by repeat (first | exact hs_eq _ _ _ | refine hs_ne (by omega) ?_ | assumption)), (by repeat (first | exact hs_eq _ _ _ | refine hs_ne (by omega) ?_ | assumption)), (by repeat (first | exact hs_eq _ _ _ | refine hs_ne (by omega) ?_ | assumption)), (by repeat (first | exact hs_eq _ _ _ | refine hs_ne (by omega) ?_ | assumption)), (by repeat (first | exact hs_eq _ _ _ | refine hs_ne (by omega) ?_ | assumption))⟩, ?_⟩ (fun aaa haa => by repeat (first | rfl | refine hs_ne (by omega) ?_))) ((And.intro rfl (And.intro rfl (And.intro rfl (And.intro rfl (And.intro rfl (And.intro rfl trivial)))))))
                   rw [hz]
                   exact (hLR.n (by decide) (by first | omega | (simp (disch := decide) only [iu_ne, iu_eq]; omega))))
                | (have hc : ¬ zrr 9 = 0 ∧ ¬ zrr 63 - zrr 12 < zrr 11 := ⟨by omega, by omega⟩
                   have hw : zHow zrr = 0 := by rw [zHow, if_neg hc.1, if_neg hc.2]
                   have hz : zThree zrr = iu (iu zrr 9 (zrr 9 - 1)) 10 ((zrr 10 + 1) % 720) := by
                     rw [zThree, if_neg hc.1, if_neg hc.2]
                   refine k_sub (kend _ _ (by omega) ⟨_, _, _, _, _, ⟨(by repeat (first | exact hs_eq _ _ _ | refine hs_ne (by omega) ?_ | assumption)), (by repeat (first | exact hs_eq _ _ _ | refine hs_ne (by omega) ?_ | assumption)), (by repeat (first | exact hs_eq _ _ _ | refine hs_ne (by omega) ?_ | assumption)), (by repeat (first | exact hs_eq _ _ _ | refine hs_ne (by omega) ?_ | assumption)), (by repeat (first | exact hs_eq _ _ _ | refine hs_ne (by omega) ?_ | assumption))⟩, ?_⟩ (fun aaa haa => by repeat (first | rfl | refine hs_ne (by omega) ?_))) ((And.intro rfl (And.intro rfl (And.intro rfl (And.intro rfl (And.intro rfl (And.intro rfl trivial)))))))
                   rw [hz]
                   exact ((hLR.n (by decide) (by first | omega | (simp (disch := decide) only [iu_ne, iu_eq]; omega))).n (by decide) (by first | omega | (simp (disch := decide) only [iu_ne, iu_eq]; omega))))
                | (have hc : ¬ zrr 9 = 0 ∧ zrr 63 - zrr 12 < zrr 11 ∧ ((zrr 18 + 1) % 5 = 0 ∧ zrr 12 < 20) := ⟨by omega, by omega, by omega, by omega⟩
                   have hw : ¬ zHow zrr = 0 := by rw [zHow, if_neg hc.1, if_pos hc.2.1]; decide
                   have hz : zThree zrr = iu (iu (iu zrr 9 (zrr 9 - 1)) 18 (zrr 18 + 1)) 12 (zrr 12 + 1) := by
                     rw [zThree, if_neg hc.1, if_pos hc.2.1, if_pos hc.2.2]
                   refine k_sub (kend _ _ (by omega) ⟨_, _, _, _, _, ⟨(by repeat (first | exact hs_eq _ _ _ | refine hs_ne (by omega) ?_ | assumption)), (by repeat (first | exact hs_eq _ _ _ | refine hs_ne (by omega) ?_ | assumption)), (by repeat (first | exact hs_eq _ _ _ | refine hs_ne (by omega) ?_ | assumption)), (by repeat (first | exact hs_eq _ _ _ | refine hs_ne (by omega) ?_ | assumption)), (by repeat (first | exact hs_eq _ _ _ | refine hs_ne (by omega) ?_ | assumption))⟩, ?_⟩ (fun aaa haa => by repeat (first | rfl | refine hs_ne (by omega) ?_))) ((And.intro rfl (And.intro rfl (And.intro rfl (And.intro rfl (And.intro rfl (And.intro rfl trivial)))))))
                   rw [hz]
                   exact (((hLR.n (by decide) (by first | omega | (simp (disch := decide) only [iu_ne, iu_eq]; omega))).n (by decide) (by first | omega | (simp (disch := decide) only [iu_ne, iu_eq]; omega))).n (by decide) (by first | omega | (simp (disch := decide) only [iu_ne, iu_eq]; omega))))
                | (have hc : ¬ zrr 9 = 0 ∧ zrr 63 - zrr 12 < zrr 11 ∧ ¬ ((zrr 18 + 1) % 5 = 0 ∧ zrr 12 < 20) := ⟨by omega, by omega, by omega⟩
                   have hw : ¬ zHow zrr = 0 := by rw [zHow, if_neg hc.1, if_pos hc.2.1]; decide
                   have hz : zThree zrr = iu (iu zrr 9 (zrr 9 - 1)) 18 (zrr 18 + 1) := by
                     rw [zThree, if_neg hc.1, if_pos hc.2.1, if_neg hc.2.2, Int.add_zero]
                     funext kkk
                     simp only [iu]
                     (repeat' split) <;> first | rfl | omega | (exfalso; omega) | (subst_vars; rfl)
                   refine k_sub (kend _ _ (by omega) ⟨_, _, _, _, _, ⟨(by repeat (first | exact hs_eq _ _ _ | refine hs_ne (by omega) ?_ | assumption)), (by repeat (first | exact hs_eq _ _ _ | refine hs_ne (by omega) ?_ | assumption)), (by repeat (first | exact hs_eq _ _ _ | refine hs_ne (by omega) ?_ | assumption)), (by repeat (first | exact hs_eq _ _ _ | refine hs_ne (by omega) ?_ | assumption)), (by repeat (first | exact hs_eq _ _ _ | refine hs_ne (by omega) ?_ | assumption))⟩, ?_⟩ (fun aaa haa => by repeat (first | rfl | refine hs_ne (by omega) ?_))) ((And.intro rfl (And.intro rfl (And.intro rfl (And.intro rfl (And.intro rfl (And.intro rfl trivial)))))))
                   rw [hz]
                   exact ((hLR.n (by decide) (by first | omega | (simp (disch := decide) only [iu_ne, iu_eq]; omega))).n (by decide) (by first | omega | (simp (disch := decide) only [iu_ne, iu_eq]; omega))))))
      · try (exfalso; omega)
        all_goals (
          refine k_aload_n C dL_minute_267 rfl ?_
          refine k_bipush C dL_minute_268 (by decide +kernel) ?_
          refine k_dup2 C dL_minute_270 rfl rfl ?_
          refine k_iaload C dL_minute_271 (by repeat (first | exact hs_eq _ _ _ | refine hs_ne (by omega) ?_ | assumption)) (by omega) (by omega) (by omega) ?_
          refine k_iconst C dL_minute_272 ?_
          refine k_iadd C dL_minute_273 ?_
          refine k_iastore C dL_minute_274 (by repeat (first | exact hs_eq _ _ _ | refine hs_ne (by omega) ?_ | assumption)) (by omega) (by omega) (by omega) ?_
          refine k_goto (tgt := 334) C dL_minute_275 (by decide) ?_
          first
            | (have hc : zrr 9 = 0 := by omega
               have hw : ¬ zHow zrr = 0 := by rw [zHow, if_pos (by omega)]; omega
               have hz : zThree zrr = iu zrr 19 (zrr 19 + 1) := by
                 exact if_pos hc
               refine k_sub (kend _ _ (by omega) ⟨_, _, _, _, _, ⟨(by repeat (first | exact hs_eq _ _ _ | refine hs_ne (by omega) ?_ | assumption)), (by repeat (first | exact hs_eq _ _ _ | refine hs_ne (by omega) ?_ | assumption)), (by repeat (first | exact hs_eq _ _ _ | refine hs_ne (by omega) ?_ | assumption)), (by repeat (first | exact hs_eq _ _ _ | refine hs_ne (by omega) ?_ | assumption)), (by repeat (first | exact hs_eq _ _ _ | refine hs_ne (by omega) ?_ | assumption))⟩, ?_⟩ (fun aaa haa => by repeat (first | rfl | refine hs_ne (by omega) ?_))) ((And.intro rfl (And.intro rfl (And.intro rfl (And.intro rfl (And.intro rfl (And.intro rfl trivial)))))))
               rw [hz]
               exact (hLR.n (by decide) (by first | omega | (simp (disch := decide) only [iu_ne, iu_eq]; omega))))
            | (have hc : ¬ zrr 9 = 0 ∧ ¬ zrr 63 - zrr 12 < zrr 11 := ⟨by omega, by omega⟩
               have hw : zHow zrr = 0 := by rw [zHow, if_neg hc.1, if_neg hc.2]
               have hz : zThree zrr = iu (iu zrr 9 (zrr 9 - 1)) 10 ((zrr 10 + 1) % 720) := by
                 rw [zThree, if_neg hc.1, if_neg hc.2]
               refine k_sub (kend _ _ (by omega) ⟨_, _, _, _, _, ⟨(by repeat (first | exact hs_eq _ _ _ | refine hs_ne (by omega) ?_ | assumption)), (by repeat (first | exact hs_eq _ _ _ | refine hs_ne (by omega) ?_ | assumption)), (by repeat (first | exact hs_eq _ _ _ | refine hs_ne (by omega) ?_ | assumption)), (by repeat (first | exact hs_eq _ _ _ | refine hs_ne (by omega) ?_ | assumption)), (by repeat (first | exact hs_eq _ _ _ | refine hs_ne (by omega) ?_ | assumption))⟩, ?_⟩ (fun aaa haa => by repeat (first | rfl | refine hs_ne (by omega) ?_))) ((And.intro rfl (And.intro rfl (And.intro rfl (And.intro rfl (And.intro rfl (And.intro rfl trivial)))))))
               rw [hz]
               exact ((hLR.n (by decide) (by first | omega | (simp (disch := decide) only [iu_ne, iu_eq]; omega))).n (by decide) (by first | omega | (simp (disch := decide) only [iu_ne, iu_eq]; omega))))
            | (have hc : ¬ zrr 9 = 0 ∧ zrr 63 - zrr 12 < zrr 11 ∧ ((zrr 18 + 1) % 5 = 0 ∧ zrr 12 < 20) := ⟨by omega, by omega, by omega, by omega⟩
               have hw : ¬ zHow zrr = 0 := by rw [zHow, if_neg hc.1, if_pos hc.2.1]; decide
               have hz : zThree zrr = iu (iu (iu zrr 9 (zrr 9 - 1)) 18 (zrr 18 + 1)) 12 (zrr 12 + 1) := by
                 rw [zThree, if_neg hc.1, if_pos hc.2.1, if_pos hc.2.2]
               refine k_sub (kend _ _ (by omega) ⟨_, _, _, _, _, ⟨(by repeat (first | exact hs_eq _ _ _ | refine hs_ne (by omega) ?_ | assumption)), (by repeat (first | exact hs_eq _ _ _ | refine hs_ne (by omega) ?_ | assumption)), (by repeat (first | exact hs_eq _ _ _ | refine hs_ne (by omega) ?_ | assumption)), (by repeat (first | exact hs_eq _ _ _ | refine hs_ne (by omega) ?_ | assumption)), (by repeat (first | exact hs_eq _ _ _ | refine hs_ne (by omega) ?_ | assumption))⟩, ?_⟩ (fun aaa haa => by repeat (first | rfl | refine hs_ne (by omega) ?_))) ((And.intro rfl (And.intro rfl (And.intro rfl (And.intro rfl (And.intro rfl (And.intro rfl trivial)))))))
               rw [hz]
               exact (((hLR.n (by decide) (by first | omega | (simp (disch := decide) only [iu_ne, iu_eq]; omega))).n (by decide) (by first | omega | (simp (disch := decide) only [iu_ne, iu_eq]; omega))).n (by decide) (by first | omega | (simp (disch := decide) only [iu_ne, iu_eq]; omega))))
            | (have hc : ¬ zrr 9 = 0 ∧ zrr 63 - zrr 12 < zrr 11 ∧ ¬ ((zrr 18 + 1) % 5 = 0 ∧ zrr 12 < 20) := ⟨by omega, by omega, by omega⟩
               have hw : ¬ zHow zrr = 0 := by rw [zHow, if_neg hc.1, if_pos hc.2.1]; decide
               have hz : zThree zrr = iu (iu zrr 9 (zrr 9 - 1)) 18 (zrr 18 + 1) := by
                 rw [zThree, if_neg hc.1, if_pos hc.2.1, if_neg hc.2.2, Int.add_zero]
                 funext kkk
                 simp only [iu]
                 (repeat' split) <;> first | rfl | omega | (exfalso; omega) | (subst_vars; rfl)
               refine k_sub (kend _ _ (by omega) ⟨_, _, _, _, _, ⟨(by repeat (first | exact hs_eq _ _ _ | refine hs_ne (by omega) ?_ | assumption)), (by repeat (first | exact hs_eq _ _ _ | refine hs_ne (by omega) ?_ | assumption)), (by repeat (first | exact hs_eq _ _ _ | refine hs_ne (by omega) ?_ | assumption)), (by repeat (first | exact hs_eq _ _ _ | refine hs_ne (by omega) ?_ | assumption)), (by repeat (first | exact hs_eq _ _ _ | refine hs_ne (by omega) ?_ | assumption))⟩, ?_⟩ (fun aaa haa => by repeat (first | rfl | refine hs_ne (by omega) ?_))) ((And.intro rfl (And.intro rfl (And.intro rfl (And.intro rfl (And.intro rfl (And.intro rfl trivial)))))))
               rw [hz]
               exact ((hLR.n (by decide) (by first | omega | (simp (disch := decide) only [iu_ne, iu_eq]; omega))).n (by decide) (by first | omega | (simp (disch := decide) only [iu_ne, iu_eq]; omega))))))
  · try (exfalso; omega)
    all_goals (
      refine k_aload_n C dL_minute_241 rfl ?_
      refine k_iconst C dL_minute_242 ?_
      refine k_iaload C dL_minute_243 (by repeat (first | exact hs_eq _ _ _ | refine hs_ne (by omega) ?_ | assumption)) (by omega) (by omega) (by omega) ?_
      refine k_aload_n C dL_minute_244 rfl ?_
      refine k_iconst C dL_minute_245 ?_
      refine k_iaload C dL_minute_246 (by repeat (first | exact hs_eq _ _ _ | refine hs_ne (by omega) ?_ | assumption)) (by omega) (by omega) (by omega) ?_
      refine k_iadd C dL_minute_247 ?_
      refine k_aload_n C dL_minute_248 rfl ?_
      refine k_iconst C dL_minute_249 ?_
      refine k_iaload C dL_minute_250 (by repeat (first | exact hs_eq _ _ _ | refine hs_ne (by omega) ?_ | assumption)) (by omega) (by omega) (by omega) ?_
      refine k_icmp_gt (tgt := 258) C dL_minute_251 (by decide) ⟨by omega, by omega⟩ ⟨by omega, by omega⟩ (fun c251 => ?_) (fun c251 => ?_)
      · try (exfalso; omega)
        all_goals (
          refine k_iconst C dL_minute_258 ?_
          refine k_istore C dL_minute_259 (by decide) rfl ?_
          refine k_aload_n C dL_minute_261 rfl ?_
          refine k_iconst C dL_minute_262 ?_
          refine k_iaload C dL_minute_263 (by repeat (first | exact hs_eq _ _ _ | refine hs_ne (by omega) ?_ | assumption)) (by omega) (by omega) (by omega) ?_
          refine k_if_ne (tgt := 278) C dL_minute_264 (by decide) ⟨by omega, by omega⟩ (fun c264 => ?_) (fun c264 => ?_)
          · try (exfalso; omega)
            all_goals (
              refine k_aload_n C dL_minute_278 rfl ?_
              refine k_iconst C dL_minute_279 ?_
              refine k_dup2 C dL_minute_280 rfl rfl ?_
              refine k_iaload C dL_minute_281 (by repeat (first | exact hs_eq _ _ _ | refine hs_ne (by omega) ?_ | assumption)) (by omega) (by omega) (by omega) ?_
              refine k_iconst C dL_minute_282 ?_
              refine k_isub C dL_minute_283 ?_
              refine k_iastore C dL_minute_284 (by repeat (first | exact hs_eq _ _ _ | refine hs_ne (by omega) ?_ | assumption)) (by omega) (by omega) (by omega) ?_
              refine k_iload C dL_minute_285 rfl ?_
              refine k_if_eq (tgt := 305) C dL_minute_287 (by decide) ⟨by omega, by omega⟩ (fun c287 => ?_) (fun c287 => ?_)
              · try (exfalso; omega)
                all_goals (
                  refine k_aload_n C dL_minute_305 rfl ?_
                  refine k_bipush C dL_minute_306 (by decide +kernel) ?_
                  refine k_dup2 C dL_minute_308 rfl rfl ?_
                  refine k_iaload C dL_minute_309 (by repeat (first | exact hs_eq _ _ _ | refine hs_ne (by omega) ?_ | assumption)) (by omega) (by omega) (by omega) ?_
                  try simp (disch := omega) only [hs_hs, iu_ne, iu_eq]
                  refine k_iconst C dL_minute_310 ?_
                  refine k_iadd C dL_minute_311 ?_
                  refine k_dup_x2 C dL_minute_312 rfl rfl rfl ?_
                  refine k_iastore C dL_minute_313 (by repeat (first | exact hs_eq _ _ _ | refine hs_ne (by omega) ?_ | assumption)) (by omega) (by omega) (by omega) ?_
                  refine k_iconst C dL_minute_314 ?_
                  refine k_irem C dL_minute_315 (by omega) (by omega) (by omega) (by omega) ?_
                  refine k_if_ne (tgt := 334) C dL_minute_316 (by decide) ⟨by omega, by omega⟩ (fun c316 => ?_) (fun c316 => ?_)
                  · try (exfalso; omega)
                    all_goals (
                      first
                        | (have hc : zrr 9 = 0 := by omega
                           have hw : ¬ zHow zrr = 0 := by rw [zHow, if_pos (by omega)]; omega
                           have hz : zThree zrr = iu zrr 19 (zrr 19 + 1) := by
                             exact if_pos hc
                           refine k_sub (kend _ _ (by omega) ⟨_, _, _, _, _, ⟨(by repeat (first | exact hs_eq _ _ _ | refine hs_ne (by omega) ?_ | assumption)), (by repeat (first | exact hs_eq _ _ _ | refine hs_ne (by omega) ?_ | assumption)), (by repeat (first | exact hs_eq _ _ _ | refine hs_ne (by omega) ?_ | assumption)), (by repeat (first | exact hs_eq _ _ _ | refine hs_ne (by omega) ?_ | assumption)), (by repeat (first | exact hs_eq _ _ _ | refine hs_ne (by omega) ?_ | assumption))⟩, ?_⟩ (fun aaa haa => by repeat (first | rfl | refine hs_ne (by omega) ?_))) ((And.intro rfl (And.intro rfl (And.intro rfl (And.intro rfl (And.intro rfl (And.intro rfl trivial)))))))
                           rw [hz]
                           exact (hLR.n (by decide) (by first | omega | (simp (disch := decide) only [iu_ne, iu_eq]; omega))))
                        | (have hc : ¬ zrr 9 = 0 ∧ ¬ zrr 63 - zrr 12 < zrr 11 := ⟨by omega, by omega⟩
                           have hw : zHow zrr = 0 := by rw [zHow, if_neg hc.1, if_neg hc.2]
                           have hz : zThree zrr = iu (iu zrr 9 (zrr 9 - 1)) 10 ((zrr 10 + 1) % 720) := by
                             rw [zThree, if_neg hc.1, if_neg hc.2]
                           refine k_sub (kend _ _ (by omega) ⟨_, _, _, _, _, ⟨(by repeat (first | exact hs_eq _ _ _ | refine hs_ne (by omega) ?_ | assumption)), (by repeat (first | exact hs_eq _ _ _ | refine hs_ne (by omega) ?_ | assumption)), (by repeat (first | exact hs_eq _ _ _ | refine hs_ne (by omega) ?_ | assumption)), (by repeat (first | exact hs_eq _ _ _ | refine hs_ne (by omega) ?_ | assumption)), (by repeat (first | exact hs_eq _ _ _ | refine hs_ne (by omega) ?_ | assumption))⟩, ?_⟩ (fun aaa haa => by repeat (first | rfl | refine hs_ne (by omega) ?_))) ((And.intro rfl (And.intro rfl (And.intro rfl (And.intro rfl (And.intro rfl (And.intro rfl trivial)))))))
                           rw [hz]
                           exact ((hLR.n (by decide) (by first | omega | (simp (disch := decide) only [iu_ne, iu_eq]; omega))).n (by decide) (by first | omega | (simp (disch := decide) only [iu_ne, iu_eq]; omega))))
                        | (have hc : ¬ zrr 9 = 0 ∧ zrr 63 - zrr 12 < zrr 11 ∧ ((zrr 18 + 1) % 5 = 0 ∧ zrr 12 < 20) := ⟨by omega, by omega, by omega, by omega⟩
                           have hw : ¬ zHow zrr = 0 := by rw [zHow, if_neg hc.1, if_pos hc.2.1]; decide
                           have hz : zThree zrr = iu (iu (iu zrr 9 (zrr 9 - 1)) 18 (zrr 18 + 1)) 12 (zrr 12 + 1) := by
                             rw [zThree, if_neg hc.1, if_pos hc.2.1, if_pos hc.2.2]
                           refine k_sub (kend _ _ (by omega) ⟨_, _, _, _, _, ⟨(by repeat (first | exact hs_eq _ _ _ | refine hs_ne (by omega) ?_ | assumption)), (by repeat (first | exact hs_eq _ _ _ | refine hs_ne (by omega) ?_ | assumption)), (by repeat (first | exact hs_eq _ _ _ | refine hs_ne (by omega) ?_ | assumption)), (by repeat (first | exact hs_eq _ _ _ | refine hs_ne (by omega) ?_ | assumption)), (by repeat (first | exact hs_eq _ _ _ | refine hs_ne (by omega) ?_ | assumption))⟩, ?_⟩ (fun aaa haa => by repeat (first | rfl | refine hs_ne (by omega) ?_))) ((And.intro rfl (And.intro rfl (And.intro rfl (And.intro rfl (And.intro rfl (And.intro rfl trivial)))))))
                           rw [hz]
                           exact (((hLR.n (by decide) (by first | omega | (simp (disch := decide) only [iu_ne, iu_eq]; omega))).n (by decide) (by first | omega | (simp (disch := decide) only [iu_ne, iu_eq]; omega))).n (by decide) (by first | omega | (simp (disch := decide) only [iu_ne, iu_eq]; omega))))
                        | (have hc : ¬ zrr 9 = 0 ∧ zrr 63 - zrr 12 < zrr 11 ∧ ¬ ((zrr 18 + 1) % 5 = 0 ∧ zrr 12 < 20) := ⟨by omega, by omega, by omega⟩
                           have hw : ¬ zHow zrr = 0 := by rw [zHow, if_neg hc.1, if_pos hc.2.1]; decide
                           have hz : zThree zrr = iu (iu zrr 9 (zrr 9 - 1)) 18 (zrr 18 + 1) := by
                             rw [zThree, if_neg hc.1, if_pos hc.2.1, if_neg hc.2.2, Int.add_zero]
                             funext kkk
                             simp only [iu]
                             (repeat' split) <;> first | rfl | omega | (exfalso; omega) | (subst_vars; rfl)
                           refine k_sub (kend _ _ (by omega) ⟨_, _, _, _, _, ⟨(by repeat (first | exact hs_eq _ _ _ | refine hs_ne (by omega) ?_ | assumption)), (by repeat (first | exact hs_eq _ _ _ | refine hs_ne (by omega) ?_ | assumption)), (by repeat (first | exact hs_eq _ _ _ | refine hs_ne (by omega) ?_ | assumption)), (by repeat (first | exact hs_eq _ _ _ | refine hs_ne (by omega) ?_ | assumption)), (by repeat (first | exact hs_eq _ _ _ | refine hs_ne (by omega) ?_ | assumption))⟩, ?_⟩ (fun aaa haa => by repeat (first | rfl | refine hs_ne (by omega) ?_))) ((And.intro rfl (And.intro rfl (And.intro rfl (And.intro rfl (And.intro rfl (And.intro rfl trivial)))))))
                           rw [hz]
                           exact ((hLR.n (by decide) (by first | omega | (simp (disch := decide) only [iu_ne, iu_eq]; omega))).n (by decide) (by first | omega | (simp (disch := decide) only [iu_ne, iu_eq]; omega)))))
                  · try (exfalso; omega)
                    all_goals (
                      refine k_aload_n C dL_minute_319 rfl ?_
                      refine k_iconst C dL_minute_320 ?_
                      refine k_iaload C dL_minute_321 (by repeat (first | exact hs_eq _ _ _ | refine hs_ne (by omega) ?_ | assumption)) (by omega) (by omega) (by omega) ?_
                      try simp (disch := omega) only [hs_hs, iu_ne, iu_eq]
                      refine k_bipush C dL_minute_322 (by decide +kernel) ?_
                      refine k_icmp_ge (tgt := 334) C dL_minute_324 (by decide) ⟨by omega, by omega⟩ ⟨by omega, by omega⟩ (fun c324 => ?_) (fun c324 => ?_)
                      · try (exfalso; omega)
                        all_goals (
                          first
                            | (have hc : zrr 9 = 0 := by omega
                               have hw : ¬ zHow zrr = 0 := by rw [zHow, if_pos (by omega)]; omega
                               have hz : zThree zrr = iu zrr 19 (zrr 19 + 1) := by
                                 exact if_pos hc
                               refine k_sub (kend _ _ (by omega) ⟨_, _, _, _, _, ⟨(by repeat (first | exact hs_eq _ _ _ | refine hs_ne (by omega) ?_ | assumption)), (by repeat (first | exact hs_eq _ _ _ | refine hs_ne (by omega) ?_ | assumption)), (by repeat (first | exact hs_eq _ _ _ | refine hs_ne (by omega) ?_ | assumption)), (by repeat (first | exact hs_eq _ _ _ | refine hs_ne (by omega) ?_ | assumption)), (by repeat (first | exact hs_eq _ _ _ | refine hs_ne (by omega) ?_ | assumption))⟩, ?_⟩ (fun aaa haa => by repeat (first | rfl | refine hs_ne (by omega) ?_))) ((And.intro rfl (And.intro rfl (And.intro rfl (And.intro rfl (And.intro rfl (And.intro rfl trivial)))))))
                               rw [hz]
                               exact (hLR.n (by decide) (by first | omega | (simp (disch := decide) only [iu_ne, iu_eq]; omega))))
                            | (have hc : ¬ zrr 9 = 0 ∧ ¬ zrr 63 - zrr 12 < zrr 11 := ⟨by omega, by omega⟩
                               have hw : zHow zrr = 0 := by rw [zHow, if_neg hc.1, if_neg hc.2]
                               have hz : zThree zrr = iu (iu zrr 9 (zrr 9 - 1)) 10 ((zrr 10 + 1) % 720) := by
                                 rw [zThree, if_neg hc.1, if_neg hc.2]
                               refine k_sub (kend _ _ (by omega) ⟨_, _, _, _, _, ⟨(by repeat (first | exact hs_eq _ _ _ | refine hs_ne (by omega) ?_ | assumption)), (by repeat (first | exact hs_eq _ _ _ | refine hs_ne (by omega) ?_ | assumption)), (by repeat (first | exact hs_eq _ _ _ | refine hs_ne (by omega) ?_ | assumption)), (by repeat (first | exact hs_eq _ _ _ | refine hs_ne (by omega) ?_ | assumption)), (by repeat (first | exact hs_eq _ _ _ | refine hs_ne (by omega) ?_ | assumption))⟩, ?_⟩ (fun aaa haa => by repeat (first | rfl | refine hs_ne (by omega) ?_))) ((And.intro rfl (And.intro rfl (And.intro rfl (And.intro rfl (And.intro rfl (And.intro rfl trivial)))))))
                               rw [hz]
                               exact ((hLR.n (by decide) (by first | omega | (simp (disch := decide) only [iu_ne, iu_eq]; omega))).n (by decide) (by first | omega | (simp (disch := decide) only [iu_ne, iu_eq]; omega))))
                            | (have hc : ¬ zrr 9 = 0 ∧ zrr 63 - zrr 12 < zrr 11 ∧ ((zrr 18 + 1) % 5 = 0 ∧ zrr 12 < 20) := ⟨by omega, by omega, by omega, by omega⟩
                               have hw : ¬ zHow zrr = 0 := by rw [zHow, if_neg hc.1, if_pos hc.2.1]; decide
                               have hz : zThree zrr = iu (iu (iu zrr 9 (zrr 9 - 1)) 18 (zrr 18 + 1)) 12 (zrr 12 + 1) := by
                                 rw [zThree, if_neg hc.1, if_pos hc.2.1, if_pos hc.2.2]
                               refine k_sub (kend _ _ (by omega) ⟨_, _, _, _, _, ⟨(by repeat (first | exact hs_eq _ _ _ | refine hs_ne (by omega) ?_ | assumption)), (by repeat (first | exact hs_eq _ _ _ | refine hs_ne (by omega) ?_ | assumption)), (by repeat (first | exact hs_eq _ _ _ | refine hs_ne (by omega) ?_ | assumption)), (by repeat (first | exact hs_eq _ _ _ | refine hs_ne (by omega) ?_ | assumption)), (by repeat (first | exact hs_eq _ _ _ | refine hs_ne (by omega) ?_ | assumption))⟩, ?_⟩ (fun aaa haa => by repeat (first | rfl | refine hs_ne (by omega) ?_))) ((And.intro rfl (And.intro rfl (And.intro rfl (And.intro rfl (And.intro rfl (And.intro rfl trivial)))))))
                               rw [hz]
                               exact (((hLR.n (by decide) (by first | omega | (simp (disch := decide) only [iu_ne, iu_eq]; omega))).n (by decide) (by first | omega | (simp (disch := decide) only [iu_ne, iu_eq]; omega))).n (by decide) (by first | omega | (simp (disch := decide) only [iu_ne, iu_eq]; omega))))
                            | (have hc : ¬ zrr 9 = 0 ∧ zrr 63 - zrr 12 < zrr 11 ∧ ¬ ((zrr 18 + 1) % 5 = 0 ∧ zrr 12 < 20) := ⟨by omega, by omega, by omega⟩
                               have hw : ¬ zHow zrr = 0 := by rw [zHow, if_neg hc.1, if_pos hc.2.1]; decide
                               have hz : zThree zrr = iu (iu zrr 9 (zrr 9 - 1)) 18 (zrr 18 + 1) := by
                                 rw [zThree, if_neg hc.1, if_pos hc.2.1, if_neg hc.2.2, Int.add_zero]
                                 funext kkk
                                 simp only [iu]
                                 (repeat' split) <;> first | rfl | omega | (exfalso; omega) | (subst_vars; rfl)
                               refine k_sub (kend _ _ (by omega) ⟨_, _, _, _, _, ⟨(by repeat (first | exact hs_eq _ _ _ | refine hs_ne (by omega) ?_ | assumption)), (by repeat (first | exact hs_eq _ _ _ | refine hs_ne (by omega) ?_ | assumption)), (by repeat (first | exact hs_eq _ _ _ | refine hs_ne (by omega) ?_ | assumption)), (by repeat (first | exact hs_eq _ _ _ | refine hs_ne (by omega) ?_ | assumption)), (by repeat (first | exact hs_eq _ _ _ | refine hs_ne (by omega) ?_ | assumption))⟩, ?_⟩ (fun aaa haa => by repeat (first | rfl | refine hs_ne (by omega) ?_))) ((And.intro rfl (And.intro rfl (And.intro rfl (And.intro rfl (And.intro rfl (And.intro rfl trivial)))))))
                               rw [hz]
                               exact ((hLR.n (by decide) (by first | omega | (simp (disch := decide) only [iu_ne, iu_eq]; omega))).n (by decide) (by first | omega | (simp (disch := decide) only [iu_ne, iu_eq]; omega)))))
                      · try (exfalso; omega)
                        all_goals (
                          refine k_aload_n C dL_minute_327 rfl ?_
                          refine k_iconst C dL_minute_328 ?_
                          refine k_dup2 C dL_minute_329 rfl rfl ?_
                          refine k_iaload C dL_minute_330 (by repeat (first | exact hs_eq _ _ _ | refine hs_ne (by omega) ?_ | assumption)) (by omega) (by omega) (by omega) ?_
                          try simp (disch := omega) only [hs_hs, iu_ne, iu_eq]
                          refine k_iconst C dL_minute_331 ?_
                          refine k_iadd C dL_minute_332 ?_
                          refine k_iastore C dL_minute_333 (by repeat (first | exact hs_eq _ _ _ | refine hs_ne (by omega) ?_ | assumption)) (by omega) (by omega) (by omega) ?_
                          first
                            | (have hc : zrr 9 = 0 := by omega
                               have hw : ¬ zHow zrr = 0 := by rw [zHow, if_pos (by omega)]; omega
                               have hz : zThree zrr = iu zrr 19 (zrr 19 + 1) := by
                                 exact if_pos hc
                               refine k_sub (kend _ _ (by omega) ⟨_, _, _, _, _, ⟨(by repeat (first | exact hs_eq _ _ _ | refine hs_ne (by omega) ?_ | assumption)), (by repeat (first | exact hs_eq _ _ _ | refine hs_ne (by omega) ?_ | assumption)), (by repeat (first | exact hs_eq _ _ _ | refine hs_ne (by omega) ?_ | assumption)), (by repeat (first | exact hs_eq _ _ _ | refine hs_ne (by omega) ?_ | assumption)), (by repeat (first | exact hs_eq _ _ _ | refine hs_ne (by omega) ?_ | assumption))⟩, ?_⟩ (fun aaa haa => by repeat (first | rfl | refine hs_ne (by omega) ?_))) ((And.intro rfl (And.intro rfl (And.intro rfl (And.intro rfl (And.intro rfl (And.intro rfl trivial)))))))
                               rw [hz]
                               exact (hLR.n (by decide) (by first | omega | (simp (disch := decide) only [iu_ne, iu_eq]; omega))))
                            | (have hc : ¬ zrr 9 = 0 ∧ ¬ zrr 63 - zrr 12 < zrr 11 := ⟨by omega, by omega⟩
                               have hw : zHow zrr = 0 := by rw [zHow, if_neg hc.1, if_neg hc.2]
                               have hz : zThree zrr = iu (iu zrr 9 (zrr 9 - 1)) 10 ((zrr 10 + 1) % 720) := by
                                 rw [zThree, if_neg hc.1, if_neg hc.2]
                               refine k_sub (kend _ _ (by omega) ⟨_, _, _, _, _, ⟨(by repeat (first | exact hs_eq _ _ _ | refine hs_ne (by omega) ?_ | assumption)), (by repeat (first | exact hs_eq _ _ _ | refine hs_ne (by omega) ?_ | assumption)), (by repeat (first | exact hs_eq _ _ _ | refine hs_ne (by omega) ?_ | assumption)), (by repeat (first | exact hs_eq _ _ _ | refine hs_ne (by omega) ?_ | assumption)), (by repeat (first | exact hs_eq _ _ _ | refine hs_ne (by omega) ?_ | assumption))⟩, ?_⟩ (fun aaa haa => by repeat (first | rfl | refine hs_ne (by omega) ?_))) ((And.intro rfl (And.intro rfl (And.intro rfl (And.intro rfl (And.intro rfl (And.intro rfl trivial)))))))
                               rw [hz]
                               exact ((hLR.n (by decide) (by first | omega | (simp (disch := decide) only [iu_ne, iu_eq]; omega))).n (by decide) (by first | omega | (simp (disch := decide) only [iu_ne, iu_eq]; omega))))
                            | (have hc : ¬ zrr 9 = 0 ∧ zrr 63 - zrr 12 < zrr 11 ∧ ((zrr 18 + 1) % 5 = 0 ∧ zrr 12 < 20) := ⟨by omega, by omega, by omega, by omega⟩
                               have hw : ¬ zHow zrr = 0 := by rw [zHow, if_neg hc.1, if_pos hc.2.1]; decide
                               have hz : zThree zrr = iu (iu (iu zrr 9 (zrr 9 - 1)) 18 (zrr 18 + 1)) 12 (zrr 12 + 1) := by
                                 rw [zThree, if_neg hc.1, if_pos hc.2.1, if_pos hc.2.2]
                               refine k_sub (kend _ _ (by omega) ⟨_, _, _, _, _, ⟨(by repeat (first | exact hs_eq _ _ _ | refine hs_ne (by omega) ?_ | assumption)), (by repeat (first | exact hs_eq _ _ _ | refine hs_ne (by omega) ?_ | assumption)), (by repeat (first | exact hs_eq _ _ _ | refine hs_ne (by omega) ?_ | assumption)), (by repeat (first | exact hs_eq _ _ _ | refine hs_ne (by omega) ?_ | assumption)), (by repeat (first | exact hs_eq _ _ _ | refine hs_ne (by omega) ?_ | assumption))⟩, ?_⟩ (fun aaa haa => by repeat (first | rfl | refine hs_ne (by omega) ?_))) ((And.intro rfl (And.intro rfl (And.intro rfl (And.intro rfl (And.intro rfl (And.intro rfl trivial)))))))
                               rw [hz]
                               exact (((hLR.n (by decide) (by first | omega | (simp (disch := decide) only [iu_ne, iu_eq]; omega))).n (by decide) (by first | omega | (simp (disch := decide) only [iu_ne, iu_eq]; omega))).n (by decide) (by first | omega | (simp (disch := decide) only [iu_ne, iu_eq]; omega))))
                            | (have hc : ¬ zrr 9 = 0 ∧ zrr 63 - zrr 12 < zrr 11 ∧ ¬ ((zrr 18 + 1) % 5 = 0 ∧ zrr 12 < 20) := ⟨by omega, by omega, by omega⟩
                               have hw : ¬ zHow zrr = 0 := by rw [zHow, if_neg hc.1, if_pos hc.2.1]; decide
                               have hz : zThree zrr = iu (iu zrr 9 (zrr 9 - 1)) 18 (zrr 18 + 1) := by
                                 rw [zThree, if_neg hc.1, if_pos hc.2.1, if_neg hc.2.2, Int.add_zero]
                                 funext kkk
                                 simp only [iu]
                                 (repeat' split) <;> first | rfl | omega | (exfalso; omega) | (subst_vars; rfl)
                               refine k_sub (kend _ _ (by omega) ⟨_, _, _, _, _, ⟨(by repeat (first | exact hs_eq _ _ _ | refine hs_ne (by omega) ?_ | assumption)), (by repeat (first | exact hs_eq _ _ _ | refine hs_ne (by omega) ?_ | assumption)), (by repeat (first | exact hs_eq _ _ _ | refine hs_ne (by omega) ?_ | assumption)), (by repeat (first | exact hs_eq _ _ _ | refine hs_ne (by omega) ?_ | assumption)), (by repeat (first | exact hs_eq _ _ _ | refine hs_ne (by omega) ?_ | assumption))⟩, ?_⟩ (fun aaa haa => by repeat (first | rfl | refine hs_ne (by omega) ?_))) ((And.intro rfl (And.intro rfl (And.intro rfl (And.intro rfl (And.intro rfl (And.intro rfl trivial)))))))
                               rw [hz]
                               exact ((hLR.n (by decide) (by first | omega | (simp (disch := decide) only [iu_ne, iu_eq]; omega))).n (by decide) (by first | omega | (simp (disch := decide) only [iu_ne, iu_eq]; omega)))))))
              · try (exfalso; omega)
                all_goals (
                  refine k_aload_n C dL_minute_290 rfl ?_
                  refine k_iconst C dL_minute_291 ?_
                  refine k_aload_n C dL_minute_292 rfl ?_
                  refine k_iconst C dL_minute_293 ?_
                  refine k_iaload C dL_minute_294 (by repeat (first | exact hs_eq _ _ _ | refine hs_ne (by omega) ?_ | assumption)) (by omega) (by omega) (by omega) ?_
                  try simp (disch := omega) only [hs_hs, iu_ne, iu_eq]
                  refine k_iconst C dL_minute_295 ?_
                  refine k_iadd C dL_minute_296 ?_
                  refine k_sipush C dL_minute_297 (by decide +kernel) ?_
                  refine k_irem C dL_minute_300 (by omega) (by omega) (by omega) (by omega) ?_
                  refine k_iastore C dL_minute_301 (by repeat (first | exact hs_eq _ _ _ | refine hs_ne (by omega) ?_ | assumption)) (by omega) (by omega) (by omega) ?_
                  refine k_goto (tgt := 334) C dL_minute_302 (by decide) ?_
                  first
                    | (have hc : zrr 9 = 0 := by omega
                       have hw : ¬ zHow zrr = 0 := by rw [zHow, if_pos (by omega)]; omega
                       have hz : zThree zrr = iu zrr 19 (zrr 19 + 1) := by
                         exact if_pos hc
                       refine k_sub (kend _ _ (by omega) ⟨_, _, _, _, _, ⟨(by repeat (first | exact hs_eq _ _ _ | refine hs_ne (by omega) ?_ | assumption)), (by repeat (first | exact hs_eq _ _ _ | refine hs_ne (by omega) ?_ | assumption)), (by repeat (first | exact hs_eq _ _ _ | refine hs_ne (by omega) ?_ | assumption)), (by repeat (first | exact hs_eq _ _ _ | refine hs_ne (by omega) ?_ | assumption)), (by repeat (first | exact hs_eq _ _ _ | refine hs_ne (by omega) ?_ | assumption))⟩, ?_⟩ (fun aaa haa => by repeat (first | rfl | refine hs_ne (by omega) ?_))) ((And.intro rfl (And.intro rfl (And.intro rfl (And.intro rfl (And.intro rfl (And.intro rfl trivial)))))))
                       rw [hz]
                       exact (hLR.n (by decide) (by first | omega | (simp (disch := decide) only [iu_ne, iu_eq]; omega))))
                    | (have hc : ¬ zrr 9 = 0 ∧ ¬ zrr 63 - zrr 12 < zrr 11 := ⟨by omega, by omega⟩
                       have hw : zHow zrr = 0 := by rw [zHow, if_neg hc.1, if_neg hc.2]
                       have hz : zThree zrr = iu (iu zrr 9 (zrr 9 - 1)) 10 ((zrr 10 + 1) % 720) := by
                         rw [zThree, if_neg hc.1, if_neg hc.2]
                       refine k_sub (kend _ _ (by omega) ⟨_, _, _, _, _, ⟨(by repeat (first | exact hs_eq _ _ _ | refine hs_ne (by omega) ?_ | assumption)), (by repeat (first | exact hs_eq _ _ _ | refine hs_ne (by omega) ?_ | assumption)), (by repeat (first | exact hs_eq _ _ _ | refine hs_ne (by omega) ?_ | assumption)), (by repeat (first | exact hs_eq _ _ _ | refine hs_ne (by omega) ?_ | assumption)), (by repeat (first | exact hs_eq _ _ _ | refine hs_ne (by omega) ?_ | assumption))⟩, ?_⟩ (fun aaa haa => by repeat (first | rfl | refine hs_ne (by omega) ?_))) ((And.intro rfl (And.intro rfl (And.intro rfl (And.intro rfl (And.intro rfl (And.intro rfl trivial)))))))
                       rw [hz]
                       exact ((hLR.n (by decide) (by first | omega | (simp (disch := decide) only [iu_ne, iu_eq]; omega))).n (by decide) (by first | omega | (simp (disch := decide) only [iu_ne, iu_eq]; omega))))
                    | (have hc : ¬ zrr 9 = 0 ∧ zrr 63 - zrr 12 < zrr 11 ∧ ((zrr 18 + 1) % 5 = 0 ∧ zrr 12 < 20) := ⟨by omega, by omega, by omega, by omega⟩
                       have hw : ¬ zHow zrr = 0 := by rw [zHow, if_neg hc.1, if_pos hc.2.1]; decide
                       have hz : zThree zrr = iu (iu (iu zrr 9 (zrr 9 - 1)) 18 (zrr 18 + 1)) 12 (zrr 12 + 1) := by
                         rw [zThree, if_neg hc.1, if_pos hc.2.1, if_pos hc.2.2]
                       refine k_sub (kend _ _ (by omega) ⟨_, _, _, _, _, ⟨(by repeat (first | exact hs_eq _ _ _ | refine hs_ne (by omega) ?_ | assumption)), (by repeat (first | exact hs_eq _ _ _ | refine hs_ne (by omega) ?_ | assumption)), (by repeat (first | exact hs_eq _ _ _ | refine hs_ne (by omega) ?_ | assumption)), (by repeat (first | exact hs_eq _ _ _ | refine hs_ne (by omega) ?_ | assumption)), (by repeat (first | exact hs_eq _ _ _ | refine hs_ne (by omega) ?_ | assumption))⟩, ?_⟩ (fun aaa haa => by repeat (first | rfl | refine hs_ne (by omega) ?_))) ((And.intro rfl (And.intro rfl (And.intro rfl (And.intro rfl (And.intro rfl (And.intro rfl trivial)))))))
                       rw [hz]
                       exact (((hLR.n (by decide) (by first | omega | (simp (disch := decide) only [iu_ne, iu_eq]; omega))).n (by decide) (by first | omega | (simp (disch := decide) only [iu_ne, iu_eq]; omega))).n (by decide) (by first | omega | (simp (disch := decide) only [iu_ne, iu_eq]; omega))))
                    | (have hc : ¬ zrr 9 = 0 ∧ zrr 63 - zrr 12 < zrr 11 ∧ ¬ ((zrr 18 + 1) % 5 = 0 ∧ zrr 12 < 20) := ⟨by omega, by omega, by omega⟩
                       have hw : ¬ zHow zrr = 0 := by rw [zHow, if_neg hc.1, if_pos hc.2.1]; decide
                       have hz : zThree zrr = iu (iu zrr 9 (zrr 9 - 1)) 18 (zrr 18 + 1) := by
                         rw [zThree, if_neg hc.1, if_pos hc.2.1, if_neg hc.2.2, Int.add_zero]
                         funext kkk
                         simp only [iu]
                         (repeat' split) <;> first | rfl | omega | (exfalso; omega) | (subst_vars; rfl)
                       refine k_sub (kend _ _ (by omega) ⟨_, _, _, _, _, ⟨(by repeat (first | exact hs_eq _ _ _ | refine hs_ne (by omega) ?_ | assumption)), (by repeat (first | exact hs_eq _ _ _ | refine hs_ne (by omega) ?_ | assumption)), (by repeat (first | exact hs_eq _ _ _ | refine hs_ne (by omega) ?_ | assumption)), (by repeat (first | exact hs_eq _ _ _ | refine hs_ne (by omega) ?_ | assumption)), (by repeat (first | exact hs_eq _ _ _ | refine hs_ne (by omega) ?_ | assumption))⟩, ?_⟩ (fun aaa haa => by repeat (first | rfl | refine hs_ne (by omega) ?_))) ((And.intro rfl (And.intro rfl (And.intro rfl (And.intro rfl (And.intro rfl (And.intro rfl trivial)))))))
                       rw [hz]
                       exact ((hLR.n (by decide) (by first | omega | (simp (disch := decide) only [iu_ne, iu_eq]; omega))).n (by decide) (by first | omega | (simp (disch := decide) only [iu_ne, iu_eq]; omega))))))
          · try (exfalso; omega)
            all_goals (
              refine k_aload_n C dL_minute_267 rfl ?_
              refine k_bipush C dL_minute_268 (by decide +kernel) ?_
              refine k_dup2 C dL_minute_270 rfl rfl ?_
              refine k_iaload C dL_minute_271 (by repeat (first | exact hs_eq _ _ _ | refine hs_ne (by omega) ?_ | assumption)) (by omega) (by omega) (by omega) ?_
              refine k_iconst C dL_minute_272 ?_
              refine k_iadd C dL_minute_273 ?_
              refine k_iastore C dL_minute_274 (by repeat (first | exact hs_eq _ _ _ | refine hs_ne (by omega) ?_ | assumption)) (by omega) (by omega) (by omega) ?_
              refine k_goto (tgt := 334) C dL_minute_275 (by decide) ?_
              first
                | (have hc : zrr 9 = 0 := by omega
                   have hw : ¬ zHow zrr = 0 := by rw [zHow, if_pos (by omega)]; omega
                   have hz : zThree zrr = iu zrr 19 (zrr 19 + 1) := by
                     exact if_pos hc
                   refine k_sub (kend _ _ (by omega) ⟨_, _, _, _, _, ⟨(by repeat (first | exact hs_eq _ _ _ | refine hs_ne (by omega) ?_ | assumption)), (by repeat (first | exact hs_eq _ _ _ | refine hs_ne (by omega) ?_ | assumption)), (by repeat (first | exact hs_eq _ _ _ | refine hs_ne (by omega) ?_ | assumption)), (by repeat (first | exact hs_eq _ _ _ | refine hs_ne (by omega) ?_ | assumption)), (by repeat (first | exact hs_eq _ _ _ | refine hs_ne (by omega) ?_ | assumption))⟩, ?_⟩ (fun aaa haa => by repeat (first | rfl | refine hs_ne (by omega) ?_))) ((And.intro rfl (And.intro rfl (And.intro rfl (And.intro rfl (And.intro rfl (And.intro rfl trivial)))))))
                   rw [hz]
                   exact (hLR.n (by decide) (by first | omega | (simp (disch := decide) only [iu_ne, iu_eq]; omega))))
                | (have hc : ¬ zrr 9 = 0 ∧ ¬ zrr 63 - zrr 12 < zrr 11 := ⟨by omega, by omega⟩
                   have hw : zHow zrr = 0 := by rw [zHow, if_neg hc.1, if_neg hc.2]
                   have hz : zThree zrr = iu (iu zrr 9 (zrr 9 - 1)) 10 ((zrr 10 + 1) % 720) := by
                     rw [zThree, if_neg hc.1, if_neg hc.2]
                   refine k_sub (kend _ _ (by omega) ⟨_, _, _, _, _, ⟨(by repeat (first | exact hs_eq _ _ _ | refine hs_ne (by omega) ?_ | assumption)), (by repeat (first | exact hs_eq _ _ _ | refine hs_ne (by omega) ?_ | assumption)), (by repeat (first | exact hs_eq _ _ _ | refine hs_ne (by omega) ?_ | assumption)), (by repeat (first | exact hs_eq _ _ _ | refine hs_ne (by omega) ?_ | assumption)), (by repeat (first | exact hs_eq _ _ _ | refine hs_ne (by omega) ?_ | assumption))⟩, ?_⟩ (fun aaa haa => by repeat (first | rfl | refine hs_ne (by omega) ?_))) ((And.intro rfl (And.intro rfl (And.intro rfl (And.intro rfl (And.intro rfl (And.intro rfl trivial)))))))
                   rw [hz]
                   exact ((hLR.n (by decide) (by first | omega | (simp (disch := decide) only [iu_ne, iu_eq]; omega))).n (by decide) (by first | omega | (simp (disch := decide) only [iu_ne, iu_eq]; omega))))
                | (have hc : ¬ zrr 9 = 0 ∧ zrr 63 - zrr 12 < zrr 11 ∧ ((zrr 18 + 1) % 5 = 0 ∧ zrr 12 < 20) := ⟨by omega, by omega, by omega, by omega⟩
                   have hw : ¬ zHow zrr = 0 := by rw [zHow, if_neg hc.1, if_pos hc.2.1]; decide
                   have hz : zThree zrr = iu (iu (iu zrr 9 (zrr 9 - 1)) 18 (zrr 18 + 1)) 12 (zrr 12 + 1) := by
                     rw [zThree, if_neg hc.1, if_pos hc.2.1, if_pos hc.2.2]
                   refine k_sub (kend _ _ (by omega) ⟨_, _, _, _, _, ⟨(by repeat (first | exact hs_eq _ _ _ | refine hs_ne (by omega) ?_ | assumption)), (by repeat (first | exact hs_eq _ _ _ | refine hs_ne (by omega) ?_ | assumption)), (by repeat (first | exact hs_eq _ _ _ | refine hs_ne (by omega) ?_ | assumption)), (by repeat (first | exact hs_eq _ _ _ | refine hs_ne (by omega) ?_ | assumption)), (by repeat (first | exact hs_eq _ _ _ | refine hs_ne (by omega) ?_ | assumption))⟩, ?_⟩ (fun aaa haa => by repeat (first | rfl | refine hs_ne (by omega) ?_))) ((And.intro rfl (And.intro rfl (And.intro rfl (And.intro rfl (And.intro rfl (And.intro rfl trivial)))))))
                   rw [hz]
                   exact (((hLR.n (by decide) (by first | omega | (simp (disch := decide) only [iu_ne, iu_eq]; omega))).n (by decide) (by first | omega | (simp (disch := decide) only [iu_ne, iu_eq]; omega))).n (by decide) (by first | omega | (simp (disch := decide) only [iu_ne, iu_eq]; omega))))
                | (have hc : ¬ zrr 9 = 0 ∧ zrr 63 - zrr 12 < zrr 11 ∧ ¬ ((zrr 18 + 1) % 5 = 0 ∧ zrr 12 < 20) := ⟨by omega, by omega, by omega⟩
                   have hw : ¬ zHow zrr = 0 := by rw [zHow, if_neg hc.1, if_pos hc.2.1]; decide
                   have hz : zThree zrr = iu (iu zrr 9 (zrr 9 - 1)) 18 (zrr 18 + 1) := by
                     rw [zThree, if_neg hc.1, if_pos hc.2.1, if_neg hc.2.2, Int.add_zero]
                     funext kkk
                     simp only [iu]
                     (repeat' split) <;> first | rfl | omega | (exfalso; omega) | (subst_vars; rfl)
                   refine k_sub (kend _ _ (by omega) ⟨_, _, _, _, _, ⟨(by repeat (first | exact hs_eq _ _ _ | refine hs_ne (by omega) ?_ | assumption)), (by repeat (first | exact hs_eq _ _ _ | refine hs_ne (by omega) ?_ | assumption)), (by repeat (first | exact hs_eq _ _ _ | refine hs_ne (by omega) ?_ | assumption)), (by repeat (first | exact hs_eq _ _ _ | refine hs_ne (by omega) ?_ | assumption)), (by repeat (first | exact hs_eq _ _ _ | refine hs_ne (by omega) ?_ | assumption))⟩, ?_⟩ (fun aaa haa => by repeat (first | rfl | refine hs_ne (by omega) ?_))) ((And.intro rfl (And.intro rfl (And.intro rfl (And.intro rfl (And.intro rfl (And.intro rfl trivial)))))))
                   rw [hz]
                   exact ((hLR.n (by decide) (by first | omega | (simp (disch := decide) only [iu_ne, iu_eq]; omega))).n (by decide) (by first | omega | (simp (disch := decide) only [iu_ne, iu_eq]; omega))))))
      · try (exfalso; omega)
        all_goals (
          refine k_iconst C dL_minute_254 ?_
          refine k_goto (tgt := 259) C dL_minute_255 (by decide) ?_
          refine k_istore C dL_minute_259 (by decide) rfl ?_
          refine k_aload_n C dL_minute_261 rfl ?_
          refine k_iconst C dL_minute_262 ?_
          refine k_iaload C dL_minute_263 (by repeat (first | exact hs_eq _ _ _ | refine hs_ne (by omega) ?_ | assumption)) (by omega) (by omega) (by omega) ?_
          refine k_if_ne (tgt := 278) C dL_minute_264 (by decide) ⟨by omega, by omega⟩ (fun c264 => ?_) (fun c264 => ?_)
          · try (exfalso; omega)
            all_goals (
              refine k_aload_n C dL_minute_278 rfl ?_
              refine k_iconst C dL_minute_279 ?_
              refine k_dup2 C dL_minute_280 rfl rfl ?_
              refine k_iaload C dL_minute_281 (by repeat (first | exact hs_eq _ _ _ | refine hs_ne (by omega) ?_ | assumption)) (by omega) (by omega) (by omega) ?_
              refine k_iconst C dL_minute_282 ?_
              refine k_isub C dL_minute_283 ?_
              refine k_iastore C dL_minute_284 (by repeat (first | exact hs_eq _ _ _ | refine hs_ne (by omega) ?_ | assumption)) (by omega) (by omega) (by omega) ?_
              refine k_iload C dL_minute_285 rfl ?_
              refine k_if_eq (tgt := 305) C dL_minute_287 (by decide) ⟨by omega, by omega⟩ (fun c287 => ?_) (fun c287 => ?_)
              · try (exfalso; omega)
                all_goals (
                  refine k_aload_n C dL_minute_305 rfl ?_
                  refine k_bipush C dL_minute_306 (by decide +kernel) ?_
                  refine k_dup2 C dL_minute_308 rfl rfl ?_
                  refine k_iaload C dL_minute_309 (by repeat (first | exact hs_eq _ _ _ | refine hs_ne (by omega) ?_ | assumption)) (by omega) (by omega) (by omega) ?_
                  try simp (disch := omega) only [hs_hs, iu_ne, iu_eq]
                  refine k_iconst C dL_minute_310 ?_
                  refine k_iadd C dL_minute_311 ?_
                  refine k_dup_x2 C dL_minute_312 rfl rfl rfl ?_
                  refine k_iastore C dL_minute_313 (by repeat (first | exact hs_eq _ _ _ | refine hs_ne (by omega) ?_ | assumption)) (by omega) (by omega) (by omega) ?_
                  refine k_iconst C dL_minute_314 ?_
                  refine k_irem C dL_minute_315 (by omega) (by omega) (by omega) (by omega) ?_
                  refine k_if_ne (tgt := 334) C dL_minute_316 (by decide) ⟨by omega, by omega⟩ (fun c316 => ?_) (fun c316 => ?_)
                  · try (exfalso; omega)
                    all_goals (
                      first
                        | (have hc : zrr 9 = 0 := by omega
                           have hw : ¬ zHow zrr = 0 := by rw [zHow, if_pos (by omega)]; omega
                           have hz : zThree zrr = iu zrr 19 (zrr 19 + 1) := by
                             exact if_pos hc
                           refine k_sub (kend _ _ (by omega) ⟨_, _, _, _, _, ⟨(by repeat (first | exact hs_eq _ _ _ | refine hs_ne (by omega) ?_ | assumption)), (by repeat (first | exact hs_eq _ _ _ | refine hs_ne (by omega) ?_ | assumption)), (by repeat (first | exact hs_eq _ _ _ | refine hs_ne (by omega) ?_ | assumption)), (by repeat (first | exact hs_eq _ _ _ | refine hs_ne (by omega) ?_ | assumption)), (by repeat (first | exact hs_eq _ _ _ | refine hs_ne (by omega) ?_ | assumption))⟩, ?_⟩ (fun aaa haa => by repeat (first | rfl | refine hs_ne (by omega) ?_))) ((And.intro rfl (And.intro rfl (And.intro rfl (And.intro rfl (And.intro rfl (And.intro rfl trivial)))))))
                           rw [hz]
                           exact (hLR.n (by decide) (by first | omega | (simp (disch := decide) only [iu_ne, iu_eq]; omega))))
                        | (have hc : ¬ zrr 9 = 0 ∧ ¬ zrr 63 - zrr 12 < zrr 11 := ⟨by omega, by omega⟩
                           have hw : zHow zrr = 0 := by rw [zHow, if_neg hc.1, if_neg hc.2]
                           have hz : zThree zrr = iu (iu zrr 9 (zrr 9 - 1)) 10 ((zrr 10 + 1) % 720) := by
                             rw [zThree, if_neg hc.1, if_neg hc.2]
                           refine k_sub (kend _ _ (by omega) ⟨_, _, _, _, _, ⟨(by repeat (first | exact hs_eq _ _ _ | refine hs_ne (by omega) ?_ | assumption)), (by repeat (first | exact hs_eq _ _ _ | refine hs_ne (by omega) ?_ | assumption)), (by repeat (first | exact hs_eq _ _ _ | refine hs_ne (by omega) ?_ | assumption)), (by repeat (first | exact hs_eq _ _ _ | refine hs_ne (by omega) ?_ | assumption)), (by repeat (first | exact hs_eq _ _ _ | refine hs_ne (by omega) ?_ | assumption))⟩, ?_⟩ (fun aaa haa => by repeat (first | rfl | refine hs_ne (by omega) ?_))) ((And.intro rfl (And.intro rfl (And.intro rfl (And.intro rfl (And.intro rfl (And.intro rfl trivial)))))))
                           rw [hz]
                           exact ((hLR.n (by decide) (by first | omega | (simp (disch := decide) only [iu_ne, iu_eq]; omega))).n (by decide) (by first | omega | (simp (disch := decide) only [iu_ne, iu_eq]; omega))))
                        | (have hc : ¬ zrr 9 = 0 ∧ zrr 63 - zrr 12 < zrr 11 ∧ ((zrr 18 + 1) % 5 = 0 ∧ zrr 12 < 20) := ⟨by omega, by omega, by omega, by omega⟩
                           have hw : ¬ zHow zrr = 0 := by rw [zHow, if_neg hc.1, if_pos hc.2.1]; decide
                           have hz : zThree zrr = iu (iu (iu zrr 9 (zrr 9 - 1)) 18 (zrr 18 + 1)) 12 (zrr 12 + 1) := by
                             rw [zThree, if_neg hc.1, if_pos hc.2.1, if_pos hc.2.2]
                           refine k_sub (kend _ _ (by omega) ⟨_, _, _, _, _, ⟨(by repeat (first | exact hs_eq _ _ _ | refine hs_ne (by omega) ?_ | assumption)), (by repeat (first | exact hs_eq _ _ _ | refine hs_ne (by omega) ?_ | assumption)), (by repeat (first | exact hs_eq _ _ _ | refine hs_ne (by omega) ?_ | assumption)), (by repeat (first | exact hs_eq _ _ _ | refine hs_ne (by omega) ?_ | assumption)), (by repeat (first | exact hs_eq _ _ _ | refine hs_ne (by omega) ?_ | assumption))⟩, ?_⟩ (fun aaa haa => by repeat (first | rfl | refine hs_ne (by omega) ?_))) ((And.intro rfl (And.intro rfl (And.intro rfl (And.intro rfl (And.intro rfl (And.intro rfl trivial)))))))
                           rw [hz]
                           exact (((hLR.n (by decide) (by first | omega | (simp (disch := decide) only [iu_ne, iu_eq]; omega))).n (by decide) (by first | omega | (simp (disch := decide) only [iu_ne, iu_eq]; omega))).n (by decide) (by first | omega | (simp (disch := decide) only [iu_ne, iu_eq]; omega))))
                        | (have hc : ¬ zrr 9 = 0 ∧ zrr 63 - zrr 12 < zrr 11 ∧ ¬ ((zrr 18 + 1) % 5 = 0 ∧ zrr 12 < 20) := ⟨by omega, by omega, by omega⟩
                           have hw : ¬ zHow zrr = 0 := by rw [zHow, if_neg hc.1, if_pos hc.2.1]; decide
                           have hz : zThree zrr = iu (iu zrr 9 (zrr 9 - 1)) 18 (zrr 18 + 1) := by
                             rw [zThree, if_neg hc.1, if_pos hc.2.1, if_neg hc.2.2, Int.add_zero]
                             funext kkk
                             simp only [iu]
                             (repeat' split) <;> first | rfl | omega | (exfalso; omega) | (subst_vars; rfl)
                           refine k_sub (kend _ _ (by omega) ⟨_, _, _, _, _, ⟨(by repeat (first | exact hs_eq _ _ _ | refine hs_ne (by omega) ?_ | assumption)), (by repeat (first | exact hs_eq _ _ _ | refine hs_ne (by omega) ?_ | assumption)), (by repeat (first | exact hs_eq _ _ _ | refine hs_ne (by omega) ?_ | assumption)), (by repeat (first | exact hs_eq _ _ _ | refine hs_ne (by omega) ?_ | assumption)), (by repeat (first | exact hs_eq _ _ _ | refine hs_ne (by omega) ?_ | assumption))⟩, ?_⟩ (fun aaa haa => by repeat (first | rfl | refine hs_ne (by omega) ?_))) ((And.intro rfl (And.intro rfl (And.intro rfl (And.intro rfl (And.intro rfl (And.intro rfl trivial)))))))
                           rw [hz]
                           exact ((hLR.n (by decide) (by first | omega | (simp (disch := decide) only [iu_ne, iu_eq]; omega))).n (by decide) (by first | omega | (simp (disch := decide) only [iu_ne, iu_eq]; omega)))))
                  · try (exfalso; omega)
                    all_goals (
                      refine k_aload_n C dL_minute_319 rfl ?_
                      refine k_iconst C dL_minute_320 ?_
                      refine k_iaload C dL_minute_321 (by repeat (first | exact hs_eq _ _ _ | refine hs_ne (by omega) ?_ | assumption)) (by omega) (by omega) (by omega) ?_
                      try simp (disch := omega) only [hs_hs, iu_ne, iu_eq]
                      refine k_bipush C dL_minute_322 (by decide +kernel) ?_
                      refine k_icmp_ge (tgt := 334) C dL_minute_324 (by decide) ⟨by omega, by omega⟩ ⟨by omega, by omega⟩ (fun c324 => ?_) (fun c324 => ?_)
                      · try (exfalso; omega)
                        all_goals (
                          first
                            | (have hc : zrr 9 = 0 := by omega
                               have hw : ¬ zHow zrr = 0 := by rw [zHow, if_pos (by omega)]; omega
                               have hz : zThree zrr = iu zrr 19 (zrr 19 + 1) := by
                                 exact if_pos hc
                               refine k_sub (kend _ _ (by omega) ⟨_, _, _, _, _, ⟨(by repeat (first | exact hs_eq _ _ _ | refine hs_ne (by omega) ?_ | assumption)), (by repeat (first | exact hs_eq _ _ _ | refine hs_ne (by omega) ?_ | assumption)), (by repeat (first | exact hs_eq _ _ _ | refine hs_ne (by omega) ?_ | assumption)), (by repeat (first | exact hs_eq _ _ _ | refine hs_ne (by omega) ?_ | assumption)), (by repeat (first | exact hs_eq _ _ _ | refine hs_ne (by omega) ?_ | assumption))⟩, ?_⟩ (fun aaa haa => by repeat (first | rfl | refine hs_ne (by omega) ?_))) ((And.intro rfl (And.intro rfl (And.intro rfl (And.intro rfl (And.intro rfl (And.intro rfl trivial)))))))
                               rw [hz]
                               exact (hLR.n (by decide) (by first | omega | (simp (disch := decide) only [iu_ne, iu_eq]; omega))))
                            | (have hc : ¬ zrr 9 = 0 ∧ ¬ zrr 63 - zrr 12 < zrr 11 := ⟨by omega, by omega⟩
                               have hw : zHow zrr = 0 := by rw [zHow, if_neg hc.1, if_neg hc.2]
                               have hz : zThree zrr = iu (iu zrr 9 (zrr 9 - 1)) 10 ((zrr 10 + 1) % 720) := by
                                 rw [zThree, if_neg hc.1, if_neg hc.2]
                               refine k_sub (kend _ _ (by omega) ⟨_, _, _, _, _, ⟨(by repeat (first | exact hs_eq _ _ _ | refine hs_ne (by omega) ?_ | assumption)), (by repeat (first | exact hs_eq _ _ _ | refine hs_ne (by omega) ?_ | assumption)), (by repeat (first | exact hs_eq _ _ _ | refine hs_ne (by omega) ?_ | assumption)), (by repeat (first | exact hs_eq _ _ _ | refine hs_ne (by omega) ?_ | assumption)), (by repeat (first | exact hs_eq _ _ _ | refine hs_ne (by omega) ?_ | assumption))⟩, ?_⟩ (fun aaa haa => by repeat (first | rfl | refine hs_ne (by omega) ?_))) ((And.intro rfl (And.intro rfl (And.intro rfl (And.intro rfl (And.intro rfl (And.intro rfl trivial)))))))
                               rw [hz]
                               exact ((hLR.n (by decide) (by first | omega | (simp (disch := decide) only [iu_ne, iu_eq]; omega))).n (by decide) (by first | omega | (simp (disch := decide) only [iu_ne, iu_eq]; omega))))
                            | (have hc : ¬ zrr 9 = 0 ∧ zrr 63 - zrr 12 < zrr 11 ∧ ((zrr 18 + 1) % 5 = 0 ∧ zrr 12 < 20) := ⟨by omega, by omega, by omega, by omega⟩
                               have hw : ¬ zHow zrr = 0 := by rw [zHow, if_neg hc.1, if_pos hc.2.1]; decide
                               have hz : zThree zrr = iu (iu (iu zrr 9 (zrr 9 - 1)) 18 (zrr 18 + 1)) 12 (zrr 12 + 1) := by
                                 rw [zThree, if_neg hc.1, if_pos hc.2.1, if_pos hc.2.2]
                               refine k_sub (kend _ _ (by omega) ⟨_, _, _, _, _, ⟨(by repeat (first | exact hs_eq _ _ _ | refine hs_ne (by omega) ?_ | assumption)), (by repeat (first | exact hs_eq _ _ _ | refine hs_ne (by omega) ?_ | assumption)), (by repeat (first | exact hs_eq _ _ _ | refine hs_ne (by omega) ?_ | assumption)), (by repeat (first | exact hs_eq _ _ _ | refine hs_ne (by omega) ?_ | assumption)), (by repeat (first | exact hs_eq _ _ _ | refine hs_ne (by omega) ?_ | assumption))⟩, ?_⟩ (fun aaa haa => by repeat (first | rfl | refine hs_ne (by omega) ?_))) ((And.intro rfl (And.intro rfl (And.intro rfl (And.intro rfl (And.intro rfl (And.intro rfl trivial)))))))
                               rw [hz]
                               exact (((hLR.n (by decide) (by first | omega | (simp (disch := decide) only [iu_ne, iu_eq]; omega))).n (by decide) (by first | omega | (simp (disch := decide) only [iu_ne, iu_eq]; omega))).n (by decide) (by first | omega | (simp (disch := decide) only [iu_ne, iu_eq]; omega))))
                            | (have hc : ¬ zrr 9 = 0 ∧ zrr 63 - zrr 12 < zrr 11 ∧ ¬ ((zrr 18 + 1) % 5 = 0 ∧ zrr 12 < 20) := ⟨by omega, by omega, by omega⟩
                               have hw : ¬ zHow zrr = 0 := by rw [zHow, if_neg hc.1, if_pos hc.2.1]; decide
                               have hz : zThree zrr = iu (iu zrr 9 (zrr 9 - 1)) 18 (zrr 18 + 1) := by
                                 rw [zThree, if_neg hc.1, if_pos hc.2.1, if_neg hc.2.2, Int.add_zero]
                                 funext kkk
                                 simp only [iu]
                                 (repeat' split) <;> first | rfl | omega | (exfalso; omega) | (subst_vars; rfl)
                               refine k_sub (kend _ _ (by omega) ⟨_, _, _, _, _, ⟨(by repeat (first | exact hs_eq _ _ _ | refine hs_ne (by omega) ?_ | assumption)), (by repeat (first | exact hs_eq _ _ _ | refine hs_ne (by omega) ?_ | assumption)), (by repeat (first | exact hs_eq _ _ _ | refine hs_ne (by omega) ?_ | assumption)), (by repeat (first | exact hs_eq _ _ _ | refine hs_ne (by omega) ?_ | assumption)), (by repeat (first | exact hs_eq _ _ _ | refine hs_ne (by omega) ?_ | assumption))⟩, ?_⟩ (fun aaa haa => by repeat (first | rfl | refine hs_ne (by omega) ?_))) ((And.intro rfl (And.intro rfl (And.intro rfl (And.intro rfl (And.intro rfl (And.intro rfl trivial)))))))
                               rw [hz]
                               exact ((hLR.n (by decide) (by first | omega | (simp (disch := decide) only [iu_ne, iu_eq]; omega))).n (by decide) (by first | omega | (simp (disch := decide) only [iu_ne, iu_eq]; omega)))))
                      · try (exfalso; omega)
                        all_goals (
                          refine k_aload_n C dL_minute_327 rfl ?_
                          refine k_iconst C dL_minute_328 ?_
                          refine k_dup2 C dL_minute_329 rfl rfl ?_
                          refine k_iaload C dL_minute_330 (by repeat (first | exact hs_eq _ _ _ | refine hs_ne (by omega) ?_ | assumption)) (by omega) (by omega) (by omega) ?_
                          try simp (disch := omega) only [hs_hs, iu_ne, iu_eq]
                          refine k_iconst C dL_minute_331 ?_
                          refine k_iadd C dL_minute_332 ?_
                          refine k_iastore C dL_minute_333 (by repeat (first | exact hs_eq _ _ _ | refine hs_ne (by omega) ?_ | assumption)) (by omega) (by omega) (by omega) ?_
                          first
                            | (have hc : zrr 9 = 0 := by omega
                               have hw : ¬ zHow zrr = 0 := by rw [zHow, if_pos (by omega)]; omega
                               have hz : zThree zrr = iu zrr 19 (zrr 19 + 1) := by
                                 exact if_pos hc
                               refine k_sub (kend _ _ (by omega) ⟨_, _, _, _, _, ⟨(by repeat (first | exact hs_eq _ _ _ | refine hs_ne (by omega) ?_ | assumption)), (by repeat (first | exact hs_eq _ _ _ | refine hs_ne (by omega) ?_ | assumption)), (by repeat (first | exact hs_eq _ _ _ | refine hs_ne (by omega) ?_ | assumption)), (by repeat (first | exact hs_eq _ _ _ | refine hs_ne (by omega) ?_ | assumption)), (by repeat (first | exact hs_eq _ _ _ | refine hs_ne (by omega) ?_ | assumption))⟩, ?_⟩ (fun aaa haa => by repeat (first | rfl | refine hs_ne (by omega) ?_))) ((And.intro rfl (And.intro rfl (And.intro rfl (And.intro rfl (And.intro rfl (And.intro rfl trivial)))))))
                               rw [hz]
                               exact (hLR.n (by decide) (by first | omega | (simp (disch := decide) only [iu_ne, iu_eq]; omega))))
                            | (have hc : ¬ zrr 9 = 0 ∧ ¬ zrr 63 - zrr 12 < zrr 11 := ⟨by omega, by omega⟩
                               have hw : zHow zrr = 0 := by rw [zHow, if_neg hc.1, if_neg hc.2]
                               have hz : zThree zrr = iu (iu zrr 9 (zrr 9 - 1)) 10 ((zrr 10 + 1) % 720) := by
                                 rw [zThree, if_neg hc.1, if_neg hc.2]
                               refine k_sub (kend _ _ (by omega) ⟨_, _, _, _, _, ⟨(by repeat (first | exact hs_eq _ _ _ | refine hs_ne (by omega) ?_ | assumption)), (by repeat (first | exact hs_eq _ _ _ | refine hs_ne (by omega) ?_ | assumption)), (by repeat (first | exact hs_eq _ _ _ | refine hs_ne (by omega) ?_ | assumption)), (by repeat (first | exact hs_eq _ _ _ | refine hs_ne (by omega) ?_ | assumption)), (by repeat (first | exact hs_eq _ _ _ | refine hs_ne (by omega) ?_ | assumption))⟩, ?_⟩ (fun aaa haa => by repeat (first | rfl | refine hs_ne (by omega) ?_))) ((And.intro rfl (And.intro rfl (And.intro rfl (And.intro rfl (And.intro rfl (And.intro rfl trivial)))))))
                               rw [hz]
                               exact ((hLR.n (by decide) (by first | omega | (simp (disch := decide) only [iu_ne, iu_eq]; omega))).n (by decide) (by first | omega | (simp (disch := decide) only [iu_ne, iu_eq]; omega))))
                            | (have hc : ¬ zrr 9 = 0 ∧ zrr 63 - zrr 12 < zrr 11 ∧ ((zrr 18 + 1) % 5 = 0 ∧ zrr 12 < 20) := ⟨by omega, by omega, by omega, by omega⟩
                               have hw : ¬ zHow zrr = 0 := by rw [zHow, if_neg hc.1, if_pos hc.2.1]; decide
                               have hz : zThree zrr = iu (iu (iu zrr 9 (zrr 9 - 1)) 18 (zrr 18 + 1)) 12 (zrr 12 + 1) := by
                                 rw [zThree, if_neg hc.1, if_pos hc.2.1, if_pos hc.2.2]
                               refine k_sub (kend _ _ (by omega) ⟨_, _, _, _, _, ⟨(by repeat (first | exact hs_eq _ _ _ | refine hs_ne (by omega) ?_ | assumption)), (by repeat (first | exact hs_eq _ _ _ | refine hs_ne (by omega) ?_ | assumption)), (by repeat (first | exact hs_eq _ _ _ | refine hs_ne (by omega) ?_ | assumption)), (by repeat (first | exact hs_eq _ _ _ | refine hs_ne (by omega) ?_ | assumption)), (by repeat (first | exact hs_eq _ _ _ | refine hs_ne (by omega) ?_ | assumption))⟩, ?_⟩ (fun aaa haa => by repeat (first | rfl | refine hs_ne (by omega) ?_))) ((And.intro rfl (And.intro rfl (And.intro rfl (And.intro rfl (And.intro rfl (And.intro rfl trivial)))))))
                               rw [hz]
                               exact (((hLR.n (by decide) (by first | omega | (simp (disch := decide) only [iu_ne, iu_eq]; omega))).n (by decide) (by first | omega | (simp (disch := decide) only [iu_ne, iu_eq]; omega))).n (by decide) (by first | omega | (simp (disch := decide) only [iu_ne, iu_eq]; omega))))
                            | (have hc : ¬ zrr 9 = 0 ∧ zrr 63 - zrr 12 < zrr 11 ∧ ¬ ((zrr 18 + 1) % 5 = 0 ∧ zrr 12 < 20) := ⟨by omega, by omega, by omega⟩
                               have hw : ¬ zHow zrr = 0 := by rw [zHow, if_neg hc.1, if_pos hc.2.1]; decide
                               have hz : zThree zrr = iu (iu zrr 9 (zrr 9 - 1)) 18 (zrr 18 + 1) := by
                                 rw [zThree, if_neg hc.1, if_pos hc.2.1, if_neg hc.2.2, Int.add_zero]
                                 funext kkk
                                 simp only [iu]
                                 (repeat' split) <;> first | rfl | omega | (exfalso; omega) | (subst_vars; rfl)
                               refine k_sub (kend _ _ (by omega) ⟨_, _, _, _, _, ⟨(by repeat (first | exact hs_eq _ _ _ | refine hs_ne (by omega) ?_ | assumption)), (by repeat (first | exact hs_eq _ _ _ | refine hs_ne (by omega) ?_ | assumption)), (by repeat (first | exact hs_eq _ _ _ | refine hs_ne (by omega) ?_ | assumption)), (by repeat (first | exact hs_eq _ _ _ | refine hs_ne (by omega) ?_ | assumption)), (by repeat (first | exact hs_eq _ _ _ | refine hs_ne (by omega) ?_ | assumption))⟩, ?_⟩ (fun aaa haa => by repeat (first | rfl | refine hs_ne (by omega) ?_))) ((And.intro rfl (And.intro rfl (And.intro rfl (And.intro rfl (And.intro rfl (And.intro rfl trivial)))))))
                               rw [hz]
                               exact ((hLR.n (by decide) (by first | omega | (simp (disch := decide) only [iu_ne, iu_eq]; omega))).n (by decide) (by first | omega | (simp (disch := decide) only [iu_ne, iu_eq]; omega)))))))
              · try (exfalso; omega)
                all_goals (
                  refine k_aload_n C dL_minute_290 rfl ?_
                  refine k_iconst C dL_minute_291 ?_
                  refine k_aload_n C dL_minute_292 rfl ?_
                  refine k_iconst C dL_minute_293 ?_
                  refine k_iaload C dL_minute_294 (by repeat (first | exact hs_eq _ _ _ | refine hs_ne (by omega) ?_ | assumption)) (by omega) (by omega) (by omega) ?_
                  try simp (disch := omega) only [hs_hs, iu_ne, iu_eq]
                  refine k_iconst C dL_minute_295 ?_
                  refine k_iadd C dL_minute_296 ?_
                  refine k_sipush C dL_minute_297 (by decide +kernel) ?_
                  refine k_irem C dL_minute_300 (by omega) (by omega) (by omega) (by omega) ?_
                  refine k_iastore C dL_minute_301 (by repeat (first | exact hs_eq _ _ _ | refine hs_ne (by omega) ?_ | assumption)) (by omega) (by omega) (by omega) ?_
                  refine k_goto (tgt := 334) C dL_minute_302 (by decide) ?_
                  first
                    | (have hc : zrr 9 = 0 := by omega
                       have hw : ¬ zHow zrr = 0 := by rw [zHow, if_pos (by omega)]; omega
                       have hz : zThree zrr = iu zrr 19 (zrr 19 + 1) := by
                         exact if_pos hc
                       refine k_sub (kend _ _ (by omega) ⟨_, _, _, _, _, ⟨(by repeat (first | exact hs_eq _ _ _ | refine hs_ne (by omega) ?_ | assumption)), (by repeat (first | exact hs_eq _ _ _ | refine hs_ne (by omega) ?_ | assumption)), (by repeat (first | exact hs_eq _ _ _ | refine hs_ne (by omega) ?_ | assumption)), (by repeat (first | exact hs_eq _ _ _ | refine hs_ne (by omega) ?_ | assumption)), (by repeat (first | exact hs_eq _ _ _ | refine hs_ne (by omega) ?_ | assumption))⟩, ?_⟩ (fun aaa haa => by repeat (first | rfl | refine hs_ne (by omega) ?_))) ((And.intro rfl (And.intro rfl (And.intro rfl (And.intro rfl (And.intro rfl (And.intro rfl trivial)))))))
                       rw [hz]
                       exact (hLR.n (by decide) (by first | omega | (simp (disch := decide) only [iu_ne, iu_eq]; omega))))
                    | (have hc : ¬ zrr 9 = 0 ∧ ¬ zrr 63 - zrr 12 < zrr 11 := ⟨by omega, by omega⟩
                       have hw : zHow zrr = 0 := by rw [zHow, if_neg hc.1, if_neg hc.2]
                       have hz : zThree zrr = iu (iu zrr 9 (zrr 9 - 1)) 10 ((zrr 10 + 1) % 720) := by
                         rw [zThree, if_neg hc.1, if_neg hc.2]
                       refine k_sub (kend _ _ (by omega) ⟨_, _, _, _, _, ⟨(by repeat (first | exact hs_eq _ _ _ | refine hs_ne (by omega) ?_ | assumption)), (by repeat (first | exact hs_eq _ _ _ | refine hs_ne (by omega) ?_ | assumption)), (by repeat (first | exact hs_eq _ _ _ | refine hs_ne (by omega) ?_ | assumption)), (by repeat (first | exact hs_eq _ _ _ | refine hs_ne (by omega) ?_ | assumption)), (by repeat (first | exact hs_eq _ _ _ | refine hs_ne (by omega) ?_ | assumption))⟩, ?_⟩ (fun aaa haa => by repeat (first | rfl | refine hs_ne (by omega) ?_))) ((And.intro rfl (And.intro rfl (And.intro rfl (And.intro rfl (And.intro rfl (And.intro rfl trivial)))))))
                       rw [hz]
                       exact ((hLR.n (by decide) (by first | omega | (simp (disch := decide) only [iu_ne, iu_eq]; omega))).n (by decide) (by first | omega | (simp (disch := decide) only [iu_ne, iu_eq]; omega))))
                    | (have hc : ¬ zrr 9 = 0 ∧ zrr 63 - zrr 12 < zrr 11 ∧ ((zrr 18 + 1) % 5 = 0 ∧ zrr 12 < 20) := ⟨by omega, by omega, by omega, by omega⟩
                       have hw : ¬ zHow zrr = 0 := by rw [zHow, if_neg hc.1, if_pos hc.2.1]; decide
                       have hz : zThree zrr = iu (iu (iu zrr 9 (zrr 9 - 1)) 18 (zrr 18 + 1)) 12 (zrr 12 + 1) := by
                         rw [zThree, if_neg hc.1, if_pos hc.2.1, if_pos hc.2.2]
                       refine k_sub (kend _ _ (by omega) ⟨_, _, _, _, _, ⟨(by repeat (first | exact hs_eq _ _ _ | refine hs_ne (by omega) ?_ | assumption)), (by repeat (first | exact hs_eq _ _ _ | refine hs_ne (by omega) ?_ | assumption)), (by repeat (first | exact hs_eq _ _ _ | refine hs_ne (by omega) ?_ | assumption)), (by repeat (first | exact hs_eq _ _ _ | refine hs_ne (by omega) ?_ | assumption)), (by repeat (first | exact hs_eq _ _ _ | refine hs_ne (by omega) ?_ | assumption))⟩, ?_⟩ (fun aaa haa => by repeat (first | rfl | refine hs_ne (by omega) ?_))) ((And.intro rfl (And.intro rfl (And.intro rfl (And.intro rfl (And.intro rfl (And.intro rfl trivial)))))))
                       rw [hz]
                       exact (((hLR.n (by decide) (by first | omega | (simp (disch := decide) only [iu_ne, iu_eq]; omega))).n (by decide) (by first | omega | (simp (disch := decide) only [iu_ne, iu_eq]; omega))).n (by decide) (by first | omega | (simp (disch := decide) only [iu_ne, iu_eq]; omega))))
                    | (have hc : ¬ zrr 9 = 0 ∧ zrr 63 - zrr 12 < zrr 11 ∧ ¬ ((zrr 18 + 1) % 5 = 0 ∧ zrr 12 < 20) := ⟨by omega, by omega, by omega⟩
                       have hw : ¬ zHow zrr = 0 := by rw [zHow, if_neg hc.1, if_pos hc.2.1]; decide
                       have hz : zThree zrr = iu (iu zrr 9 (zrr 9 - 1)) 18 (zrr 18 + 1) := by
                         rw [zThree, if_neg hc.1, if_pos hc.2.1, if_neg hc.2.2, Int.add_zero]
                         funext kkk
                         simp only [iu]
                         (repeat' split) <;> first | rfl | omega | (exfalso; omega) | (subst_vars; rfl)
                       refine k_sub (kend _ _ (by omega) ⟨_, _, _, _, _, ⟨(by repeat (first | exact hs_eq _ _ _ | refine hs_ne (by omega) ?_ | assumption)), (by repeat (first | exact hs_eq _ _ _ | refine hs_ne (by omega) ?_ | assumption)), (by repeat (first | exact hs_eq _ _ _ | refine hs_ne (by omega) ?_ | assumption)), (by repeat (first | exact hs_eq _ _ _ | refine hs_ne (by omega) ?_ | assumption)), (by repeat (first | exact hs_eq _ _ _ | refine hs_ne (by omega) ?_ | assumption))⟩, ?_⟩ (fun aaa haa => by repeat (first | rfl | refine hs_ne (by omega) ?_))) ((And.intro rfl (And.intro rfl (And.intro rfl (And.intro rfl (And.intro rfl (And.intro rfl trivial)))))))
                       rw [hz]
                       exact ((hLR.n (by decide) (by first | omega | (simp (disch := decide) only [iu_ne, iu_eq]; omega))).n (by decide) (by first | omega | (simp (disch := decide) only [iu_ne, iu_eq]; omega))))))
          · try (exfalso; omega)
            all_goals (
              refine k_aload_n C dL_minute_267 rfl ?_
              refine k_bipush C dL_minute_268 (by decide +kernel) ?_
              refine k_dup2 C dL_minute_270 rfl rfl ?_
              refine k_iaload C dL_minute_271 (by repeat (first | exact hs_eq _ _ _ | refine hs_ne (by omega) ?_ | assumption)) (by omega) (by omega) (by omega) ?_
              refine k_iconst C dL_minute_272 ?_
              refine k_iadd C dL_minute_273 ?_
              refine k_iastore C dL_minute_274 (by repeat (first | exact hs_eq _ _ _ | refine hs_ne (by omega) ?_ | assumption)) (by omega) (by omega) (by omega) ?_
              refine k_goto (tgt := 334) C dL_minute_275 (by decide) ?_
              first
                | (have hc : zrr 9 = 0 := by omega
                   have hw : ¬ zHow zrr = 0 := by rw [zHow, if_pos (by omega)]; omega
                   have hz : zThree zrr = iu zrr 19 (zrr 19 + 1) := by
                     exact if_pos hc
                   refine k_sub (kend _ _ (by omega) ⟨_, _, _, _, _, ⟨(by repeat (first | exact hs_eq _ _ _ | refine hs_ne (by omega) ?_ | assumption)), (by repeat (first | exact hs_eq _ _ _ | refine hs_ne (by omega) ?_ | assumption)), (by repeat (first | exact hs_eq _ _ _ | refine hs_ne (by omega) ?_ | assumption)), (by repeat (first | exact hs_eq _ _ _ | refine hs_ne (by omega) ?_ | assumption)), (by repeat (first | exact hs_eq _ _ _ | refine hs_ne (by omega) ?_ | assumption))⟩, ?_⟩ (fun aaa haa => by repeat (first | rfl | refine hs_ne (by omega) ?_))) ((And.intro rfl (And.intro rfl (And.intro rfl (And.intro rfl (And.intro rfl (And.intro rfl trivial)))))))
                   rw [hz]
                   exact (hLR.n (by decide) (by first | omega | (simp (disch := decide) only [iu_ne, iu_eq]; omega))))
                | (have hc : ¬ zrr 9 = 0 ∧ ¬ zrr 63 - zrr 12 < zrr 11 := ⟨by omega, by omega⟩
                   have hw : zHow zrr = 0 := by rw [zHow, if_neg hc.1, if_neg hc.2]
                   have hz : zThree zrr = iu (iu zrr 9 (zrr 9 - 1)) 10 ((zrr 10 + 1) % 720) := by
                     rw [zThree, if_neg hc.1, if_neg hc.2]
                   refine k_sub (kend _ _ (by omega) ⟨_, _, _, _, _, ⟨(by repeat (first | exact hs_eq _ _ _ | refine hs_ne (by omega) ?_ | assumption)), (by repeat (first | exact hs_eq _ _ _ | refine hs_ne (by omega) ?_ | assumption)), (by repeat (first | exact hs_eq _ _ _ | refine hs_ne (by omega) ?_ | assumption)), (by repeat (first | exact hs_eq _ _ _ | refine hs_ne (by omega) ?_ | assumption)), (by repeat (first | exact hs_eq _ _ _ | refine hs_ne (by omega) ?_ | assumption))⟩, ?_⟩ (fun aaa haa => by repeat (first | rfl | refine hs_ne (by omega) ?_))) ((And.intro rfl (And.intro rfl (And.intro rfl (And.intro rfl (And.intro rfl (And.intro rfl trivial)))))))
                   rw [hz]
                   exact ((hLR.n (by decide) (by first | omega | (simp (disch := decide) only [iu_ne, iu_eq]; omega))).n (by decide) (by first | omega | (simp (disch := decide) only [iu_ne, iu_eq]; omega))))
                | (have hc : ¬ zrr 9 = 0 ∧ zrr 63 - zrr 12 < zrr 11 ∧ ((zrr 18 + 1) % 5 = 0 ∧ zrr 12 < 20) := ⟨by omega, by omega, by omega, by omega⟩
                   have hw : ¬ zHow zrr = 0 := by rw [zHow, if_neg hc.1, if_pos hc.2.1]; decide
                   have hz : zThree zrr = iu (iu (iu zrr 9 (zrr 9 - 1)) 18 (zrr 18 + 1)) 12 (zrr 12 + 1) := by
                     rw [zThree, if_neg hc.1, if_pos hc.2.1, if_pos hc.2.2]
                   refine k_sub (kend _ _ (by omega) ⟨_, _, _, _, _, ⟨(by repeat (first | exact hs_eq _ _ _ | refine hs_ne (by omega) ?_ | assumption)), (by repeat (first | exact hs_eq _ _ _ | refine hs_ne (by omega) ?_ | assumption)), (by repeat (first | exact hs_eq _ _ _ | refine hs_ne (by omega) ?_ | assumption)), (by repeat (first | exact hs_eq _ _ _ | refine hs_ne (by omega) ?_ | assumption)), (by repeat (first | exact hs_eq _ _ _ | refine hs_ne (by omega) ?_ | assumption))⟩, ?_⟩ (fun aaa haa => by repeat (first | rfl | refine hs_ne (by omega) ?_))) ((And.intro rfl (And.intro rfl (And.intro rfl (And.intro rfl (And.intro rfl (And.intro rfl trivial)))))))
                   rw [hz]
                   exact (((hLR.n (by decide) (by first | omega | (simp (disch := decide) only [iu_ne, iu_eq]; omega))).n (by decide) (by first | omega | (simp (disch := decide) only [iu_ne, iu_eq]; omega))).n (by decide) (by first | omega | (simp (disch := decide) only [iu_ne, iu_eq]; omega))))
                | (have hc : ¬ zrr 9 = 0 ∧ zrr 63 - zrr 12 < zrr 11 ∧ ¬ ((zrr 18 + 1) % 5 = 0 ∧ zrr 12 < 20) := ⟨by omega, by omega, by omega⟩
                   have hw : ¬ zHow zrr = 0 := by rw [zHow, if_neg hc.1, if_pos hc.2.1]; decide
                   have hz : zThree zrr = iu (iu zrr 9 (zrr 9 - 1)) 18 (zrr 18 + 1) := by
                     rw [zThree, if_neg hc.1, if_pos hc.2.1, if_neg hc.2.2, Int.add_zero]
                     funext kkk
                     simp only [iu]
                     (repeat' split) <;> first | rfl | omega | (exfalso; omega) | (subst_vars; rfl)
                   refine k_sub (kend _ _ (by omega) ⟨_, _, _, _, _, ⟨(by repeat (first | exact hs_eq _ _ _ | refine hs_ne (by omega) ?_ | assumption)), (by repeat (first | exact hs_eq _ _ _ | refine hs_ne (by omega) ?_ | assumption)), (by repeat (first | exact hs_eq _ _ _ | refine hs_ne (by omega) ?_ | assumption)), (by repeat (first | exact hs_eq _ _ _ | refine hs_ne (by omega) ?_ | assumption)), (by repeat (first | exact hs_eq _ _ _ | refine hs_ne (by omega) ?_ | assumption))⟩, ?_⟩ (fun aaa haa => by repeat (first | rfl | refine hs_ne (by omega) ?_))) ((And.intro rfl (And.intro rfl (And.intro rfl (And.intro rfl (And.intro rfl (And.intro rfl trivial)))))))
                   rw [hz]
                   exact ((hLR.n (by decide) (by first | omega | (simp (disch := decide) only [iu_ne, iu_eq]; omega))).n (by decide) (by first | omega | (simp (disch := decide) only [iu_ne, iu_eq]; omega)))))))
