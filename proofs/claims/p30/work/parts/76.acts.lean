set_option maxRecDepth 20000 in
set_option maxHeartbeats 1000000 in
theorem ct_L_winders (l : Launch) (D : va_G) (tc : Nat → ClassId) (base : Nat) (rc an : Nat) (zrr hhi htx : Int → Int) (st ln kc : Int) (hpp : AH) (hX : XA hpp rc zrr hhi htx st ln) (hA : LA hpp an zrr kc) (hdj : rc + 127 ≤ an) (xx yy : Int) : CT l D tc base yL_winders cL_winders 7 (some .boolean) 5 [aR rc, aI xx, aI yy, aR an, aR (an + 3)] hpp (fun r h' => ∃ zn hin : Int → Int, r = some (aI 1) ∧ XA h' rc zn hin htx (sSt st) ln ∧ LA h' an zn kc ∧ zn 13 = zrr 13) := by
  refine CT.of [some (aR rc), some (aI xx), some (aI yy), some (aR an), some (aR (an + 3)), none, none] (by decide +kernel) rfl (Nat.le_of_ble_eq_true rfl) ?_
  intro p e s m args below meth c C hr hnm
  obtain ⟨⟨xfs, x0⟩, hok, h13x, hst⟩ := hX.fx
  have hi := hok.1
  obtain ⟨nu, hh, se, wi, de, ⟨y0, y1, y2, y3, y4⟩, hLR⟩ := id hA
  obtain ⟨⟨e0, e1, e2, e3, e4, e5, e6, e7, e8, e9, e10, e11, e12, e13, e14⟩, eh, es, ew, ed⟩ := id hLR
  obtain ⟨⟨g0, g1, g2, g9, g10, g11, g12, g13, g21, g52, g61, g62, g63, g64, g65, g66⟩, hwi, hde⟩ := id hi
  refine k_aload_n C dL_winders_0 rfl ?_
  refine k_bipush C dL_winders_1 (by decide +kernel) ?_
  refine k_iaload C dL_winders_3 (by repeat (first | exact hs_eq _ _ _ | refine hs_ne (by omega) ?_ | assumption)) (by omega) (by omega) (by omega) ?_
  refine k_bipush C dL_winders_4 (by decide +kernel) ?_
  refine k_icmp_eq (tgt := 24) C dL_winders_6 (by decide) ⟨by omega, by omega⟩ ⟨by omega, by omega⟩ (fun c6 => ?_) (fun c6 => ?_)
  · try (exfalso; omega)
    all_goals (
      refine k_iload_n C dL_winders_24 rfl ?_
      refine k_aload_n C dL_winders_25 rfl ?_
      refine k_bipush C dL_winders_26 (by decide +kernel) ?_
      refine k_iaload C dL_winders_28 (by repeat (first | exact hs_eq _ _ _ | refine hs_ne (by omega) ?_ | assumption)) (by omega) (by omega) (by omega) ?_
      refine k_callS C (n := 2) (as := [_, _]) (ct_L_at l D tc base _ _ _ (by omega)) ml_L_26 sm_L_at ini_L co_L_at ⟨by decide, by decide, by decide +kernel⟩ rfl ⟨by decide, by decide⟩ rfl (Nat.le_of_ble_eq_true rfl) ⟨Nat.zero_le _, Nat.zero_le _⟩ dL_winders_29 ?_
      rintro _ _ ⟨⟨v29, rfl, p29, q29⟩, rfl⟩
      refine k_istore C dL_winders_32 (by decide) rfl ?_
      refine k_iconst C dL_winders_34 ?_
      refine k_iload C dL_winders_35 rfl ?_
      refine k_imul C dL_winders_37 ?_
      refine k_istore C dL_winders_38 (by decide) rfl ?_
      have loop40 : ∀ (n : Nat) (kk : Int), 5 * v29 ≤ kk → kk ≤ 5 * nu 12 - 5 → 5 * nu 12 - 5 - kk < (n : Int) → Wk D tc base 7 p l e (lvR 5) s m args below meth c 0 0 (MQ below (Qx D tc base (fun r h' => ∃ zn hin : Int → Int, r = some (aI 1) ∧ XA h' rc zn hin htx (sSt st) ln ∧ LA h' an zn kc ∧ zn 13 = zrr 13)) args s 0 0 (fun q => base ≤ q)) 40 [some (aR rc), some (aI xx), some (aI yy), some (aR an), some (aR (an + 3)), some (aI v29), some (aI kk)] [] (hs hpp (an + 3) (eA 0 30 (dWi wi (5 * v29) kk))) := by
        intro n
        induction n with
        | zero =>
          intro kk k0 k1 hmu
          exfalso
          omega
        | succ n ih =>
          intro kk k0 k1 hmu
          refine k_iload C dL_winders_40 rfl ?_
          refine k_iconst C dL_winders_42 ?_
          refine k_aload_n C dL_winders_43 rfl ?_
          refine k_bipush C dL_winders_44 (by decide +kernel) ?_
          refine k_iaload C dL_winders_46 (by repeat (first | exact hs_eq _ _ _ | refine hs_ne (by omega) ?_ | assumption)) (by omega) (by omega) (by omega) ?_
          try simp (disch := omega) only [hs_hs, iu_ne, iu_eq]
          refine k_imul C dL_winders_47 ?_
          refine k_iconst C dL_winders_48 ?_
          refine k_isub C dL_winders_49 ?_
          refine k_icmp_ge (tgt := 71) C dL_winders_50 (by decide) ⟨by omega, by omega⟩ ⟨by omega, by omega⟩ (fun c50 => ?_) (fun c50 => ?_)
          · try (exfalso; omega)
            all_goals (
              refine k_aload_n C dL_winders_71 rfl ?_
              refine k_bipush C dL_winders_72 (by decide +kernel) ?_
              refine k_dup2 C dL_winders_74 rfl rfl ?_
              refine k_iaload C dL_winders_75 (by repeat (first | exact hs_eq _ _ _ | refine hs_ne (by omega) ?_ | assumption)) (by omega) (by omega) (by omega) ?_
              try simp (disch := omega) only [hs_hs, iu_ne, iu_eq]
              refine k_iconst C dL_winders_76 ?_
              refine k_isub C dL_winders_77 ?_
              refine k_iastore C dL_winders_78 (by repeat (first | exact hs_eq _ _ _ | refine hs_ne (by omega) ?_ | assumption)) (by omega) (by omega) (by omega) ?_
              refine k_aload_n C dL_winders_79 rfl ?_
              refine k_iload C dL_winders_80 rfl ?_
              refine k_callV C (n := 1) (as := [_]) (ct_X7_dismiss l D tc base rc _ _ _ _ _ _ (hX.fr (fun aaa a0 a1 => by repeat (first | rfl | refine hs_ne (by omega) ?_))) _ (by omega)) ml_L_51 im_X7_dismiss se_X7_dismiss ini_X7 co_X7_dismiss ⟨rfl, by decide, by decide, by decide +kernel⟩ rfl (ci := 7) rfl (by repeat (first | exact hs_eq _ _ _ | refine hs_ne (by omega) ?_ | assumption)) ⟨by decide, by decide⟩ rfl (Nat.le_of_ble_eq_true rfl) ⟨Nat.zero_le _, Nat.zero_le _⟩ dL_winders_82 ?_
              rintro _ hw ⟨rfl, hXw, hFw⟩
              refine k_aload_n C dL_winders_85 rfl ?_
              refine k_bipush C dL_winders_86 (by decide +kernel) ?_
              refine k_iaload C dL_winders_88 ((hFw _ (by omega)).trans (by repeat (first | exact hs_eq _ _ _ | refine hs_ne (by omega) ?_ | assumption))) (by omega) (by omega) (by omega) ?_
              try simp (disch := omega) only [hs_hs, iu_ne, iu_eq]
              refine k_icmp_neE (tgt := 96) C dL_winders_89 (by decide) (by omega) ?_
              refine k_iconst C dL_winders_92 ?_
              refine k_goto (tgt := 97) C dL_winders_93 (by decide) ?_
              refine k_zret C hr dL_winders_97 (by omega) ?_
              exact ⟨_, _, rfl, hXw, ⟨_, _, _, _, _, ⟨((hFw _ (by omega)).trans (by repeat (first | exact hs_eq _ _ _ | refine hs_ne (by omega) ?_ | assumption))), ((hFw _ (by omega)).trans (by repeat (first | exact hs_eq _ _ _ | refine hs_ne (by omega) ?_ | assumption))), ((hFw _ (by omega)).trans (by repeat (first | exact hs_eq _ _ _ | refine hs_ne (by omega) ?_ | assumption))), ((hFw _ (by omega)).trans (by repeat (first | exact hs_eq _ _ _ | refine hs_ne (by omega) ?_ | assumption))), ((hFw _ (by omega)).trans (by repeat (first | exact hs_eq _ _ _ | refine hs_ne (by omega) ?_ | assumption)))⟩, hLR.dis (by omega) (by omega) rfl (by omega)⟩, (zDisK_ne (by omega) (by omega))⟩)
          · try (exfalso; omega)
            all_goals (
              refine k_aload C dL_winders_53 rfl ?_
              refine k_iload C dL_winders_55 rfl ?_
              refine k_aload C dL_winders_57 rfl ?_
              refine k_iload C dL_winders_59 rfl ?_
              refine k_iconst C dL_winders_61 ?_
              refine k_iadd C dL_winders_62 ?_
              refine k_iaload C dL_winders_63 (by repeat (first | exact hs_eq _ _ _ | refine hs_ne (by omega) ?_ | assumption)) (by omega) (by omega) (by omega) ?_
              try simp (disch := omega) only [hs_hs, iu_ne, iu_eq]
              refine k_iastore C dL_winders_64 (by repeat (first | exact hs_eq _ _ _ | refine hs_ne (by omega) ?_ | assumption)) (by omega) (by omega) (by omega) ?_
              refine k_iinc C dL_winders_65 rfl (by decide) rfl ?_
              refine k_goto (tgt := 40) C dL_winders_68 (by decide) ?_
              have q1 := ih (kk + 1) (by omega) (by omega) (by omega)
              rw [hs_hs, dWi_s wi k0]
              exact q1)
      have q1 := loop40 31 (5 * v29) (by omega) (by omega) (by omega)
      rw [dWi_0, hs_same y3] at q1
      exact q1)
  · try (exfalso; omega)
    all_goals (
      refine k_aload_n C dL_winders_9 rfl ?_
      refine k_bipush C dL_winders_10 (by decide +kernel) ?_
      refine k_iaload C dL_winders_12 (by repeat (first | exact hs_eq _ _ _ | refine hs_ne (by omega) ?_ | assumption)) (by omega) (by omega) (by omega) ?_
      refine k_if_le (tgt := 98) C dL_winders_13 (by decide) ⟨by omega, by omega⟩ (fun c13 => ?_) (fun c13 => ?_)
      · try (exfalso; omega)
        all_goals (
          refine k_iconst C dL_winders_98 ?_
          refine k_aload_n C dL_winders_99 rfl ?_
          refine k_bipush C dL_winders_100 (by decide +kernel) ?_
          refine k_iaload C dL_winders_102 (by repeat (first | exact hs_eq _ _ _ | refine hs_ne (by omega) ?_ | assumption)) (by omega) (by omega) (by omega) ?_
          refine k_imul C dL_winders_103 ?_
          refine k_istore C dL_winders_104 (by decide) rfl ?_
          refine k_aload C dL_winders_106 rfl ?_
          refine k_iload C dL_winders_108 rfl ?_
          refine k_iload_n C dL_winders_110 rfl ?_
          refine k_iconst C dL_winders_111 ?_
          refine k_ishrO C dL_winders_112 (fun v112 => ?_)
          refine k_iconst C dL_winders_113 ?_
          refine k_callS C (n := 2) (as := [_, _]) (ct_L_at l D tc base _ _ _ (by omega)) ml_L_26 sm_L_at ini_L co_L_at ⟨by decide, by decide, by decide +kernel⟩ rfl ⟨by decide, by decide⟩ rfl (Nat.le_of_ble_eq_true rfl) ⟨Nat.zero_le _, Nat.zero_le _⟩ dL_winders_114 ?_
          rintro _ _ ⟨⟨v114, rfl, p114, q114⟩, rfl⟩
          refine k_iastore C dL_winders_117 (by repeat (first | exact hs_eq _ _ _ | refine hs_ne (by omega) ?_ | assumption)) (by omega) (by omega) (by omega) ?_
          refine k_aload C dL_winders_118 rfl ?_
          refine k_iload C dL_winders_120 rfl ?_
          refine k_iconst C dL_winders_122 ?_
          refine k_iadd C dL_winders_123 ?_
          refine k_iconst C dL_winders_124 ?_
          refine k_iload_n C dL_winders_125 rfl ?_
          refine k_iload_n C dL_winders_126 rfl ?_
          refine k_iconst C dL_winders_127 ?_
          refine k_ishrO C dL_winders_128 (fun v128 => ?_)
          refine k_iconst C dL_winders_129 ?_
          refine k_callS C (n := 2) (as := [_, _]) (ct_L_at l D tc base _ _ _ (by omega)) ml_L_26 sm_L_at ini_L co_L_at ⟨by decide, by decide, by decide +kernel⟩ rfl ⟨by decide, by decide⟩ rfl (Nat.le_of_ble_eq_true rfl) ⟨Nat.zero_le _, Nat.zero_le _⟩ dL_winders_130 ?_
          rintro _ _ ⟨⟨v130, rfl, p130, q130⟩, rfl⟩
          refine k_if_ne (tgt := 142) C dL_winders_133 (by decide) ⟨by omega, by omega⟩ (fun c133 => ?_) (fun c133 => ?_)
          · try (exfalso; omega)
            all_goals (
              refine k_bipush C dL_winders_142 (by decide +kernel) ?_
              refine k_callS C (n := 2) (as := [_, _]) (ct_L_at l D tc base _ _ _ (by omega)) ml_L_26 sm_L_at ini_L co_L_at ⟨by decide, by decide, by decide +kernel⟩ rfl ⟨by decide, by decide⟩ rfl (Nat.le_of_ble_eq_true rfl) ⟨Nat.zero_le _, Nat.zero_le _⟩ dL_winders_144 ?_
              rintro _ _ ⟨⟨v144, rfl, p144, q144⟩, rfl⟩
              refine k_iadd C dL_winders_147 ?_
              refine k_iastore C dL_winders_148 (by repeat (first | exact hs_eq _ _ _ | refine hs_ne (by omega) ?_ | assumption)) (by omega) (by omega) (by omega) ?_
              refine k_aload C dL_winders_149 rfl ?_
              refine k_iload C dL_winders_151 rfl ?_
              refine k_iconst C dL_winders_153 ?_
              refine k_iadd C dL_winders_154 ?_
              refine k_iconst C dL_winders_155 ?_
              refine k_iload_n C dL_winders_156 rfl ?_
              refine k_bipush C dL_winders_157 (by decide +kernel) ?_
              refine k_ishrO C dL_winders_159 (fun v159 => ?_)
              refine k_iload_n C dL_winders_160 rfl ?_
              refine k_bipush C dL_winders_161 (by decide +kernel) ?_
              refine k_ishrO C dL_winders_163 (fun v163 => ?_)
              refine k_iconst C dL_winders_164 ?_
              refine k_callS C (n := 2) (as := [_, _]) (ct_L_at l D tc base _ _ _ (by omega)) ml_L_26 sm_L_at ini_L co_L_at ⟨by decide, by decide, by decide +kernel⟩ rfl ⟨by decide, by decide⟩ rfl (Nat.le_of_ble_eq_true rfl) ⟨Nat.zero_le _, Nat.zero_le _⟩ dL_winders_165 ?_
              rintro _ _ ⟨⟨v165, rfl, p165, q165⟩, rfl⟩
              refine k_if_ne (tgt := 177) C dL_winders_168 (by decide) ⟨by omega, by omega⟩ (fun c168 => ?_) (fun c168 => ?_)
              · try (exfalso; omega)
                all_goals (
                  refine k_bipush C dL_winders_177 (by decide +kernel) ?_
                  refine k_callS C (n := 2) (as := [_, _]) (ct_L_at l D tc base _ _ _ (by omega)) ml_L_26 sm_L_at ini_L co_L_at ⟨by decide, by decide, by decide +kernel⟩ rfl ⟨by decide, by decide⟩ rfl (Nat.le_of_ble_eq_true rfl) ⟨Nat.zero_le _, Nat.zero_le _⟩ dL_winders_179 ?_
                  rintro _ _ ⟨⟨v179, rfl, p179, q179⟩, rfl⟩
                  refine k_iadd C dL_winders_182 ?_
                  refine k_iastore C dL_winders_183 (by repeat (first | exact hs_eq _ _ _ | refine hs_ne (by omega) ?_ | assumption)) (by omega) (by omega) (by omega) ?_
                  refine k_aload C dL_winders_184 rfl ?_
                  refine k_iload C dL_winders_186 rfl ?_
                  refine k_iconst C dL_winders_188 ?_
                  refine k_iadd C dL_winders_189 ?_
                  refine k_aload_n C dL_winders_190 rfl ?_
                  refine k_iconst C dL_winders_191 ?_
                  refine k_iaload C dL_winders_192 (by repeat (first | exact hs_eq _ _ _ | refine hs_ne (by omega) ?_ | assumption)) (by omega) (by omega) (by omega) ?_
                  try simp (disch := omega) only [hs_hs, iu_ne, iu_eq]
                  refine k_aload C dL_winders_193 rfl ?_
                  refine k_iload C dL_winders_195 rfl ?_
                  refine k_iconst C dL_winders_197 ?_
                  refine k_iadd C dL_winders_198 ?_
                  refine k_iaload C dL_winders_199 (by repeat (first | exact hs_eq _ _ _ | refine hs_ne (by omega) ?_ | assumption)) (by omega) (by omega) (by omega) ?_
                  try simp (disch := omega) only [hs_hs, iu_ne, iu_eq]
                  refine k_iadd C dL_winders_200 ?_
                  refine k_iastore C dL_winders_201 (by repeat (first | exact hs_eq _ _ _ | refine hs_ne (by omega) ?_ | assumption)) (by omega) (by omega) (by omega) ?_
                  refine k_aload C dL_winders_202 rfl ?_
                  refine k_iload C dL_winders_204 rfl ?_
                  refine k_iconst C dL_winders_206 ?_
                  refine k_iadd C dL_winders_207 ?_
                  refine k_iconst C dL_winders_208 ?_
                  refine k_iastore C dL_winders_209 (by repeat (first | exact hs_eq _ _ _ | refine hs_ne (by omega) ?_ | assumption)) (by omega) (by omega) (by omega) ?_
                  refine k_aload_n C dL_winders_210 rfl ?_
                  refine k_bipush C dL_winders_211 (by decide +kernel) ?_
                  refine k_dup2 C dL_winders_213 rfl rfl ?_
                  refine k_iaload C dL_winders_214 (by repeat (first | exact hs_eq _ _ _ | refine hs_ne (by omega) ?_ | assumption)) (by omega) (by omega) (by omega) ?_
                  try simp (disch := omega) only [hs_hs, iu_ne, iu_eq]
                  refine k_iconst C dL_winders_215 ?_
                  refine k_iadd C dL_winders_216 ?_
                  refine k_iastore C dL_winders_217 (by repeat (first | exact hs_eq _ _ _ | refine hs_ne (by omega) ?_ | assumption)) (by omega) (by omega) (by omega) ?_
                  refine k_aload_n C dL_winders_218 rfl ?_
                  refine k_aload C dL_winders_219 rfl ?_
                  refine k_iload C dL_winders_221 rfl ?_
                  refine k_iaload C dL_winders_223 (by repeat (first | exact hs_eq _ _ _ | refine hs_ne (by omega) ?_ | assumption)) (by omega) (by omega) (by omega) ?_
                  try simp (disch := omega) only [hs_hs, iu_ne, iu_eq]
                  refine k_aload C dL_winders_224 rfl ?_
                  refine k_iload C dL_winders_226 rfl ?_
                  refine k_iconst C dL_winders_228 ?_
                  refine k_iadd C dL_winders_229 ?_
                  refine k_iaload C dL_winders_230 (by repeat (first | exact hs_eq _ _ _ | refine hs_ne (by omega) ?_ | assumption)) (by omega) (by omega) (by omega) ?_
                  try simp (disch := omega) only [hs_hs, iu_ne, iu_eq]
                  refine k_aload C dL_winders_231 rfl ?_
                  refine k_iload C dL_winders_233 rfl ?_
                  refine k_iconst C dL_winders_235 ?_
                  refine k_iadd C dL_winders_236 ?_
                  refine k_iaload C dL_winders_237 (by repeat (first | exact hs_eq _ _ _ | refine hs_ne (by omega) ?_ | assumption)) (by omega) (by omega) (by omega) ?_
                  try simp (disch := omega) only [hs_hs, iu_ne, iu_eq]
                  refine k_callV C (n := 3) (as := [_, _, _]) (ct_X7_hire l D tc base rc _ _ _ _ _ _ (hX.fr (fun aaa a0 a1 => by repeat (first | rfl | refine hs_ne (by omega) ?_))) _ _ _ (by omega) (by omega) (by omega) (by omega)) ml_L_54 im_X7_hire se_X7_hire ini_X7 co_X7_hire ⟨rfl, by decide, by decide, by decide +kernel⟩ rfl (ci := 7) rfl (by repeat (first | exact hs_eq _ _ _ | refine hs_ne (by omega) ?_ | assumption)) ⟨by decide, by decide⟩ rfl (Nat.le_of_ble_eq_true rfl) ⟨Nat.zero_le _, Nat.zero_le _⟩ dL_winders_238 ?_
                  rintro _ hw ⟨rfl, hXw, hFw⟩
                  refine k_aload_n C dL_winders_241 rfl ?_
                  refine k_bipush C dL_winders_242 (by decide +kernel) ?_
                  refine k_iaload C dL_winders_244 ((hFw _ (by omega)).trans (by repeat (first | exact hs_eq _ _ _ | refine hs_ne (by omega) ?_ | assumption))) (by omega) (by omega) (by omega) ?_
                  try simp (disch := omega) only [hs_hs, iu_ne, iu_eq]
                  refine k_iconst C dL_winders_245 ?_
                  refine k_isub C dL_winders_246 ?_
                  refine k_icmp_neE (tgt := 254) C dL_winders_247 (by decide) (by omega) ?_
                  refine k_iconst C dL_winders_250 ?_
                  refine k_goto (tgt := 255) C dL_winders_251 (by decide) ?_
                  refine k_zret C hr dL_winders_255 (by omega) ?_
                  refine ⟨_, _, rfl, hXw, ⟨_, _, _, _, _, ⟨((hFw _ (by omega)).trans (by repeat (first | exact hs_eq _ _ _ | refine hs_ne (by omega) ?_ | assumption))), ((hFw _ (by omega)).trans (by repeat (first | exact hs_eq _ _ _ | refine hs_ne (by omega) ?_ | assumption))), ((hFw _ (by omega)).trans (by repeat (first | exact hs_eq _ _ _ | refine hs_ne (by omega) ?_ | assumption))), ((hFw _ (by omega)).trans (by repeat (first | exact hs_eq _ _ _ | refine hs_ne (by omega) ?_ | assumption))), ((hFw _ (by omega)).trans (by repeat (first | exact hs_eq _ _ _ | refine hs_ne (by omega) ?_ | assumption)))⟩, ?_⟩, zComes_ne (by omega) (by omega)⟩
                  unfold zComes
                  exact (((((hLR.w (by omega) rfl).w (by omega) rfl).w (by omega) rfl).w (by omega) (by omega)).w (by omega) rfl).n (by decide) (by omega))
              · try (exfalso; omega)
                all_goals (
                  refine k_sipush C dL_winders_171 (by decide +kernel) ?_
                  refine k_goto (tgt := 179) C dL_winders_174 (by decide) ?_
                  refine k_callS C (n := 2) (as := [_, _]) (ct_L_at l D tc base _ _ _ (by omega)) ml_L_26 sm_L_at ini_L co_L_at ⟨by decide, by decide, by decide +kernel⟩ rfl ⟨by decide, by decide⟩ rfl (Nat.le_of_ble_eq_true rfl) ⟨Nat.zero_le _, Nat.zero_le _⟩ dL_winders_179 ?_
                  rintro _ _ ⟨⟨v179, rfl, p179, q179⟩, rfl⟩
                  refine k_iadd C dL_winders_182 ?_
                  refine k_iastore C dL_winders_183 (by repeat (first | exact hs_eq _ _ _ | refine hs_ne (by omega) ?_ | assumption)) (by omega) (by omega) (by omega) ?_
                  refine k_aload C dL_winders_184 rfl ?_
                  refine k_iload C dL_winders_186 rfl ?_
                  refine k_iconst C dL_winders_188 ?_
                  refine k_iadd C dL_winders_189 ?_
                  refine k_aload_n C dL_winders_190 rfl ?_
                  refine k_iconst C dL_winders_191 ?_
                  refine k_iaload C dL_winders_192 (by repeat (first | exact hs_eq _ _ _ | refine hs_ne (by omega) ?_ | assumption)) (by omega) (by omega) (by omega) ?_
                  try simp (disch := omega) only [hs_hs, iu_ne, iu_eq]
                  refine k_aload C dL_winders_193 rfl ?_
                  refine k_iload C dL_winders_195 rfl ?_
                  refine k_iconst C dL_winders_197 ?_
                  refine k_iadd C dL_winders_198 ?_
                  refine k_iaload C dL_winders_199 (by repeat (first | exact hs_eq _ _ _ | refine hs_ne (by omega) ?_ | assumption)) (by omega) (by omega) (by omega) ?_
                  try simp (disch := omega) only [hs_hs, iu_ne, iu_eq]
                  refine k_iadd C dL_winders_200 ?_
                  refine k_iastore C dL_winders_201 (by repeat (first | exact hs_eq _ _ _ | refine hs_ne (by omega) ?_ | assumption)) (by omega) (by omega) (by omega) ?_
                  refine k_aload C dL_winders_202 rfl ?_
                  refine k_iload C dL_winders_204 rfl ?_
                  refine k_iconst C dL_winders_206 ?_
                  refine k_iadd C dL_winders_207 ?_
                  refine k_iconst C dL_winders_208 ?_
                  refine k_iastore C dL_winders_209 (by repeat (first | exact hs_eq _ _ _ | refine hs_ne (by omega) ?_ | assumption)) (by omega) (by omega) (by omega) ?_
                  refine k_aload_n C dL_winders_210 rfl ?_
                  refine k_bipush C dL_winders_211 (by decide +kernel) ?_
                  refine k_dup2 C dL_winders_213 rfl rfl ?_
                  refine k_iaload C dL_winders_214 (by repeat (first | exact hs_eq _ _ _ | refine hs_ne (by omega) ?_ | assumption)) (by omega) (by omega) (by omega) ?_
                  try simp (disch := omega) only [hs_hs, iu_ne, iu_eq]
                  refine k_iconst C dL_winders_215 ?_
                  refine k_iadd C dL_winders_216 ?_
                  refine k_iastore C dL_winders_217 (by repeat (first | exact hs_eq _ _ _ | refine hs_ne (by omega) ?_ | assumption)) (by omega) (by omega) (by omega) ?_
                  refine k_aload_n C dL_winders_218 rfl ?_
                  refine k_aload C dL_winders_219 rfl ?_
                  refine k_iload C dL_winders_221 rfl ?_
                  refine k_iaload C dL_winders_223 (by repeat (first | exact hs_eq _ _ _ | refine hs_ne (by omega) ?_ | assumption)) (by omega) (by omega) (by omega) ?_
                  try simp (disch := omega) only [hs_hs, iu_ne, iu_eq]
                  refine k_aload C dL_winders_224 rfl ?_
                  refine k_iload C dL_winders_226 rfl ?_
                  refine k_iconst C dL_winders_228 ?_
                  refine k_iadd C dL_winders_229 ?_
                  refine k_iaload C dL_winders_230 (by repeat (first | exact hs_eq _ _ _ | refine hs_ne (by omega) ?_ | assumption)) (by omega) (by omega) (by omega) ?_
                  try simp (disch := omega) only [hs_hs, iu_ne, iu_eq]
                  refine k_aload C dL_winders_231 rfl ?_
                  refine k_iload C dL_winders_233 rfl ?_
                  refine k_iconst C dL_winders_235 ?_
                  refine k_iadd C dL_winders_236 ?_
                  refine k_iaload C dL_winders_237 (by repeat (first | exact hs_eq _ _ _ | refine hs_ne (by omega) ?_ | assumption)) (by omega) (by omega) (by omega) ?_
                  try simp (disch := omega) only [hs_hs, iu_ne, iu_eq]
                  refine k_callV C (n := 3) (as := [_, _, _]) (ct_X7_hire l D tc base rc _ _ _ _ _ _ (hX.fr (fun aaa a0 a1 => by repeat (first | rfl | refine hs_ne (by omega) ?_))) _ _ _ (by omega) (by omega) (by omega) (by omega)) ml_L_54 im_X7_hire se_X7_hire ini_X7 co_X7_hire ⟨rfl, by decide, by decide, by decide +kernel⟩ rfl (ci := 7) rfl (by repeat (first | exact hs_eq _ _ _ | refine hs_ne (by omega) ?_ | assumption)) ⟨by decide, by decide⟩ rfl (Nat.le_of_ble_eq_true rfl) ⟨Nat.zero_le _, Nat.zero_le _⟩ dL_winders_238 ?_
                  rintro _ hw ⟨rfl, hXw, hFw⟩
                  refine k_aload_n C dL_winders_241 rfl ?_
                  refine k_bipush C dL_winders_242 (by decide +kernel) ?_
                  refine k_iaload C dL_winders_244 ((hFw _ (by omega)).trans (by repeat (first | exact hs_eq _ _ _ | refine hs_ne (by omega) ?_ | assumption))) (by omega) (by omega) (by omega) ?_
                  try simp (disch := omega) only [hs_hs, iu_ne, iu_eq]
                  refine k_iconst C dL_winders_245 ?_
                  refine k_isub C dL_winders_246 ?_
                  refine k_icmp_neE (tgt := 254) C dL_winders_247 (by decide) (by omega) ?_
                  refine k_iconst C dL_winders_250 ?_
                  refine k_goto (tgt := 255) C dL_winders_251 (by decide) ?_
                  refine k_zret C hr dL_winders_255 (by omega) ?_
                  refine ⟨_, _, rfl, hXw, ⟨_, _, _, _, _, ⟨((hFw _ (by omega)).trans (by repeat (first | exact hs_eq _ _ _ | refine hs_ne (by omega) ?_ | assumption))), ((hFw _ (by omega)).trans (by repeat (first | exact hs_eq _ _ _ | refine hs_ne (by omega) ?_ | assumption))), ((hFw _ (by omega)).trans (by repeat (first | exact hs_eq _ _ _ | refine hs_ne (by omega) ?_ | assumption))), ((hFw _ (by omega)).trans (by repeat (first | exact hs_eq _ _ _ | refine hs_ne (by omega) ?_ | assumption))), ((hFw _ (by omega)).trans (by repeat (first | exact hs_eq _ _ _ | refine hs_ne (by omega) ?_ | assumption)))⟩, ?_⟩, zComes_ne (by omega) (by omega)⟩
                  unfold zComes
                  exact (((((hLR.w (by omega) rfl).w (by omega) rfl).w (by omega) rfl).w (by omega) (by omega)).w (by omega) rfl).n (by decide) (by omega)))
          · try (exfalso; omega)
            all_goals (
              refine k_sipush C dL_winders_136 (by decide +kernel) ?_
              refine k_goto (tgt := 144) C dL_winders_139 (by decide) ?_
              refine k_callS C (n := 2) (as := [_, _]) (ct_L_at l D tc base _ _ _ (by omega)) ml_L_26 sm_L_at ini_L co_L_at ⟨by decide, by decide, by decide +kernel⟩ rfl ⟨by decide, by decide⟩ rfl (Nat.le_of_ble_eq_true rfl) ⟨Nat.zero_le _, Nat.zero_le _⟩ dL_winders_144 ?_
              rintro _ _ ⟨⟨v144, rfl, p144, q144⟩, rfl⟩
              refine k_iadd C dL_winders_147 ?_
              refine k_iastore C dL_winders_148 (by repeat (first | exact hs_eq _ _ _ | refine hs_ne (by omega) ?_ | assumption)) (by omega) (by omega) (by omega) ?_
              refine k_aload C dL_winders_149 rfl ?_
              refine k_iload C dL_winders_151 rfl ?_
              refine k_iconst C dL_winders_153 ?_
              refine k_iadd C dL_winders_154 ?_
              refine k_iconst C dL_winders_155 ?_
              refine k_iload_n C dL_winders_156 rfl ?_
              refine k_bipush C dL_winders_157 (by decide +kernel) ?_
              refine k_ishrO C dL_winders_159 (fun v159 => ?_)
              refine k_iload_n C dL_winders_160 rfl ?_
              refine k_bipush C dL_winders_161 (by decide +kernel) ?_
              refine k_ishrO C dL_winders_163 (fun v163 => ?_)
              refine k_iconst C dL_winders_164 ?_
              refine k_callS C (n := 2) (as := [_, _]) (ct_L_at l D tc base _ _ _ (by omega)) ml_L_26 sm_L_at ini_L co_L_at ⟨by decide, by decide, by decide +kernel⟩ rfl ⟨by decide, by decide⟩ rfl (Nat.le_of_ble_eq_true rfl) ⟨Nat.zero_le _, Nat.zero_le _⟩ dL_winders_165 ?_
              rintro _ _ ⟨⟨v165, rfl, p165, q165⟩, rfl⟩
              refine k_if_ne (tgt := 177) C dL_winders_168 (by decide) ⟨by omega, by omega⟩ (fun c168 => ?_) (fun c168 => ?_)
              · try (exfalso; omega)
                all_goals (
                  refine k_bipush C dL_winders_177 (by decide +kernel) ?_
                  refine k_callS C (n := 2) (as := [_, _]) (ct_L_at l D tc base _ _ _ (by omega)) ml_L_26 sm_L_at ini_L co_L_at ⟨by decide, by decide, by decide +kernel⟩ rfl ⟨by decide, by decide⟩ rfl (Nat.le_of_ble_eq_true rfl) ⟨Nat.zero_le _, Nat.zero_le _⟩ dL_winders_179 ?_
                  rintro _ _ ⟨⟨v179, rfl, p179, q179⟩, rfl⟩
                  refine k_iadd C dL_winders_182 ?_
                  refine k_iastore C dL_winders_183 (by repeat (first | exact hs_eq _ _ _ | refine hs_ne (by omega) ?_ | assumption)) (by omega) (by omega) (by omega) ?_
                  refine k_aload C dL_winders_184 rfl ?_
                  refine k_iload C dL_winders_186 rfl ?_
                  refine k_iconst C dL_winders_188 ?_
                  refine k_iadd C dL_winders_189 ?_
                  refine k_aload_n C dL_winders_190 rfl ?_
                  refine k_iconst C dL_winders_191 ?_
                  refine k_iaload C dL_winders_192 (by repeat (first | exact hs_eq _ _ _ | refine hs_ne (by omega) ?_ | assumption)) (by omega) (by omega) (by omega) ?_
                  try simp (disch := omega) only [hs_hs, iu_ne, iu_eq]
                  refine k_aload C dL_winders_193 rfl ?_
                  refine k_iload C dL_winders_195 rfl ?_
                  refine k_iconst C dL_winders_197 ?_
                  refine k_iadd C dL_winders_198 ?_
                  refine k_iaload C dL_winders_199 (by repeat (first | exact hs_eq _ _ _ | refine hs_ne (by omega) ?_ | assumption)) (by omega) (by omega) (by omega) ?_
                  try simp (disch := omega) only [hs_hs, iu_ne, iu_eq]
                  refine k_iadd C dL_winders_200 ?_
                  refine k_iastore C dL_winders_201 (by repeat (first | exact hs_eq _ _ _ | refine hs_ne (by omega) ?_ | assumption)) (by omega) (by omega) (by omega) ?_
                  refine k_aload C dL_winders_202 rfl ?_
                  refine k_iload C dL_winders_204 rfl ?_
                  refine k_iconst C dL_winders_206 ?_
                  refine k_iadd C dL_winders_207 ?_
                  refine k_iconst C dL_winders_208 ?_
                  refine k_iastore C dL_winders_209 (by repeat (first | exact hs_eq _ _ _ | refine hs_ne (by omega) ?_ | assumption)) (by omega) (by omega) (by omega) ?_
                  refine k_aload_n C dL_winders_210 rfl ?_
                  refine k_bipush C dL_winders_211 (by decide +kernel) ?_
                  refine k_dup2 C dL_winders_213 rfl rfl ?_
                  refine k_iaload C dL_winders_214 (by repeat (first | exact hs_eq _ _ _ | refine hs_ne (by omega) ?_ | assumption)) (by omega) (by omega) (by omega) ?_
                  try simp (disch := omega) only [hs_hs, iu_ne, iu_eq]
                  refine k_iconst C dL_winders_215 ?_
                  refine k_iadd C dL_winders_216 ?_
                  refine k_iastore C dL_winders_217 (by repeat (first | exact hs_eq _ _ _ | refine hs_ne (by omega) ?_ | assumption)) (by omega) (by omega) (by omega) ?_
                  refine k_aload_n C dL_winders_218 rfl ?_
                  refine k_aload C dL_winders_219 rfl ?_
                  refine k_iload C dL_winders_221 rfl ?_
                  refine k_iaload C dL_winders_223 (by repeat (first | exact hs_eq _ _ _ | refine hs_ne (by omega) ?_ | assumption)) (by omega) (by omega) (by omega) ?_
                  try simp (disch := omega) only [hs_hs, iu_ne, iu_eq]
                  refine k_aload C dL_winders_224 rfl ?_
                  refine k_iload C dL_winders_226 rfl ?_
                  refine k_iconst C dL_winders_228 ?_
                  refine k_iadd C dL_winders_229 ?_
                  refine k_iaload C dL_winders_230 (by repeat (first | exact hs_eq _ _ _ | refine hs_ne (by omega) ?_ | assumption)) (by omega) (by omega) (by omega) ?_
                  try simp (disch := omega) only [hs_hs, iu_ne, iu_eq]
                  refine k_aload C dL_winders_231 rfl ?_
                  refine k_iload C dL_winders_233 rfl ?_
                  refine k_iconst C dL_winders_235 ?_
                  refine k_iadd C dL_winders_236 ?_
                  refine k_iaload C dL_winders_237 (by repeat (first | exact hs_eq _ _ _ | refine hs_ne (by omega) ?_ | assumption)) (by omega) (by omega) (by omega) ?_
                  try simp (disch := omega) only [hs_hs, iu_ne, iu_eq]
                  refine k_callV C (n := 3) (as := [_, _, _]) (ct_X7_hire l D tc base rc _ _ _ _ _ _ (hX.fr (fun aaa a0 a1 => by repeat (first | rfl | refine hs_ne (by omega) ?_))) _ _ _ (by omega) (by omega) (by omega) (by omega)) ml_L_54 im_X7_hire se_X7_hire ini_X7 co_X7_hire ⟨rfl, by decide, by decide, by decide +kernel⟩ rfl (ci := 7) rfl (by repeat (first | exact hs_eq _ _ _ | refine hs_ne (by omega) ?_ | assumption)) ⟨by decide, by decide⟩ rfl (Nat.le_of_ble_eq_true rfl) ⟨Nat.zero_le _, Nat.zero_le _⟩ dL_winders_238 ?_
                  rintro _ hw ⟨rfl, hXw, hFw⟩
                  refine k_aload_n C dL_winders_241 rfl ?_
                  refine k_bipush C dL_winders_242 (by decide +kernel) ?_
                  refine k_iaload C dL_winders_244 ((hFw _ (by omega)).trans (by repeat (first | exact hs_eq _ _ _ | refine hs_ne (by omega) ?_ | assumption))) (by omega) (by omega) (by omega) ?_
                  try simp (disch := omega) only [hs_hs, iu_ne, iu_eq]
                  refine k_iconst C dL_winders_245 ?_
                  refine k_isub C dL_winders_246 ?_
                  refine k_icmp_neE (tgt := 254) C dL_winders_247 (by decide) (by omega) ?_
                  refine k_iconst C dL_winders_250 ?_
                  refine k_goto (tgt := 255) C dL_winders_251 (by decide) ?_
                  refine k_zret C hr dL_winders_255 (by omega) ?_
                  refine ⟨_, _, rfl, hXw, ⟨_, _, _, _, _, ⟨((hFw _ (by omega)).trans (by repeat (first | exact hs_eq _ _ _ | refine hs_ne (by omega) ?_ | assumption))), ((hFw _ (by omega)).trans (by repeat (first | exact hs_eq _ _ _ | refine hs_ne (by omega) ?_ | assumption))), ((hFw _ (by omega)).trans (by repeat (first | exact hs_eq _ _ _ | refine hs_ne (by omega) ?_ | assumption))), ((hFw _ (by omega)).trans (by repeat (first | exact hs_eq _ _ _ | refine hs_ne (by omega) ?_ | assumption))), ((hFw _ (by omega)).trans (by repeat (first | exact hs_eq _ _ _ | refine hs_ne (by omega) ?_ | assumption)))⟩, ?_⟩, zComes_ne (by omega) (by omega)⟩
                  unfold zComes
                  exact (((((hLR.w (by omega) rfl).w (by omega) rfl).w (by omega) rfl).w (by omega) (by omega)).w (by omega) rfl).n (by decide) (by omega))
              · try (exfalso; omega)
                all_goals (
                  refine k_sipush C dL_winders_171 (by decide +kernel) ?_
                  refine k_goto (tgt := 179) C dL_winders_174 (by decide) ?_
                  refine k_callS C (n := 2) (as := [_, _]) (ct_L_at l D tc base _ _ _ (by omega)) ml_L_26 sm_L_at ini_L co_L_at ⟨by decide, by decide, by decide +kernel⟩ rfl ⟨by decide, by decide⟩ rfl (Nat.le_of_ble_eq_true rfl) ⟨Nat.zero_le _, Nat.zero_le _⟩ dL_winders_179 ?_
                  rintro _ _ ⟨⟨v179, rfl, p179, q179⟩, rfl⟩
                  refine k_iadd C dL_winders_182 ?_
                  refine k_iastore C dL_winders_183 (by repeat (first | exact hs_eq _ _ _ | refine hs_ne (by omega) ?_ | assumption)) (by omega) (by omega) (by omega) ?_
                  refine k_aload C dL_winders_184 rfl ?_
                  refine k_iload C dL_winders_186 rfl ?_
                  refine k_iconst C dL_winders_188 ?_
                  refine k_iadd C dL_winders_189 ?_
                  refine k_aload_n C dL_winders_190 rfl ?_
                  refine k_iconst C dL_winders_191 ?_
                  refine k_iaload C dL_winders_192 (by repeat (first | exact hs_eq _ _ _ | refine hs_ne (by omega) ?_ | assumption)) (by omega) (by omega) (by omega) ?_
                  try simp (disch := omega) only [hs_hs, iu_ne, iu_eq]
                  refine k_aload C dL_winders_193 rfl ?_
                  refine k_iload C dL_winders_195 rfl ?_
                  refine k_iconst C dL_winders_197 ?_
                  refine k_iadd C dL_winders_198 ?_
                  refine k_iaload C dL_winders_199 (by repeat (first | exact hs_eq _ _ _ | refine hs_ne (by omega) ?_ | assumption)) (by omega) (by omega) (by omega) ?_
                  try simp (disch := omega) only [hs_hs, iu_ne, iu_eq]
                  refine k_iadd C dL_winders_200 ?_
                  refine k_iastore C dL_winders_201 (by repeat (first | exact hs_eq _ _ _ | refine hs_ne (by omega) ?_ | assumption)) (by omega) (by omega) (by omega) ?_
                  refine k_aload C dL_winders_202 rfl ?_
                  refine k_iload C dL_winders_204 rfl ?_
                  refine k_iconst C dL_winders_206 ?_
                  refine k_iadd C dL_winders_207 ?_
                  refine k_iconst C dL_winders_208 ?_
                  refine k_iastore C dL_winders_209 (by repeat (first | exact hs_eq _ _ _ | refine hs_ne (by omega) ?_ | assumption)) (by omega) (by omega) (by omega) ?_
                  refine k_aload_n C dL_winders_210 rfl ?_
                  refine k_bipush C dL_winders_211 (by decide +kernel) ?_
                  refine k_dup2 C dL_winders_213 rfl rfl ?_
                  refine k_iaload C dL_winders_214 (by repeat (first | exact hs_eq _ _ _ | refine hs_ne (by omega) ?_ | assumption)) (by omega) (by omega) (by omega) ?_
                  try simp (disch := omega) only [hs_hs, iu_ne, iu_eq]
                  refine k_iconst C dL_winders_215 ?_
                  refine k_iadd C dL_winders_216 ?_
                  refine k_iastore C dL_winders_217 (by repeat (first | exact hs_eq _ _ _ | refine hs_ne (by omega) ?_ | assumption)) (by omega) (by omega) (by omega) ?_
                  refine k_aload_n C dL_winders_218 rfl ?_
                  refine k_aload C dL_winders_219 rfl ?_
                  refine k_iload C dL_winders_221 rfl ?_
                  refine k_iaload C dL_winders_223 (by repeat (first | exact hs_eq _ _ _ | refine hs_ne (by omega) ?_ | assumption)) (by omega) (by omega) (by omega) ?_
                  try simp (disch := omega) only [hs_hs, iu_ne, iu_eq]
                  refine k_aload C dL_winders_224 rfl ?_
                  refine k_iload C dL_winders_226 rfl ?_
                  refine k_iconst C dL_winders_228 ?_
                  refine k_iadd C dL_winders_229 ?_
                  refine k_iaload C dL_winders_230 (by repeat (first | exact hs_eq _ _ _ | refine hs_ne (by omega) ?_ | assumption)) (by omega) (by omega) (by omega) ?_
                  try simp (disch := omega) only [hs_hs, iu_ne, iu_eq]
                  refine k_aload C dL_winders_231 rfl ?_
                  refine k_iload C dL_winders_233 rfl ?_
                  refine k_iconst C dL_winders_235 ?_
                  refine k_iadd C dL_winders_236 ?_
                  refine k_iaload C dL_winders_237 (by repeat (first | exact hs_eq _ _ _ | refine hs_ne (by omega) ?_ | assumption)) (by omega) (by omega) (by omega) ?_
                  try simp (disch := omega) only [hs_hs, iu_ne, iu_eq]
                  refine k_callV C (n := 3) (as := [_, _, _]) (ct_X7_hire l D tc base rc _ _ _ _ _ _ (hX.fr (fun aaa a0 a1 => by repeat (first | rfl | refine hs_ne (by omega) ?_))) _ _ _ (by omega) (by omega) (by omega) (by omega)) ml_L_54 im_X7_hire se_X7_hire ini_X7 co_X7_hire ⟨rfl, by decide, by decide, by decide +kernel⟩ rfl (ci := 7) rfl (by repeat (first | exact hs_eq _ _ _ | refine hs_ne (by omega) ?_ | assumption)) ⟨by decide, by decide⟩ rfl (Nat.le_of_ble_eq_true rfl) ⟨Nat.zero_le _, Nat.zero_le _⟩ dL_winders_238 ?_
                  rintro _ hw ⟨rfl, hXw, hFw⟩
                  refine k_aload_n C dL_winders_241 rfl ?_
                  refine k_bipush C dL_winders_242 (by decide +kernel) ?_
                  refine k_iaload C dL_winders_244 ((hFw _ (by omega)).trans (by repeat (first | exact hs_eq _ _ _ | refine hs_ne (by omega) ?_ | assumption))) (by omega) (by omega) (by omega) ?_
                  try simp (disch := omega) only [hs_hs, iu_ne, iu_eq]
                  refine k_iconst C dL_winders_245 ?_
                  refine k_isub C dL_winders_246 ?_
                  refine k_icmp_neE (tgt := 254) C dL_winders_247 (by decide) (by omega) ?_
                  refine k_iconst C dL_winders_250 ?_
                  refine k_goto (tgt := 255) C dL_winders_251 (by decide) ?_
                  refine k_zret C hr dL_winders_255 (by omega) ?_
                  refine ⟨_, _, rfl, hXw, ⟨_, _, _, _, _, ⟨((hFw _ (by omega)).trans (by repeat (first | exact hs_eq _ _ _ | refine hs_ne (by omega) ?_ | assumption))), ((hFw _ (by omega)).trans (by repeat (first | exact hs_eq _ _ _ | refine hs_ne (by omega) ?_ | assumption))), ((hFw _ (by omega)).trans (by repeat (first | exact hs_eq _ _ _ | refine hs_ne (by omega) ?_ | assumption))), ((hFw _ (by omega)).trans (by repeat (first | exact hs_eq _ _ _ | refine hs_ne (by omega) ?_ | assumption))), ((hFw _ (by omega)).trans (by repeat (first | exact hs_eq _ _ _ | refine hs_ne (by omega) ?_ | assumption)))⟩, ?_⟩, zComes_ne (by omega) (by omega)⟩
                  unfold zComes
                  exact (((((hLR.w (by omega) rfl).w (by omega) rfl).w (by omega) rfl).w (by omega) (by omega)).w (by omega) rfl).n (by decide) (by omega))))
      · try (exfalso; omega)
        all_goals (
          refine k_iload_n C dL_winders_16 rfl ?_
          refine k_iconst C dL_winders_17 ?_
          refine k_callS C (n := 2) (as := [_, _]) (ct_L_at l D tc base _ _ _ (by omega)) ml_L_26 sm_L_at ini_L co_L_at ⟨by decide, by decide, by decide +kernel⟩ rfl ⟨by decide, by decide⟩ rfl (Nat.le_of_ble_eq_true rfl) ⟨Nat.zero_le _, Nat.zero_le _⟩ dL_winders_18 ?_
          rintro _ _ ⟨⟨v18, rfl, p18, q18⟩, rfl⟩
          refine k_if_ne (tgt := 98) C dL_winders_21 (by decide) ⟨by omega, by omega⟩ (fun c21 => ?_) (fun c21 => ?_)
          · try (exfalso; omega)
            all_goals (
              refine k_iconst C dL_winders_98 ?_
              refine k_aload_n C dL_winders_99 rfl ?_
              refine k_bipush C dL_winders_100 (by decide +kernel) ?_
              refine k_iaload C dL_winders_102 (by repeat (first | exact hs_eq _ _ _ | refine hs_ne (by omega) ?_ | assumption)) (by omega) (by omega) (by omega) ?_
              refine k_imul C dL_winders_103 ?_
              refine k_istore C dL_winders_104 (by decide) rfl ?_
              refine k_aload C dL_winders_106 rfl ?_
              refine k_iload C dL_winders_108 rfl ?_
              refine k_iload_n C dL_winders_110 rfl ?_
              refine k_iconst C dL_winders_111 ?_
              refine k_ishrO C dL_winders_112 (fun v112 => ?_)
              refine k_iconst C dL_winders_113 ?_
              refine k_callS C (n := 2) (as := [_, _]) (ct_L_at l D tc base _ _ _ (by omega)) ml_L_26 sm_L_at ini_L co_L_at ⟨by decide, by decide, by decide +kernel⟩ rfl ⟨by decide, by decide⟩ rfl (Nat.le_of_ble_eq_true rfl) ⟨Nat.zero_le _, Nat.zero_le _⟩ dL_winders_114 ?_
              rintro _ _ ⟨⟨v114, rfl, p114, q114⟩, rfl⟩
              refine k_iastore C dL_winders_117 (by repeat (first | exact hs_eq _ _ _ | refine hs_ne (by omega) ?_ | assumption)) (by omega) (by omega) (by omega) ?_
              refine k_aload C dL_winders_118 rfl ?_
              refine k_iload C dL_winders_120 rfl ?_
              refine k_iconst C dL_winders_122 ?_
              refine k_iadd C dL_winders_123 ?_
              refine k_iconst C dL_winders_124 ?_
              refine k_iload_n C dL_winders_125 rfl ?_
              refine k_iload_n C dL_winders_126 rfl ?_
              refine k_iconst C dL_winders_127 ?_
              refine k_ishrO C dL_winders_128 (fun v128 => ?_)
              refine k_iconst C dL_winders_129 ?_
              refine k_callS C (n := 2) (as := [_, _]) (ct_L_at l D tc base _ _ _ (by omega)) ml_L_26 sm_L_at ini_L co_L_at ⟨by decide, by decide, by decide +kernel⟩ rfl ⟨by decide, by decide⟩ rfl (Nat.le_of_ble_eq_true rfl) ⟨Nat.zero_le _, Nat.zero_le _⟩ dL_winders_130 ?_
              rintro _ _ ⟨⟨v130, rfl, p130, q130⟩, rfl⟩
              refine k_if_ne (tgt := 142) C dL_winders_133 (by decide) ⟨by omega, by omega⟩ (fun c133 => ?_) (fun c133 => ?_)
              · try (exfalso; omega)
                all_goals (
                  refine k_bipush C dL_winders_142 (by decide +kernel) ?_
                  refine k_callS C (n := 2) (as := [_, _]) (ct_L_at l D tc base _ _ _ (by omega)) ml_L_26 sm_L_at ini_L co_L_at ⟨by decide, by decide, by decide +kernel⟩ rfl ⟨by decide, by decide⟩ rfl (Nat.le_of_ble_eq_true rfl) ⟨Nat.zero_le _, Nat.zero_le _⟩ dL_winders_144 ?_
                  rintro _ _ ⟨⟨v144, rfl, p144, q144⟩, rfl⟩
                  refine k_iadd C dL_winders_147 ?_
                  refine k_iastore C dL_winders_148 (by repeat (first | exact hs_eq _ _ _ | refine hs_ne (by omega) ?_ | assumption)) (by omega) (by omega) (by omega) ?_
                  refine k_aload C dL_winders_149 rfl ?_
                  refine k_iload C dL_winders_151 rfl ?_
                  refine k_iconst C dL_winders_153 ?_
                  refine k_iadd C dL_winders_154 ?_
                  refine k_iconst C dL_winders_155 ?_
                  refine k_iload_n C dL_winders_156 rfl ?_
                  refine k_bipush C dL_winders_157 (by decide +kernel) ?_
                  refine k_ishrO C dL_winders_159 (fun v159 => ?_)
                  refine k_iload_n C dL_winders_160 rfl ?_
                  refine k_bipush C dL_winders_161 (by decide +kernel) ?_
                  refine k_ishrO C dL_winders_163 (fun v163 => ?_)
                  refine k_iconst C dL_winders_164 ?_
                  refine k_callS C (n := 2) (as := [_, _]) (ct_L_at l D tc base _ _ _ (by omega)) ml_L_26 sm_L_at ini_L co_L_at ⟨by decide, by decide, by decide +kernel⟩ rfl ⟨by decide, by decide⟩ rfl (Nat.le_of_ble_eq_true rfl) ⟨Nat.zero_le _, Nat.zero_le _⟩ dL_winders_165 ?_
                  rintro _ _ ⟨⟨v165, rfl, p165, q165⟩, rfl⟩
                  refine k_if_ne (tgt := 177) C dL_winders_168 (by decide) ⟨by omega, by omega⟩ (fun c168 => ?_) (fun c168 => ?_)
                  · try (exfalso; omega)
                    all_goals (
                      refine k_bipush C dL_winders_177 (by decide +kernel) ?_
                      refine k_callS C (n := 2) (as := [_, _]) (ct_L_at l D tc base _ _ _ (by omega)) ml_L_26 sm_L_at ini_L co_L_at ⟨by decide, by decide, by decide +kernel⟩ rfl ⟨by decide, by decide⟩ rfl (Nat.le_of_ble_eq_true rfl) ⟨Nat.zero_le _, Nat.zero_le _⟩ dL_winders_179 ?_
                      rintro _ _ ⟨⟨v179, rfl, p179, q179⟩, rfl⟩
                      refine k_iadd C dL_winders_182 ?_
                      refine k_iastore C dL_winders_183 (by repeat (first | exact hs_eq _ _ _ | refine hs_ne (by omega) ?_ | assumption)) (by omega) (by omega) (by omega) ?_
                      refine k_aload C dL_winders_184 rfl ?_
                      refine k_iload C dL_winders_186 rfl ?_
                      refine k_iconst C dL_winders_188 ?_
                      refine k_iadd C dL_winders_189 ?_
                      refine k_aload_n C dL_winders_190 rfl ?_
                      refine k_iconst C dL_winders_191 ?_
                      refine k_iaload C dL_winders_192 (by repeat (first | exact hs_eq _ _ _ | refine hs_ne (by omega) ?_ | assumption)) (by omega) (by omega) (by omega) ?_
                      try simp (disch := omega) only [hs_hs, iu_ne, iu_eq]
                      refine k_aload C dL_winders_193 rfl ?_
                      refine k_iload C dL_winders_195 rfl ?_
                      refine k_iconst C dL_winders_197 ?_
                      refine k_iadd C dL_winders_198 ?_
                      refine k_iaload C dL_winders_199 (by repeat (first | exact hs_eq _ _ _ | refine hs_ne (by omega) ?_ | assumption)) (by omega) (by omega) (by omega) ?_
                      try simp (disch := omega) only [hs_hs, iu_ne, iu_eq]
                      refine k_iadd C dL_winders_200 ?_
                      refine k_iastore C dL_winders_201 (by repeat (first | exact hs_eq _ _ _ | refine hs_ne (by omega) ?_ | assumption)) (by omega) (by omega) (by omega) ?_
                      refine k_aload C dL_winders_202 rfl ?_
                      refine k_iload C dL_winders_204 rfl ?_
                      refine k_iconst C dL_winders_206 ?_
                      refine k_iadd C dL_winders_207 ?_
                      refine k_iconst C dL_winders_208 ?_
                      refine k_iastore C dL_winders_209 (by repeat (first | exact hs_eq _ _ _ | refine hs_ne (by omega) ?_ | assumption)) (by omega) (by omega) (by omega) ?_
                      refine k_aload_n C dL_winders_210 rfl ?_
                      refine k_bipush C dL_winders_211 (by decide +kernel) ?_
                      refine k_dup2 C dL_winders_213 rfl rfl ?_
                      refine k_iaload C dL_winders_214 (by repeat (first | exact hs_eq _ _ _ | refine hs_ne (by omega) ?_ | assumption)) (by omega) (by omega) (by omega) ?_
                      try simp (disch := omega) only [hs_hs, iu_ne, iu_eq]
                      refine k_iconst C dL_winders_215 ?_
                      refine k_iadd C dL_winders_216 ?_
                      refine k_iastore C dL_winders_217 (by repeat (first | exact hs_eq _ _ _ | refine hs_ne (by omega) ?_ | assumption)) (by omega) (by omega) (by omega) ?_
                      refine k_aload_n C dL_winders_218 rfl ?_
                      refine k_aload C dL_winders_219 rfl ?_
                      refine k_iload C dL_winders_221 rfl ?_
                      refine k_iaload C dL_winders_223 (by repeat (first | exact hs_eq _ _ _ | refine hs_ne (by omega) ?_ | assumption)) (by omega) (by omega) (by omega) ?_
                      try simp (disch := omega) only [hs_hs, iu_ne, iu_eq]
                      refine k_aload C dL_winders_224 rfl ?_
                      refine k_iload C dL_winders_226 rfl ?_
                      refine k_iconst C dL_winders_228 ?_
                      refine k_iadd C dL_winders_229 ?_
                      refine k_iaload C dL_winders_230 (by repeat (first | exact hs_eq _ _ _ | refine hs_ne (by omega) ?_ | assumption)) (by omega) (by omega) (by omega) ?_
                      try simp (disch := omega) only [hs_hs, iu_ne, iu_eq]
                      refine k_aload C dL_winders_231 rfl ?_
                      refine k_iload C dL_winders_233 rfl ?_
                      refine k_iconst C dL_winders_235 ?_
                      refine k_iadd C dL_winders_236 ?_
                      refine k_iaload C dL_winders_237 (by repeat (first | exact hs_eq _ _ _ | refine hs_ne (by omega) ?_ | assumption)) (by omega) (by omega) (by omega) ?_
                      try simp (disch := omega) only [hs_hs, iu_ne, iu_eq]
                      refine k_callV C (n := 3) (as := [_, _, _]) (ct_X7_hire l D tc base rc _ _ _ _ _ _ (hX.fr (fun aaa a0 a1 => by repeat (first | rfl | refine hs_ne (by omega) ?_))) _ _ _ (by omega) (by omega) (by omega) (by omega)) ml_L_54 im_X7_hire se_X7_hire ini_X7 co_X7_hire ⟨rfl, by decide, by decide, by decide +kernel⟩ rfl (ci := 7) rfl (by repeat (first | exact hs_eq _ _ _ | refine hs_ne (by omega) ?_ | assumption)) ⟨by decide, by decide⟩ rfl (Nat.le_of_ble_eq_true rfl) ⟨Nat.zero_le _, Nat.zero_le _⟩ dL_winders_238 ?_
                      rintro _ hw ⟨rfl, hXw, hFw⟩
                      refine k_aload_n C dL_winders_241 rfl ?_
                      refine k_bipush C dL_winders_242 (by decide +kernel) ?_
                      refine k_iaload C dL_winders_244 ((hFw _ (by omega)).trans (by repeat (first | exact hs_eq _ _ _ | refine hs_ne (by omega) ?_ | assumption))) (by omega) (by omega) (by omega) ?_
                      try simp (disch := omega) only [hs_hs, iu_ne, iu_eq]
                      refine k_iconst C dL_winders_245 ?_
                      refine k_isub C dL_winders_246 ?_
                      refine k_icmp_neE (tgt := 254) C dL_winders_247 (by decide) (by omega) ?_
                      refine k_iconst C dL_winders_250 ?_
                      refine k_goto (tgt := 255) C dL_winders_251 (by decide) ?_
                      refine k_zret C hr dL_winders_255 (by omega) ?_
                      refine ⟨_, _, rfl, hXw, ⟨_, _, _, _, _, ⟨((hFw _ (by omega)).trans (by repeat (first | exact hs_eq _ _ _ | refine hs_ne (by omega) ?_ | assumption))), ((hFw _ (by omega)).trans (by repeat (first | exact hs_eq _ _ _ | refine hs_ne (by omega) ?_ | assumption))), ((hFw _ (by omega)).trans (by repeat (first | exact hs_eq _ _ _ | refine hs_ne (by omega) ?_ | assumption))), ((hFw _ (by omega)).trans (by repeat (first | exact hs_eq _ _ _ | refine hs_ne (by omega) ?_ | assumption))), ((hFw _ (by omega)).trans (by repeat (first | exact hs_eq _ _ _ | refine hs_ne (by omega) ?_ | assumption)))⟩, ?_⟩, zComes_ne (by omega) (by omega)⟩
                      unfold zComes
                      exact (((((hLR.w (by omega) rfl).w (by omega) rfl).w (by omega) rfl).w (by omega) (by omega)).w (by omega) rfl).n (by decide) (by omega))
                  · try (exfalso; omega)
                    all_goals (
                      refine k_sipush C dL_winders_171 (by decide +kernel) ?_
                      refine k_goto (tgt := 179) C dL_winders_174 (by decide) ?_
                      refine k_callS C (n := 2) (as := [_, _]) (ct_L_at l D tc base _ _ _ (by omega)) ml_L_26 sm_L_at ini_L co_L_at ⟨by decide, by decide, by decide +kernel⟩ rfl ⟨by decide, by decide⟩ rfl (Nat.le_of_ble_eq_true rfl) ⟨Nat.zero_le _, Nat.zero_le _⟩ dL_winders_179 ?_
                      rintro _ _ ⟨⟨v179, rfl, p179, q179⟩, rfl⟩
                      refine k_iadd C dL_winders_182 ?_
                      refine k_iastore C dL_winders_183 (by repeat (first | exact hs_eq _ _ _ | refine hs_ne (by omega) ?_ | assumption)) (by omega) (by omega) (by omega) ?_
                      refine k_aload C dL_winders_184 rfl ?_
                      refine k_iload C dL_winders_186 rfl ?_
                      refine k_iconst C dL_winders_188 ?_
                      refine k_iadd C dL_winders_189 ?_
                      refine k_aload_n C dL_winders_190 rfl ?_
                      refine k_iconst C dL_winders_191 ?_
                      refine k_iaload C dL_winders_192 (by repeat (first | exact hs_eq _ _ _ | refine hs_ne (by omega) ?_ | assumption)) (by omega) (by omega) (by omega) ?_
                      try simp (disch := omega) only [hs_hs, iu_ne, iu_eq]
                      refine k_aload C dL_winders_193 rfl ?_
                      refine k_iload C dL_winders_195 rfl ?_
                      refine k_iconst C dL_winders_197 ?_
                      refine k_iadd C dL_winders_198 ?_
                      refine k_iaload C dL_winders_199 (by repeat (first | exact hs_eq _ _ _ | refine hs_ne (by omega) ?_ | assumption)) (by omega) (by omega) (by omega) ?_
                      try simp (disch := omega) only [hs_hs, iu_ne, iu_eq]
                      refine k_iadd C dL_winders_200 ?_
                      refine k_iastore C dL_winders_201 (by repeat (first | exact hs_eq _ _ _ | refine hs_ne (by omega) ?_ | assumption)) (by omega) (by omega) (by omega) ?_
                      refine k_aload C dL_winders_202 rfl ?_
                      refine k_iload C dL_winders_204 rfl ?_
                      refine k_iconst C dL_winders_206 ?_
                      refine k_iadd C dL_winders_207 ?_
                      refine k_iconst C dL_winders_208 ?_
                      refine k_iastore C dL_winders_209 (by repeat (first | exact hs_eq _ _ _ | refine hs_ne (by omega) ?_ | assumption)) (by omega) (by omega) (by omega) ?_
                      refine k_aload_n C dL_winders_210 rfl ?_
                      refine k_bipush C dL_winders_211 (by decide +kernel) ?_
                      refine k_dup2 C dL_winders_213 rfl rfl ?_
                      refine k_iaload C dL_winders_214 (by repeat (first | exact hs_eq _ _ _ | refine hs_ne (by omega) ?_ | assumption)) (by omega) (by omega) (by omega) ?_
                      try simp (disch := omega) only [hs_hs, iu_ne, iu_eq]
                      refine k_iconst C dL_winders_215 ?_
                      refine k_iadd C dL_winders_216 ?_
                      refine k_iastore C dL_winders_217 (by repeat (first | exact hs_eq _ _ _ | refine hs_ne (by omega) ?_ | assumption)) (by omega) (by omega) (by omega) ?_
                      refine k_aload_n C dL_winders_218 rfl ?_
                      refine k_aload C dL_winders_219 rfl ?_
                      refine k_iload C dL_winders_221 rfl ?_
                      refine k_iaload C dL_winders_223 (by repeat (first | exact hs_eq _ _ _ | refine hs_ne (by omega) ?_ | assumption)) (by omega) (by omega) (by omega) ?_
                      try simp (disch := omega) only [hs_hs, iu_ne, iu_eq]
                      refine k_aload C dL_winders_224 rfl ?_
                      refine k_iload C dL_winders_226 rfl ?_
                      refine k_iconst C dL_winders_228 ?_
                      refine k_iadd C dL_winders_229 ?_
                      refine k_iaload C dL_winders_230 (by repeat (first | exact hs_eq _ _ _ | refine hs_ne (by omega) ?_ | assumption)) (by omega) (by omega) (by omega) ?_
                      try simp (disch := omega) only [hs_hs, iu_ne, iu_eq]
                      refine k_aload C dL_winders_231 rfl ?_
                      refine k_iload C dL_winders_233 rfl ?_
                      refine k_iconst C dL_winders_235 ?_
                      refine k_iadd C dL_winders_236 ?_
                      refine k_iaload C dL_winders_237 (by repeat (first | exact hs_eq _ _ _ | refine hs_ne (by omega) ?_ | assumption)) (by omega) (by omega) (by omega) ?_
                      try simp (disch := omega) only [hs_hs, iu_ne, iu_eq]
                      refine k_callV C (n := 3) (as := [_, _, _]) (ct_X7_hire l D tc base rc _ _ _ _ _ _ (hX.fr (fun aaa a0 a1 => by repeat (first | rfl | refine hs_ne (by omega) ?_))) _ _ _ (by omega) (by omega) (by omega) (by omega)) ml_L_54 im_X7_hire se_X7_hire ini_X7 co_X7_hire ⟨rfl, by decide, by decide, by decide +kernel⟩ rfl (ci := 7) rfl (by repeat (first | exact hs_eq _ _ _ | refine hs_ne (by omega) ?_ | assumption)) ⟨by decide, by decide⟩ rfl (Nat.le_of_ble_eq_true rfl) ⟨Nat.zero_le _, Nat.zero_le _⟩ dL_winders_238 ?_
                      rintro _ hw ⟨rfl, hXw, hFw⟩
                      refine k_aload_n C dL_winders_241 rfl ?_
                      refine k_bipush C dL_winders_242 (by decide +kernel) ?_
                      refine k_iaload C dL_winders_244 ((hFw _ (by omega)).trans (by repeat (first | exact hs_eq _ _ _ | refine hs_ne (by omega) ?_ | assumption))) (by omega) (by omega) (by omega) ?_
                      try simp (disch := omega) only [hs_hs, iu_ne, iu_eq]
                      refine k_iconst C dL_winders_245 ?_
                      refine k_isub C dL_winders_246 ?_
                      refine k_icmp_neE (tgt := 254) C dL_winders_247 (by decide) (by omega) ?_
                      refine k_iconst C dL_winders_250 ?_
                      refine k_goto (tgt := 255) C dL_winders_251 (by decide) ?_
                      refine k_zret C hr dL_winders_255 (by omega) ?_
                      refine ⟨_, _, rfl, hXw, ⟨_, _, _, _, _, ⟨((hFw _ (by omega)).trans (by repeat (first | exact hs_eq _ _ _ | refine hs_ne (by omega) ?_ | assumption))), ((hFw _ (by omega)).trans (by repeat (first | exact hs_eq _ _ _ | refine hs_ne (by omega) ?_ | assumption))), ((hFw _ (by omega)).trans (by repeat (first | exact hs_eq _ _ _ | refine hs_ne (by omega) ?_ | assumption))), ((hFw _ (by omega)).trans (by repeat (first | exact hs_eq _ _ _ | refine hs_ne (by omega) ?_ | assumption))), ((hFw _ (by omega)).trans (by repeat (first | exact hs_eq _ _ _ | refine hs_ne (by omega) ?_ | assumption)))⟩, ?_⟩, zComes_ne (by omega) (by omega)⟩
                      unfold zComes
                      exact (((((hLR.w (by omega) rfl).w (by omega) rfl).w (by omega) rfl).w (by omega) (by omega)).w (by omega) rfl).n (by decide) (by omega)))
              · try (exfalso; omega)
                all_goals (
                  refine k_sipush C dL_winders_136 (by decide +kernel) ?_
                  refine k_goto (tgt := 144) C dL_winders_139 (by decide) ?_
                  refine k_callS C (n := 2) (as := [_, _]) (ct_L_at l D tc base _ _ _ (by omega)) ml_L_26 sm_L_at ini_L co_L_at ⟨by decide, by decide, by decide +kernel⟩ rfl ⟨by decide, by decide⟩ rfl (Nat.le_of_ble_eq_true rfl) ⟨Nat.zero_le _, Nat.zero_le _⟩ dL_winders_144 ?_
                  rintro _ _ ⟨⟨v144, rfl, p144, q144⟩, rfl⟩
                  refine k_iadd C dL_winders_147 ?_
                  refine k_iastore C dL_winders_148 (by repeat (first | exact hs_eq _ _ _ | refine hs_ne (by omega) ?_ | assumption)) (by omega) (by omega) (by omega) ?_
                  refine k_aload C dL_winders_149 rfl ?_
                  refine k_iload C dL_winders_151 rfl ?_
                  refine k_iconst C dL_winders_153 ?_
                  refine k_iadd C dL_winders_154 ?_
                  refine k_iconst C dL_winders_155 ?_
                  refine k_iload_n C dL_winders_156 rfl ?_
                  refine k_bipush C dL_winders_157 (by decide +kernel) ?_
                  refine k_ishrO C dL_winders_159 (fun v159 => ?_)
                  refine k_iload_n C dL_winders_160 rfl ?_
                  refine k_bipush C dL_winders_161 (by decide +kernel) ?_
                  refine k_ishrO C dL_winders_163 (fun v163 => ?_)
                  refine k_iconst C dL_winders_164 ?_
                  refine k_callS C (n := 2) (as := [_, _]) (ct_L_at l D tc base _ _ _ (by omega)) ml_L_26 sm_L_at ini_L co_L_at ⟨by decide, by decide, by decide +kernel⟩ rfl ⟨by decide, by decide⟩ rfl (Nat.le_of_ble_eq_true rfl) ⟨Nat.zero_le _, Nat.zero_le _⟩ dL_winders_165 ?_
                  rintro _ _ ⟨⟨v165, rfl, p165, q165⟩, rfl⟩
                  refine k_if_ne (tgt := 177) C dL_winders_168 (by decide) ⟨by omega, by omega⟩ (fun c168 => ?_) (fun c168 => ?_)
                  · try (exfalso; omega)
                    all_goals (
                      refine k_bipush C dL_winders_177 (by decide +kernel) ?_
                      refine k_callS C (n := 2) (as := [_, _]) (ct_L_at l D tc base _ _ _ (by omega)) ml_L_26 sm_L_at ini_L co_L_at ⟨by decide, by decide, by decide +kernel⟩ rfl ⟨by decide, by decide⟩ rfl (Nat.le_of_ble_eq_true rfl) ⟨Nat.zero_le _, Nat.zero_le _⟩ dL_winders_179 ?_
                      rintro _ _ ⟨⟨v179, rfl, p179, q179⟩, rfl⟩
                      refine k_iadd C dL_winders_182 ?_
                      refine k_iastore C dL_winders_183 (by repeat (first | exact hs_eq _ _ _ | refine hs_ne (by omega) ?_ | assumption)) (by omega) (by omega) (by omega) ?_
                      refine k_aload C dL_winders_184 rfl ?_
                      refine k_iload C dL_winders_186 rfl ?_
                      refine k_iconst C dL_winders_188 ?_
                      refine k_iadd C dL_winders_189 ?_
                      refine k_aload_n C dL_winders_190 rfl ?_
                      refine k_iconst C dL_winders_191 ?_
                      refine k_iaload C dL_winders_192 (by repeat (first | exact hs_eq _ _ _ | refine hs_ne (by omega) ?_ | assumption)) (by omega) (by omega) (by omega) ?_
                      try simp (disch := omega) only [hs_hs, iu_ne, iu_eq]
                      refine k_aload C dL_winders_193 rfl ?_
                      refine k_iload C dL_winders_195 rfl ?_
                      refine k_iconst C dL_winders_197 ?_
                      refine k_iadd C dL_winders_198 ?_
                      refine k_iaload C dL_winders_199 (by repeat (first | exact hs_eq _ _ _ | refine hs_ne (by omega) ?_ | assumption)) (by omega) (by omega) (by omega) ?_
                      try simp (disch := omega) only [hs_hs, iu_ne, iu_eq]
                      refine k_iadd C dL_winders_200 ?_
                      refine k_iastore C dL_winders_201 (by repeat (first | exact hs_eq _ _ _ | refine hs_ne (by omega) ?_ | assumption)) (by omega) (by omega) (by omega) ?_
                      refine k_aload C dL_winders_202 rfl ?_
                      refine k_iload C dL_winders_204 rfl ?_
                      refine k_iconst C dL_winders_206 ?_
                      refine k_iadd C dL_winders_207 ?_
                      refine k_iconst C dL_winders_208 ?_
                      refine k_iastore C dL_winders_209 (by repeat (first | exact hs_eq _ _ _ | refine hs_ne (by omega) ?_ | assumption)) (by omega) (by omega) (by omega) ?_
                      refine k_aload_n C dL_winders_210 rfl ?_
                      refine k_bipush C dL_winders_211 (by decide +kernel) ?_
                      refine k_dup2 C dL_winders_213 rfl rfl ?_
                      refine k_iaload C dL_winders_214 (by repeat (first | exact hs_eq _ _ _ | refine hs_ne (by omega) ?_ | assumption)) (by omega) (by omega) (by omega) ?_
                      try simp (disch := omega) only [hs_hs, iu_ne, iu_eq]
                      refine k_iconst C dL_winders_215 ?_
                      refine k_iadd C dL_winders_216 ?_
                      refine k_iastore C dL_winders_217 (by repeat (first | exact hs_eq _ _ _ | refine hs_ne (by omega) ?_ | assumption)) (by omega) (by omega) (by omega) ?_
                      refine k_aload_n C dL_winders_218 rfl ?_
                      refine k_aload C dL_winders_219 rfl ?_
                      refine k_iload C dL_winders_221 rfl ?_
                      refine k_iaload C dL_winders_223 (by repeat (first | exact hs_eq _ _ _ | refine hs_ne (by omega) ?_ | assumption)) (by omega) (by omega) (by omega) ?_
                      try simp (disch := omega) only [hs_hs, iu_ne, iu_eq]
                      refine k_aload C dL_winders_224 rfl ?_
                      refine k_iload C dL_winders_226 rfl ?_
                      refine k_iconst C dL_winders_228 ?_
                      refine k_iadd C dL_winders_229 ?_
                      refine k_iaload C dL_winders_230 (by repeat (first | exact hs_eq _ _ _ | refine hs_ne (by omega) ?_ | assumption)) (by omega) (by omega) (by omega) ?_
                      try simp (disch := omega) only [hs_hs, iu_ne, iu_eq]
                      refine k_aload C dL_winders_231 rfl ?_
                      refine k_iload C dL_winders_233 rfl ?_
                      refine k_iconst C dL_winders_235 ?_
                      refine k_iadd C dL_winders_236 ?_
                      refine k_iaload C dL_winders_237 (by repeat (first | exact hs_eq _ _ _ | refine hs_ne (by omega) ?_ | assumption)) (by omega) (by omega) (by omega) ?_
                      try simp (disch := omega) only [hs_hs, iu_ne, iu_eq]
                      refine k_callV C (n := 3) (as := [_, _, _]) (ct_X7_hire l D tc base rc _ _ _ _ _ _ (hX.fr (fun aaa a0 a1 => by repeat (first | rfl | refine hs_ne (by omega) ?_))) _ _ _ (by omega) (by omega) (by omega) (by omega)) ml_L_54 im_X7_hire se_X7_hire ini_X7 co_X7_hire ⟨rfl, by decide, by decide, by decide +kernel⟩ rfl (ci := 7) rfl (by repeat (first | exact hs_eq _ _ _ | refine hs_ne (by omega) ?_ | assumption)) ⟨by decide, by decide⟩ rfl (Nat.le_of_ble_eq_true rfl) ⟨Nat.zero_le _, Nat.zero_le _⟩ dL_winders_238 ?_
                      rintro _ hw ⟨rfl, hXw, hFw⟩
                      refine k_aload_n C dL_winders_241 rfl ?_
                      refine k_bipush C dL_winders_242 (by decide +kernel) ?_
                      refine k_iaload C dL_winders_244 ((hFw _ (by omega)).trans (by repeat (first | exact hs_eq _ _ _ | refine hs_ne (by omega) ?_ | assumption))) (by omega) (by omega) (by omega) ?_
                      try simp (disch := omega) only [hs_hs, iu_ne, iu_eq]
                      refine k_iconst C dL_winders_245 ?_
                      refine k_isub C dL_winders_246 ?_
                      refine k_icmp_neE (tgt := 254) C dL_winders_247 (by decide) (by omega) ?_
                      refine k_iconst C dL_winders_250 ?_
                      refine k_goto (tgt := 255) C dL_winders_251 (by decide) ?_
                      refine k_zret C hr dL_winders_255 (by omega) ?_
                      refine ⟨_, _, rfl, hXw, ⟨_, _, _, _, _, ⟨((hFw _ (by omega)).trans (by repeat (first | exact hs_eq _ _ _ | refine hs_ne (by omega) ?_ | assumption))), ((hFw _ (by omega)).trans (by repeat (first | exact hs_eq _ _ _ | refine hs_ne (by omega) ?_ | assumption))), ((hFw _ (by omega)).trans (by repeat (first | exact hs_eq _ _ _ | refine hs_ne (by omega) ?_ | assumption))), ((hFw _ (by omega)).trans (by repeat (first | exact hs_eq _ _ _ | refine hs_ne (by omega) ?_ | assumption))), ((hFw _ (by omega)).trans (by repeat (first | exact hs_eq _ _ _ | refine hs_ne (by omega) ?_ | assumption)))⟩, ?_⟩, zComes_ne (by omega) (by omega)⟩
                      unfold zComes
                      exact (((((hLR.w (by omega) rfl).w (by omega) rfl).w (by omega) rfl).w (by omega) (by omega)).w (by omega) rfl).n (by decide) (by omega))
                  · try (exfalso; omega)
                    all_goals (
                      refine k_sipush C dL_winders_171 (by decide +kernel) ?_
                      refine k_goto (tgt := 179) C dL_winders_174 (by decide) ?_
                      refine k_callS C (n := 2) (as := [_, _]) (ct_L_at l D tc base _ _ _ (by omega)) ml_L_26 sm_L_at ini_L co_L_at ⟨by decide, by decide, by decide +kernel⟩ rfl ⟨by decide, by decide⟩ rfl (Nat.le_of_ble_eq_true rfl) ⟨Nat.zero_le _, Nat.zero_le _⟩ dL_winders_179 ?_
                      rintro _ _ ⟨⟨v179, rfl, p179, q179⟩, rfl⟩
                      refine k_iadd C dL_winders_182 ?_
                      refine k_iastore C dL_winders_183 (by repeat (first | exact hs_eq _ _ _ | refine hs_ne (by omega) ?_ | assumption)) (by omega) (by omega) (by omega) ?_
                      refine k_aload C dL_winders_184 rfl ?_
                      refine k_iload C dL_winders_186 rfl ?_
                      refine k_iconst C dL_winders_188 ?_
                      refine k_iadd C dL_winders_189 ?_
                      refine k_aload_n C dL_winders_190 rfl ?_
                      refine k_iconst C dL_winders_191 ?_
                      refine k_iaload C dL_winders_192 (by repeat (first | exact hs_eq _ _ _ | refine hs_ne (by omega) ?_ | assumption)) (by omega) (by omega) (by omega) ?_
                      try simp (disch := omega) only [hs_hs, iu_ne, iu_eq]
                      refine k_aload C dL_winders_193 rfl ?_
                      refine k_iload C dL_winders_195 rfl ?_
                      refine k_iconst C dL_winders_197 ?_
                      refine k_iadd C dL_winders_198 ?_
                      refine k_iaload C dL_winders_199 (by repeat (first | exact hs_eq _ _ _ | refine hs_ne (by omega) ?_ | assumption)) (by omega) (by omega) (by omega) ?_
                      try simp (disch := omega) only [hs_hs, iu_ne, iu_eq]
                      refine k_iadd C dL_winders_200 ?_
                      refine k_iastore C dL_winders_201 (by repeat (first | exact hs_eq _ _ _ | refine hs_ne (by omega) ?_ | assumption)) (by omega) (by omega) (by omega) ?_
                      refine k_aload C dL_winders_202 rfl ?_
                      refine k_iload C dL_winders_204 rfl ?_
                      refine k_iconst C dL_winders_206 ?_
                      refine k_iadd C dL_winders_207 ?_
                      refine k_iconst C dL_winders_208 ?_
                      refine k_iastore C dL_winders_209 (by repeat (first | exact hs_eq _ _ _ | refine hs_ne (by omega) ?_ | assumption)) (by omega) (by omega) (by omega) ?_
                      refine k_aload_n C dL_winders_210 rfl ?_
                      refine k_bipush C dL_winders_211 (by decide +kernel) ?_
                      refine k_dup2 C dL_winders_213 rfl rfl ?_
                      refine k_iaload C dL_winders_214 (by repeat (first | exact hs_eq _ _ _ | refine hs_ne (by omega) ?_ | assumption)) (by omega) (by omega) (by omega) ?_
                      try simp (disch := omega) only [hs_hs, iu_ne, iu_eq]
                      refine k_iconst C dL_winders_215 ?_
                      refine k_iadd C dL_winders_216 ?_
                      refine k_iastore C dL_winders_217 (by repeat (first | exact hs_eq _ _ _ | refine hs_ne (by omega) ?_ | assumption)) (by omega) (by omega) (by omega) ?_
                      refine k_aload_n C dL_winders_218 rfl ?_
                      refine k_aload C dL_winders_219 rfl ?_
                      refine k_iload C dL_winders_221 rfl ?_
                      refine k_iaload C dL_winders_223 (by repeat (first | exact hs_eq _ _ _ | refine hs_ne (by omega) ?_ | assumption)) (by omega) (by omega) (by omega) ?_
                      try simp (disch := omega) only [hs_hs, iu_ne, iu_eq]
                      refine k_aload C dL_winders_224 rfl ?_
                      refine k_iload C dL_winders_226 rfl ?_
                      refine k_iconst C dL_winders_228 ?_
                      refine k_iadd C dL_winders_229 ?_
                      refine k_iaload C dL_winders_230 (by repeat (first | exact hs_eq _ _ _ | refine hs_ne (by omega) ?_ | assumption)) (by omega) (by omega) (by omega) ?_
                      try simp (disch := omega) only [hs_hs, iu_ne, iu_eq]
                      refine k_aload C dL_winders_231 rfl ?_
                      refine k_iload C dL_winders_233 rfl ?_
                      refine k_iconst C dL_winders_235 ?_
                      refine k_iadd C dL_winders_236 ?_
                      refine k_iaload C dL_winders_237 (by repeat (first | exact hs_eq _ _ _ | refine hs_ne (by omega) ?_ | assumption)) (by omega) (by omega) (by omega) ?_
                      try simp (disch := omega) only [hs_hs, iu_ne, iu_eq]
                      refine k_callV C (n := 3) (as := [_, _, _]) (ct_X7_hire l D tc base rc _ _ _ _ _ _ (hX.fr (fun aaa a0 a1 => by repeat (first | rfl | refine hs_ne (by omega) ?_))) _ _ _ (by omega) (by omega) (by omega) (by omega)) ml_L_54 im_X7_hire se_X7_hire ini_X7 co_X7_hire ⟨rfl, by decide, by decide, by decide +kernel⟩ rfl (ci := 7) rfl (by repeat (first | exact hs_eq _ _ _ | refine hs_ne (by omega) ?_ | assumption)) ⟨by decide, by decide⟩ rfl (Nat.le_of_ble_eq_true rfl) ⟨Nat.zero_le _, Nat.zero_le _⟩ dL_winders_238 ?_
                      rintro _ hw ⟨rfl, hXw, hFw⟩
                      refine k_aload_n C dL_winders_241 rfl ?_
                      refine k_bipush C dL_winders_242 (by decide +kernel) ?_
                      refine k_iaload C dL_winders_244 ((hFw _ (by omega)).trans (by repeat (first | exact hs_eq _ _ _ | refine hs_ne (by omega) ?_ | assumption))) (by omega) (by omega) (by omega) ?_
                      try simp (disch := omega) only [hs_hs, iu_ne, iu_eq]
                      refine k_iconst C dL_winders_245 ?_
                      refine k_isub C dL_winders_246 ?_
                      refine k_icmp_neE (tgt := 254) C dL_winders_247 (by decide) (by omega) ?_
                      refine k_iconst C dL_winders_250 ?_
                      refine k_goto (tgt := 255) C dL_winders_251 (by decide) ?_
                      refine k_zret C hr dL_winders_255 (by omega) ?_
                      refine ⟨_, _, rfl, hXw, ⟨_, _, _, _, _, ⟨((hFw _ (by omega)).trans (by repeat (first | exact hs_eq _ _ _ | refine hs_ne (by omega) ?_ | assumption))), ((hFw _ (by omega)).trans (by repeat (first | exact hs_eq _ _ _ | refine hs_ne (by omega) ?_ | assumption))), ((hFw _ (by omega)).trans (by repeat (first | exact hs_eq _ _ _ | refine hs_ne (by omega) ?_ | assumption))), ((hFw _ (by omega)).trans (by repeat (first | exact hs_eq _ _ _ | refine hs_ne (by omega) ?_ | assumption))), ((hFw _ (by omega)).trans (by repeat (first | exact hs_eq _ _ _ | refine hs_ne (by omega) ?_ | assumption)))⟩, ?_⟩, zComes_ne (by omega) (by omega)⟩
                      unfold zComes
                      exact (((((hLR.w (by omega) rfl).w (by omega) rfl).w (by omega) rfl).w (by omega) (by omega)).w (by omega) rfl).n (by decide) (by omega))))
          · try (exfalso; omega)
            all_goals (
              refine k_iload_n C dL_winders_24 rfl ?_
              refine k_aload_n C dL_winders_25 rfl ?_
              refine k_bipush C dL_winders_26 (by decide +kernel) ?_
              refine k_iaload C dL_winders_28 (by repeat (first | exact hs_eq _ _ _ | refine hs_ne (by omega) ?_ | assumption)) (by omega) (by omega) (by omega) ?_
              refine k_callS C (n := 2) (as := [_, _]) (ct_L_at l D tc base _ _ _ (by omega)) ml_L_26 sm_L_at ini_L co_L_at ⟨by decide, by decide, by decide +kernel⟩ rfl ⟨by decide, by decide⟩ rfl (Nat.le_of_ble_eq_true rfl) ⟨Nat.zero_le _, Nat.zero_le _⟩ dL_winders_29 ?_
              rintro _ _ ⟨⟨v29, rfl, p29, q29⟩, rfl⟩
              refine k_istore C dL_winders_32 (by decide) rfl ?_
              refine k_iconst C dL_winders_34 ?_
              refine k_iload C dL_winders_35 rfl ?_
              refine k_imul C dL_winders_37 ?_
              refine k_istore C dL_winders_38 (by decide) rfl ?_
              have loop40 : ∀ (n : Nat) (kk : Int), 5 * v29 ≤ kk → kk ≤ 5 * nu 12 - 5 → 5 * nu 12 - 5 - kk < (n : Int) → Wk D tc base 7 p l e (lvR 5) s m args below meth c 0 0 (MQ below (Qx D tc base (fun r h' => ∃ zn hin : Int → Int, r = some (aI 1) ∧ XA h' rc zn hin htx (sSt st) ln ∧ LA h' an zn kc ∧ zn 13 = zrr 13)) args s 0 0 (fun q => base ≤ q)) 40 [some (aR rc), some (aI xx), some (aI yy), some (aR an), some (aR (an + 3)), some (aI v29), some (aI kk)] [] (hs hpp (an + 3) (eA 0 30 (dWi wi (5 * v29) kk))) := by
                intro n
                induction n with
                | zero =>
                  intro kk k0 k1 hmu
                  exfalso
                  omega
                | succ n ih =>
                  intro kk k0 k1 hmu
                  refine k_iload C dL_winders_40 rfl ?_
                  refine k_iconst C dL_winders_42 ?_
                  refine k_aload_n C dL_winders_43 rfl ?_
                  refine k_bipush C dL_winders_44 (by decide +kernel) ?_
                  refine k_iaload C dL_winders_46 (by repeat (first | exact hs_eq _ _ _ | refine hs_ne (by omega) ?_ | assumption)) (by omega) (by omega) (by omega) ?_
                  try simp (disch := omega) only [hs_hs, iu_ne, iu_eq]
                  refine k_imul C dL_winders_47 ?_
                  refine k_iconst C dL_winders_48 ?_
                  refine k_isub C dL_winders_49 ?_
                  refine k_icmp_ge (tgt := 71) C dL_winders_50 (by decide) ⟨by omega, by omega⟩ ⟨by omega, by omega⟩ (fun c50 => ?_) (fun c50 => ?_)
                  · try (exfalso; omega)
                    all_goals (
                      refine k_aload_n C dL_winders_71 rfl ?_
                      refine k_bipush C dL_winders_72 (by decide +kernel) ?_
                      refine k_dup2 C dL_winders_74 rfl rfl ?_
                      refine k_iaload C dL_winders_75 (by repeat (first | exact hs_eq _ _ _ | refine hs_ne (by omega) ?_ | assumption)) (by omega) (by omega) (by omega) ?_
                      try simp (disch := omega) only [hs_hs, iu_ne, iu_eq]
                      refine k_iconst C dL_winders_76 ?_
                      refine k_isub C dL_winders_77 ?_
                      refine k_iastore C dL_winders_78 (by repeat (first | exact hs_eq _ _ _ | refine hs_ne (by omega) ?_ | assumption)) (by omega) (by omega) (by omega) ?_
                      refine k_aload_n C dL_winders_79 rfl ?_
                      refine k_iload C dL_winders_80 rfl ?_
                      refine k_callV C (n := 1) (as := [_]) (ct_X7_dismiss l D tc base rc _ _ _ _ _ _ (hX.fr (fun aaa a0 a1 => by repeat (first | rfl | refine hs_ne (by omega) ?_))) _ (by omega)) ml_L_51 im_X7_dismiss se_X7_dismiss ini_X7 co_X7_dismiss ⟨rfl, by decide, by decide, by decide +kernel⟩ rfl (ci := 7) rfl (by repeat (first | exact hs_eq _ _ _ | refine hs_ne (by omega) ?_ | assumption)) ⟨by decide, by decide⟩ rfl (Nat.le_of_ble_eq_true rfl) ⟨Nat.zero_le _, Nat.zero_le _⟩ dL_winders_82 ?_
                      rintro _ hw ⟨rfl, hXw, hFw⟩
                      refine k_aload_n C dL_winders_85 rfl ?_
                      refine k_bipush C dL_winders_86 (by decide +kernel) ?_
                      refine k_iaload C dL_winders_88 ((hFw _ (by omega)).trans (by repeat (first | exact hs_eq _ _ _ | refine hs_ne (by omega) ?_ | assumption))) (by omega) (by omega) (by omega) ?_
                      try simp (disch := omega) only [hs_hs, iu_ne, iu_eq]
                      refine k_icmp_neE (tgt := 96) C dL_winders_89 (by decide) (by omega) ?_
                      refine k_iconst C dL_winders_92 ?_
                      refine k_goto (tgt := 97) C dL_winders_93 (by decide) ?_
                      refine k_zret C hr dL_winders_97 (by omega) ?_
                      exact ⟨_, _, rfl, hXw, ⟨_, _, _, _, _, ⟨((hFw _ (by omega)).trans (by repeat (first | exact hs_eq _ _ _ | refine hs_ne (by omega) ?_ | assumption))), ((hFw _ (by omega)).trans (by repeat (first | exact hs_eq _ _ _ | refine hs_ne (by omega) ?_ | assumption))), ((hFw _ (by omega)).trans (by repeat (first | exact hs_eq _ _ _ | refine hs_ne (by omega) ?_ | assumption))), ((hFw _ (by omega)).trans (by repeat (first | exact hs_eq _ _ _ | refine hs_ne (by omega) ?_ | assumption))), ((hFw _ (by omega)).trans (by repeat (first | exact hs_eq _ _ _ | refine hs_ne (by omega) ?_ | assumption)))⟩, hLR.dis (by omega) (by omega) rfl (by omega)⟩, (zDisK_ne (by omega) (by omega))⟩)
                  · try (exfalso; omega)
                    all_goals (
                      refine k_aload C dL_winders_53 rfl ?_
                      refine k_iload C dL_winders_55 rfl ?_
                      refine k_aload C dL_winders_57 rfl ?_
                      refine k_iload C dL_winders_59 rfl ?_
                      refine k_iconst C dL_winders_61 ?_
                      refine k_iadd C dL_winders_62 ?_
                      refine k_iaload C dL_winders_63 (by repeat (first | exact hs_eq _ _ _ | refine hs_ne (by omega) ?_ | assumption)) (by omega) (by omega) (by omega) ?_
                      try simp (disch := omega) only [hs_hs, iu_ne, iu_eq]
                      refine k_iastore C dL_winders_64 (by repeat (first | exact hs_eq _ _ _ | refine hs_ne (by omega) ?_ | assumption)) (by omega) (by omega) (by omega) ?_
                      refine k_iinc C dL_winders_65 rfl (by decide) rfl ?_
                      refine k_goto (tgt := 40) C dL_winders_68 (by decide) ?_
                      have q1 := ih (kk + 1) (by omega) (by omega) (by omega)
                      rw [hs_hs, dWi_s wi k0]
                      exact q1)
              have q1 := loop40 31 (5 * v29) (by omega) (by omega) (by omega)
              rw [dWi_0, hs_same y3] at q1
              exact q1)))

set_option maxRecDepth 20000 in
set_option maxHeartbeats 1000000 in
theorem ct_L_passes (l : Launch) (D : va_G) (tc : Nat → ClassId) (base : Nat) (rc an : Nat) (zrr hhi htx : Int → Int) (st ln kc : Int) (hpp : AH) (hX : XA hpp rc zrr hhi htx st ln) (hA : LA hpp an zrr kc) (hdj : rc + 127 ≤ an) (yy : Int) (hm : zrr 13 ≤ 19600) : CT l D tc base yL_passes cL_passes 10 (some .boolean) 7 [aR rc, aI yy, aR an, aR (an + 1), aR (an + 2), aR (an + 3), aR (an + 4)] hpp (fun r h' => ∃ zn hin : Int → Int, r = some (aI 1) ∧ XA h' rc zn hin htx (sSt st) ln ∧ LA h' an zn kc ∧ zn 13 ≤ zrr 13 + 400) := by
  refine CT.of [some (aR rc), some (aI yy), some (aR an), some (aR (an + 1)), some (aR (an + 2)), some (aR (an + 3)), some (aR (an + 4)), none, none, none] (by decide +kernel) rfl (Nat.le_of_ble_eq_true rfl) ?_
  intro p e s m args below meth c C hr hnm
  obtain ⟨⟨xfs, x0⟩, hok, h13x, hst⟩ := hX.fx
  have hi := hok.1
  obtain ⟨nu, hh, se, wi, de, ⟨y0, y1, y2, y3, y4⟩, hLR⟩ := id hA
  obtain ⟨⟨e0, e1, e2, e3, e4, e5, e6, e7, e8, e9, e10, e11, e12, e13, e14⟩, eh, es, ew, ed⟩ := id hLR
  obtain ⟨⟨g0, g1, g2, g9, g10, g11, g12, g13, g21, g52, g61, g62, g63, g64, g65, g66⟩, hwi, hde⟩ := id hi
  refine k_iconst C dL_passes_0 ?_
  refine k_iload_n C dL_passes_1 rfl ?_
  refine k_iload_n C dL_passes_2 rfl ?_
  refine k_bipush C dL_passes_3 (by decide +kernel) ?_
  refine k_ishrO C dL_passes_5 (fun v5 => ?_)
  refine k_iconst C dL_passes_6 ?_
  refine k_callS C (n := 2) (as := [_, _]) (ct_L_at l D tc base _ _ _ (by omega)) ml_L_26 sm_L_at ini_L co_L_at ⟨by decide, by decide, by decide +kernel⟩ rfl ⟨by decide, by decide⟩ rfl (Nat.le_of_ble_eq_true rfl) ⟨Nat.zero_le _, Nat.zero_le _⟩ dL_passes_7 ?_
  rintro _ _ ⟨⟨v7, rfl, p7, q7⟩, rfl⟩
  refine k_if_ne (tgt := 19) C dL_passes_10 (by decide) ⟨by omega, by omega⟩ (fun c10 => ?_) (fun c10 => ?_)
  · try (exfalso; omega)
    all_goals (
      refine k_bipush C dL_passes_19 (by decide +kernel) ?_
      refine k_callS C (n := 2) (as := [_, _]) (ct_L_at l D tc base _ _ _ (by omega)) ml_L_26 sm_L_at ini_L co_L_at ⟨by decide, by decide, by decide +kernel⟩ rfl ⟨by decide, by decide⟩ rfl (Nat.le_of_ble_eq_true rfl) ⟨Nat.zero_le _, Nat.zero_le _⟩ dL_passes_21 ?_
      rintro _ _ ⟨⟨v21, rfl, p21, q21⟩, rfl⟩
      refine k_iadd C dL_passes_24 ?_
      obtain ⟨nn, hnn⟩ : ∃ nn : Nat, (1 : Int) + v21 = (nn : Int) := ⟨((1 : Int) + v21).toNat, by omega⟩
      rw [hnn]
      refine k_istore C dL_passes_25 (by decide) rfl ?_
      refine k_aload_n C dL_passes_27 rfl ?_
      refine k_iconst C dL_passes_28 ?_
      refine k_iaload C dL_passes_29 y0 (by omega) (by omega) (by omega) ?_
      refine k_istore C dL_passes_30 (by decide) rfl ?_
      refine k_iconst C dL_passes_32 ?_
      refine k_istore C dL_passes_33 (by decide) rfl ?_
      have loop35 : ∀ (n : Nat) (kk : Nat) (hkk : AH), (kk : Int) ≤ nn → LA hkk an (zGo zrr kk) kc → Fr hpp hkk an 5 → (nn : Int) - kk < (n : Int) → Wk D tc base 10 p l e (lvR 7) s m args below meth c 0 0 (MQ below (Qx D tc base (fun r h' => ∃ zn hin : Int → Int, r = some (aI 1) ∧ XA h' rc zn hin htx (sSt st) ln ∧ LA h' an zn kc ∧ zn 13 ≤ zrr 13 + 400)) args s 0 0 (fun q => base ≤ q)) 35 [some (aR rc), some (aI yy), some (aR an), some (aR (an + 1)), some (aR (an + 2)), some (aR (an + 3)), some (aR (an + 4)), some (aI nn), some (aI (nu 5)), some (aI kk)] [] hkk := by
        intro n
        induction n with
        | zero =>
          intro kk hkk hk hAk hFk hmu
          exfalso
          omega
        | succ n ih =>
          intro kk hkk hk hAk hFk hmu
          refine k_iload C dL_passes_35 rfl ?_
          refine k_iload C dL_passes_37 rfl ?_
          refine k_icmp_ge (tgt := 59) C dL_passes_39 (by decide) ⟨by omega, by omega⟩ ⟨by omega, by omega⟩ (fun c39 => ?_) (fun c39 => ?_)
          · try (exfalso; omega)
            all_goals (
              have ekn : kk = nn := by omega
              subst ekn
              obtain ⟨nuk, hhk, sek, wik, dek, ⟨z0, z1, z2, z3, z4⟩, hLRk⟩ := id hAk
              have ez5 : nuk 5 = zGo zrr kk 14 := hLRk.1.2.2.2.2.2.1
              have hgo := zOk_go hok kk
              refine k_aload_n C dL_passes_59 rfl ?_
              refine k_iload C dL_passes_60 rfl ?_
              refine k_callV C (n := 1) (as := [_]) (ct_X7_pass l D tc base rc _ _ _ _ _ _ (hX.fr (fun aaa a0 a1 => hFk aaa (by omega))) kk (by omega) (by omega)) ml_L_62 im_X7_pass se_X7_pass ini_X7 co_X7_pass ⟨rfl, by decide, by decide, by decide +kernel⟩ rfl (ci := 7) rfl ((hFk rc (by omega)).trans x0) ⟨by decide, by decide⟩ rfl (Nat.le_of_ble_eq_true rfl) ⟨Nat.zero_le _, Nat.zero_le _⟩ dL_passes_62 ?_
              rintro _ hw ⟨rfl, hXw, hFw⟩
              have w0 : hw an = some (eA 0 15 nuk) := (hFw an (by omega)).trans z0
              refine k_aload_n C dL_passes_65 rfl ?_
              refine k_iconst C dL_passes_66 ?_
              refine k_iaload C dL_passes_67 w0 (by omega) (by omega) (by omega) ?_
              refine k_iload C dL_passes_68 rfl ?_
              refine k_isub C dL_passes_70 ?_
              refine k_icmp_neE (tgt := 78) C dL_passes_71 (by decide) (by rw [ez5, e5]) ?_
              refine k_iconst C dL_passes_74 ?_
              refine k_goto (tgt := 79) C dL_passes_75 (by decide) ?_
              refine k_zret C hr dL_passes_79 (by omega) ?_
              exact ⟨_, _, rfl, hXw, ⟨nuk, hhk, sek, wik, dek, ⟨(hFw _ (by omega)).trans z0, (hFw _ (by omega)).trans z1, (hFw _ (by omega)).trans z2, (hFw _ (by omega)).trans z3, (hFw _ (by omega)).trans z4⟩, hLRk⟩, by rw [hgo.2.1]; omega⟩)
          · try (exfalso; omega)
            all_goals (
              refine k_aload_n C dL_passes_42 rfl ?_
              refine k_aload_n C dL_passes_43 rfl ?_
              refine k_aload C dL_passes_44 rfl ?_
              refine k_aload C dL_passes_46 rfl ?_
              refine k_aload C dL_passes_48 rfl ?_
              refine k_callS C (n := 5) (as := [_, _, _, _, _]) (ct_L_minute l D tc base an (zGo zrr kk) kc _ hAk (zOk_go hok kk).1 (by have := (zOk_go hok kk).2.1; omega)) ml_L_58 sm_L_minute ini_L co_L_minute ⟨by decide, by decide, by decide +kernel⟩ rfl ⟨by decide, by decide⟩ rfl (Nat.le_of_ble_eq_true rfl) ⟨Nat.zero_le _, Nat.zero_le _⟩ dL_passes_50 ?_
              rintro _ hk2 ⟨rfl, hA2, hF2⟩
              refine k_iinc C dL_passes_53 rfl (by decide) rfl ?_
              refine k_goto (tgt := 35) C dL_passes_56 (by decide) ?_
              have e2 : ((kk + 1 : Nat) : Int) = (kk : Int) + 1 := by omega
              have q1 := ih (kk + 1) hk2 (by omega) hA2 (hFk.tr hF2) (by omega)
              rw [e2] at q1
              exact q1)
      exact loop35 (nn + 1) 0 hpp (by omega) hA (Fr.rf _ _ _) (by omega))
  · try (exfalso; omega)
    all_goals (
      refine k_sipush C dL_passes_13 (by decide +kernel) ?_
      refine k_goto (tgt := 21) C dL_passes_16 (by decide) ?_
      refine k_callS C (n := 2) (as := [_, _]) (ct_L_at l D tc base _ _ _ (by omega)) ml_L_26 sm_L_at ini_L co_L_at ⟨by decide, by decide, by decide +kernel⟩ rfl ⟨by decide, by decide⟩ rfl (Nat.le_of_ble_eq_true rfl) ⟨Nat.zero_le _, Nat.zero_le _⟩ dL_passes_21 ?_
      rintro _ _ ⟨⟨v21, rfl, p21, q21⟩, rfl⟩
      refine k_iadd C dL_passes_24 ?_
      obtain ⟨nn, hnn⟩ : ∃ nn : Nat, (1 : Int) + v21 = (nn : Int) := ⟨((1 : Int) + v21).toNat, by omega⟩
      rw [hnn]
      refine k_istore C dL_passes_25 (by decide) rfl ?_
      refine k_aload_n C dL_passes_27 rfl ?_
      refine k_iconst C dL_passes_28 ?_
      refine k_iaload C dL_passes_29 y0 (by omega) (by omega) (by omega) ?_
      refine k_istore C dL_passes_30 (by decide) rfl ?_
      refine k_iconst C dL_passes_32 ?_
      refine k_istore C dL_passes_33 (by decide) rfl ?_
      have loop35 : ∀ (n : Nat) (kk : Nat) (hkk : AH), (kk : Int) ≤ nn → LA hkk an (zGo zrr kk) kc → Fr hpp hkk an 5 → (nn : Int) - kk < (n : Int) → Wk D tc base 10 p l e (lvR 7) s m args below meth c 0 0 (MQ below (Qx D tc base (fun r h' => ∃ zn hin : Int → Int, r = some (aI 1) ∧ XA h' rc zn hin htx (sSt st) ln ∧ LA h' an zn kc ∧ zn 13 ≤ zrr 13 + 400)) args s 0 0 (fun q => base ≤ q)) 35 [some (aR rc), some (aI yy), some (aR an), some (aR (an + 1)), some (aR (an + 2)), some (aR (an + 3)), some (aR (an + 4)), some (aI nn), some (aI (nu 5)), some (aI kk)] [] hkk := by
        intro n
        induction n with
        | zero =>
          intro kk hkk hk hAk hFk hmu
          exfalso
          omega
        | succ n ih =>
          intro kk hkk hk hAk hFk hmu
          refine k_iload C dL_passes_35 rfl ?_
          refine k_iload C dL_passes_37 rfl ?_
          refine k_icmp_ge (tgt := 59) C dL_passes_39 (by decide) ⟨by omega, by omega⟩ ⟨by omega, by omega⟩ (fun c39 => ?_) (fun c39 => ?_)
          · try (exfalso; omega)
            all_goals (
              have ekn : kk = nn := by omega
              subst ekn
              obtain ⟨nuk, hhk, sek, wik, dek, ⟨z0, z1, z2, z3, z4⟩, hLRk⟩ := id hAk
              have ez5 : nuk 5 = zGo zrr kk 14 := hLRk.1.2.2.2.2.2.1
              have hgo := zOk_go hok kk
              refine k_aload_n C dL_passes_59 rfl ?_
              refine k_iload C dL_passes_60 rfl ?_
              refine k_callV C (n := 1) (as := [_]) (ct_X7_pass l D tc base rc _ _ _ _ _ _ (hX.fr (fun aaa a0 a1 => hFk aaa (by omega))) kk (by omega) (by omega)) ml_L_62 im_X7_pass se_X7_pass ini_X7 co_X7_pass ⟨rfl, by decide, by decide, by decide +kernel⟩ rfl (ci := 7) rfl ((hFk rc (by omega)).trans x0) ⟨by decide, by decide⟩ rfl (Nat.le_of_ble_eq_true rfl) ⟨Nat.zero_le _, Nat.zero_le _⟩ dL_passes_62 ?_
              rintro _ hw ⟨rfl, hXw, hFw⟩
              have w0 : hw an = some (eA 0 15 nuk) := (hFw an (by omega)).trans z0
              refine k_aload_n C dL_passes_65 rfl ?_
              refine k_iconst C dL_passes_66 ?_
              refine k_iaload C dL_passes_67 w0 (by omega) (by omega) (by omega) ?_
              refine k_iload C dL_passes_68 rfl ?_
              refine k_isub C dL_passes_70 ?_
              refine k_icmp_neE (tgt := 78) C dL_passes_71 (by decide) (by rw [ez5, e5]) ?_
              refine k_iconst C dL_passes_74 ?_
              refine k_goto (tgt := 79) C dL_passes_75 (by decide) ?_
              refine k_zret C hr dL_passes_79 (by omega) ?_
              exact ⟨_, _, rfl, hXw, ⟨nuk, hhk, sek, wik, dek, ⟨(hFw _ (by omega)).trans z0, (hFw _ (by omega)).trans z1, (hFw _ (by omega)).trans z2, (hFw _ (by omega)).trans z3, (hFw _ (by omega)).trans z4⟩, hLRk⟩, by rw [hgo.2.1]; omega⟩)
          · try (exfalso; omega)
            all_goals (
              refine k_aload_n C dL_passes_42 rfl ?_
              refine k_aload_n C dL_passes_43 rfl ?_
              refine k_aload C dL_passes_44 rfl ?_
              refine k_aload C dL_passes_46 rfl ?_
              refine k_aload C dL_passes_48 rfl ?_
              refine k_callS C (n := 5) (as := [_, _, _, _, _]) (ct_L_minute l D tc base an (zGo zrr kk) kc _ hAk (zOk_go hok kk).1 (by have := (zOk_go hok kk).2.1; omega)) ml_L_58 sm_L_minute ini_L co_L_minute ⟨by decide, by decide, by decide +kernel⟩ rfl ⟨by decide, by decide⟩ rfl (Nat.le_of_ble_eq_true rfl) ⟨Nat.zero_le _, Nat.zero_le _⟩ dL_passes_50 ?_
              rintro _ hk2 ⟨rfl, hA2, hF2⟩
              refine k_iinc C dL_passes_53 rfl (by decide) rfl ?_
              refine k_goto (tgt := 35) C dL_passes_56 (by decide) ?_
              have e2 : ((kk + 1 : Nat) : Int) = (kk : Int) + 1 := by omega
              have q1 := ih (kk + 1) hk2 (by omega) hA2 (hFk.tr hF2) (by omega)
              rw [e2] at q1
              exact q1)
      exact loop35 (nn + 1) 0 hpp (by omega) hA (Fr.rf _ _ _) (by omega))
