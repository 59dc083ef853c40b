set_option maxRecDepth 20000 in
set_option maxHeartbeats 1000000 in
theorem lw_tail {D : va_G} {tc : Nat → ClassId} {base : Nat} {p : Program} {l : Launch} {e : Env} {s : State} {m : MethodId} {args : Array Value} {below : List Frame} {meth : Method} {c : Code} {Q : State → Prop} (C : Cx D tc base RL cL_law 12 p s m args meth c) (hcc : 132 ≤ room_1.cells ∧ 1519 ≤ room_1.slots) (zrr hhi htx : Int → Int) (st kq : Int) (hpp : AH) (hX : XA hpp base zrr hhi htx st 0) (hA : LA hpp (base + 127) zrr st) (b : Nat) (kend : Wk D tc base 12 p l e room_1 s m args below meth c 132 1519 Q 186 [some (aR b), some (aR base), some (aR (base + 127)), some (aR (base + 127 + 1)), some (aR (base + 127 + 2)), some (aR (base + 127 + 3)), some (aR (base + 127 + 4)), some (aI kq), none, none, none, none] [] hpp) : Wk D tc base 12 p l e room_1 s m args below meth c 132 1519 Q 164 [some (aR b), some (aR base), some (aR (base + 127)), some (aR (base + 127 + 1)), some (aR (base + 127 + 2)), some (aR (base + 127 + 3)), some (aR (base + 127 + 4)), some (aI kq), none, none, none, some (aI 1)] [] hpp := by
  refine k_iload C dL_law_164 rfl ?_
  refine k_if_eq (tgt := 184) C dL_law_166 (by decide) ⟨by omega, by omega⟩ (fun c166 => ?_) (fun c166 => ?_)
  · try (exfalso; omega)
    all_goals (
      refine k_iconst C dL_law_184 ?_
      refine k_zret C hr dL_law_185 (by omega) ?_
      exact ⟨rfl, rfl⟩)
  · try (exfalso; omega)
    all_goals (
      refine k_aload_n C dL_law_169 rfl ?_
      refine k_aload_n C dL_law_170 rfl ?_
      refine k_aload_n C dL_law_171 rfl ?_
      refine k_aload C dL_law_172 rfl ?_
      refine k_aload C dL_law_174 rfl ?_
      refine k_aload C dL_law_176 rfl ?_
      refine k_callS C (n := 6) (as := [_, _, _, _, _, _]) (ct_L_told l D tc base base (base + 127) zrr hhi htx st 0 _ hX hA) ml_L_101 sm_L_told ini_L co_L_told ⟨by decide, by decide, by decide +kernel⟩ rfl ⟨by decide, by decide⟩ rfl (Nat.le_of_ble_eq_true rfl) hcc dL_law_178 ?_
      rintro _ _ ⟨rfl, rfl⟩
      refine k_if_ne (tgt := 186) C dL_law_181 (by decide) ⟨by omega, by omega⟩ (fun c181 => ?_) (fun c181 => ?_)
      · try (exfalso; omega)
        all_goals (
          exact k_sub kend ((And.intro rfl (And.intro rfl (And.intro rfl (And.intro rfl (And.intro rfl (And.intro rfl (And.intro rfl (And.intro rfl trivial))))))))))
      · try (exfalso; omega)
        all_goals (
          refine k_iconst C dL_law_184 ?_
          refine k_zret C hr dL_law_185 (by omega) ?_
          exact ⟨rfl, rfl⟩))

set_option maxRecDepth 20000 in
set_option maxHeartbeats 1000000 in
theorem lw_loop {D : va_G} {tc : Nat → ClassId} {base : Nat} {p : Program} {l : Launch} {e : Env} {s : State} {m : MethodId} {args : Array Value} {below : List Frame} {meth : Method} {c : Code} {Q : State → Prop} (C : Cx D tc base RL cL_law 12 p s m args meth c) (hcc : 132 ≤ room_1.cells ∧ 1519 ≤ room_1.slots) {b LL : Nat} {xs : Nat → Int32} (hSc : Scr base b LL xs s) (hpp : AH) (hX : XA hpp base zInit (fun _ => 0) (fun _ => 0) 0 0) (hA : LA hpp (base + 127) zInit 0) (kend : ∀ (hx : AH) (Lx : List (Option AV)), Wk D tc base 12 p l e room_1 s m args below meth c 132 1519 Q 192 Lx [] hx) : Wk D tc base 12 p l e room_1 s m args below meth c 132 1519 Q 46 [some (aR b), some (aR base), some (aR (base + 127)), some (aR (base + 127 + 1)), some (aR (base + 127 + 2)), some (aR (base + 127 + 3)), some (aR (base + 127 + 4)), some (aI 0), none, none, none, none] [] hpp := by
  have loop46 : ∀ (n : Nat) (kk : Nat) (hkk : AH) (zz hik : Int → Int) (stk : Int), kk ≤ 30 → XA hkk base zz hik (fun _ => 0) stk 0 → LA hkk (base + 127) zz stk → zz 13 ≤ 400 * kk → (30 : Int) - kk < (n : Int) → Wk D tc base 12 p l e room_1 s m args below meth c 132 1519 Q 46 [some (aR b), some (aR base), some (aR (base + 127)), some (aR (base + 127 + 1)), some (aR (base + 127 + 2)), some (aR (base + 127 + 3)), some (aR (base + 127 + 4)), some (aI kk), none, none, none, none] [] hkk := by
    intro n
    induction n with
    | zero =>
      intro kk hkk zz hik stk hk hXk hAk h13 hmu
      exfalso
      omega
    | succ n ih =>
      intro kk hkk zz hik stk hk hXk hAk h13 hmu
      refine k_iload C dL_law_46 rfl ?_
      refine k_bipush C dL_law_48 (by decide +kernel) ?_
      refine k_icmp_ge (tgt := 192) C dL_law_50 (by decide) ⟨by omega, by omega⟩ ⟨by omega, by omega⟩ (fun c50 => ?_) (fun c50 => ?_)
      · try (exfalso; omega)
        all_goals (
          exact kend _ _)
      · try (exfalso; omega)
        all_goals (
          refine k_aload_n C dL_law_53 rfl ?_
          refine k_iconst C dL_law_54 ?_
          refine k_iload C dL_law_55 rfl ?_
          refine k_imul C dL_law_57 ?_
          refine k_callC C hSc (n := 2) (as := [_, _]) (cs_L_cell l D tc base b LL xs _ _ (by omega)) ml_L_85 sm_L_cell ini_L co_L_cell ⟨by decide, by decide, by decide +kernel⟩ rfl ⟨by decide, by decide⟩ rfl (Nat.le_of_ble_eq_true rfl) hcc dL_law_58 ?_
          rintro _ _ ⟨⟨vx, rfl⟩, rfl⟩
          refine k_istore C dL_law_61 (by decide) rfl ?_
          refine k_aload_n C dL_law_63 rfl ?_
          refine k_iconst C dL_law_64 ?_
          refine k_iload C dL_law_65 rfl ?_
          refine k_imul C dL_law_67 ?_
          refine k_iconst C dL_law_68 ?_
          refine k_iadd C dL_law_69 ?_
          refine k_callC C hSc (n := 2) (as := [_, _]) (cs_L_cell l D tc base b LL xs _ _ (by omega)) ml_L_85 sm_L_cell ini_L co_L_cell ⟨by decide, by decide, by decide +kernel⟩ rfl ⟨by decide, by decide⟩ rfl (Nat.le_of_ble_eq_true rfl) hcc dL_law_70 ?_
          rintro _ _ ⟨⟨vy, rfl⟩, rfl⟩
          refine k_istore C dL_law_73 (by decide) rfl ?_
          refine k_iload C dL_law_75 rfl ?_
          refine k_bipush C dL_law_77 (by decide +kernel) ?_
          refine k_ishrO C dL_law_79 (fun v79 => ?_)
          refine k_bipush C dL_law_80 (by decide +kernel) ?_
          refine k_callS C (n := 2) (as := [_, _]) (ct_L_at l D tc base _ _ _ (by omega)) ml_L_26 sm_L_at ini_L co_L_at ⟨by decide, by decide, by decide +kernel⟩ rfl ⟨by decide, by decide⟩ rfl (Nat.le_of_ble_eq_true rfl) hcc dL_law_82 ?_
          rintro _ _ ⟨⟨va, rfl, pa, qa⟩, rfl⟩
          refine k_istore C dL_law_85 (by decide) rfl ?_
          refine k_iload C dL_law_87 rfl ?_
          refine k_iconst C dL_law_89 ?_
          refine k_icmp_ge (tgt := 110) C dL_law_90 (by decide) ⟨by omega, by omega⟩ ⟨by omega, by omega⟩ (fun c90 => ?_) (fun c90 => ?_)
          · try (exfalso; omega)
            all_goals (
              refine k_iload C dL_law_110 rfl ?_
              refine k_bipush C dL_law_112 (by decide +kernel) ?_
              refine k_icmp_ge (tgt := 131) C dL_law_114 (by decide) ⟨by omega, by omega⟩ ⟨by omega, by omega⟩ (fun c114 => ?_) (fun c114 => ?_)
              · try (exfalso; omega)
                all_goals (
                  refine k_aload_n C dL_law_131 rfl ?_
                  refine k_iload C dL_law_132 rfl ?_
                  refine k_aload_n C dL_law_134 rfl ?_
                  refine k_aload_n C dL_law_135 rfl ?_
                  refine k_aload C dL_law_136 rfl ?_
                  refine k_aload C dL_law_138 rfl ?_
                  refine k_aload C dL_law_140 rfl ?_
                  refine k_callS C (n := 7) (as := [_, _, _, _, _, _, _]) (ct_L_passes l D tc base base (base + 127) zz hik _ stk 0 stk _ hXk hAk (by omega) _ (by omega)) ml_L_97 sm_L_passes ini_L co_L_passes ⟨by decide, by decide, by decide +kernel⟩ rfl ⟨by decide, by decide⟩ rfl (Nat.le_of_ble_eq_true rfl) hcc dL_law_142 ?_
                  rintro _ ha2 ⟨zn, hin, rfl, hX2, hA2, hz13⟩
                  obtain ⟨nu, hh, se, wi, de, ⟨y0, y1, y2, y3, y4⟩, hLR⟩ := id hA2
                  obtain ⟨⟨-, -, -, -, -, -, -, -, -, -, -, -, -, -, e14⟩, -⟩ := id hLR
                  obtain ⟨-, -, -, hst6⟩ := hXk.fx
                  refine k_istore C dL_law_145 (by decide) rfl ?_
                  refine k_aload_n C dL_law_147 rfl ?_
                  refine k_bipush C dL_law_148 (by decide +kernel) ?_
                  refine k_iaload C dL_law_150 (by repeat (first | exact hs_eq _ _ _ | refine hs_ne (by omega) ?_ | assumption)) (by omega) (by omega) (by omega) ?_
                  refine k_bipush C dL_law_151 (by decide +kernel) ?_
                  refine k_icmp_ge (tgt := 164) C dL_law_153 (by decide) ⟨by omega, by omega⟩ ⟨by omega, by omega⟩ (fun c153 => ?_) (fun c153 => ?_)
                  · try (exfalso; omega)
                    all_goals (
                      first
                        | (have hs6 : stk < 6 := by omega
                           have es : sSt stk = nu 14 + 1 := by
                             unfold sSt
                             rw [if_neg (by omega)]
                             omega
                           have hXt : XA (hs ha2 (base + 127) (eA 0 15 (iu nu 14 (nu 14 + 1)))) base zn hin (fun _ => 0) (sSt stk) 0 := hX2.fr (fun aaa a0 a1 => hs_ne (by omega) rfl)
                           have hAt : LA (hs ha2 (base + 127) (eA 0 15 (iu nu 14 (nu 14 + 1)))) (base + 127) zn (sSt stk) := ⟨_, _, _, _, _, ⟨(by repeat (first | exact hs_eq _ _ _ | refine hs_ne (by omega) ?_ | assumption)), (by repeat (first | exact hs_eq _ _ _ | refine hs_ne (by omega) ?_ | assumption)), (by repeat (first | exact hs_eq _ _ _ | refine hs_ne (by omega) ?_ | assumption)), (by repeat (first | exact hs_eq _ _ _ | refine hs_ne (by omega) ?_ | assumption)), (by repeat (first | exact hs_eq _ _ _ | refine hs_ne (by omega) ?_ | assumption))⟩, by rw [es]; exact hLR.cnt⟩
                           refine k_sub (lw_tail C hcc zn hin _ (sSt stk) kk _ hXt hAt b ?_) ((And.intro rfl (And.intro rfl (And.intro rfl (And.intro rfl (And.intro rfl (And.intro rfl (And.intro rfl (And.intro rfl (And.intro rfl trivial))))))))))
                           have e2 : ((kk + 1 : Nat) : Int) = (kk : Int) + 1 := by omega
                           refine k_iinc C dL_law_186 rfl (by decide) rfl ?_
                           refine k_goto (tgt := 46) C dL_law_189 (by decide) ?_
                           have q1 := ih (kk + 1) _ zn hin (sSt stk) (by omega) hXt hAt (by omega) (by omega)
                           rw [e2] at q1
                           exact q1)
                        | (have es : sSt stk = stk := by
                             unfold sSt
                             split <;> omega
                           have hXt : XA ha2 base zn hin (fun _ => 0) (sSt stk) 0 := hX2
                           have hAt : LA ha2 (base + 127) zn (sSt stk) := by rw [es]; exact hA2
                           refine k_sub (lw_tail C hcc zn hin _ (sSt stk) kk _ hXt hAt b ?_) ((And.intro rfl (And.intro rfl (And.intro rfl (And.intro rfl (And.intro rfl (And.intro rfl (And.intro rfl (And.intro rfl (And.intro rfl trivial))))))))))
                           have e2 : ((kk + 1 : Nat) : Int) = (kk : Int) + 1 := by omega
                           refine k_iinc C dL_law_186 rfl (by decide) rfl ?_
                           refine k_goto (tgt := 46) C dL_law_189 (by decide) ?_
                           have q1 := ih (kk + 1) _ zn hin (sSt stk) (by omega) hXt hAt (by omega) (by omega)
                           rw [e2] at q1
                           exact q1))
                  · try (exfalso; omega)
                    all_goals (
                      refine k_aload_n C dL_law_156 rfl ?_
                      refine k_bipush C dL_law_157 (by decide +kernel) ?_
                      refine k_dup2 C dL_law_159 rfl rfl ?_
                      refine k_iaload C dL_law_160 (by repeat (first | exact hs_eq _ _ _ | refine hs_ne (by omega) ?_ | assumption)) (by omega) (by omega) (by omega) ?_
                      refine k_iconst C dL_law_161 ?_
                      refine k_iadd C dL_law_162 ?_
                      refine k_iastore C dL_law_163 (by repeat (first | exact hs_eq _ _ _ | refine hs_ne (by omega) ?_ | assumption)) (by omega) (by omega) (by omega) ?_
                      first
                        | (have hs6 : stk < 6 := by omega
                           have es : sSt stk = nu 14 + 1 := by
                             unfold sSt
                             rw [if_neg (by omega)]
                             omega
                           have hXt : XA (hs ha2 (base + 127) (eA 0 15 (iu nu 14 (nu 14 + 1)))) base zn hin (fun _ => 0) (sSt stk) 0 := hX2.fr (fun aaa a0 a1 => hs_ne (by omega) rfl)
                           have hAt : LA (hs ha2 (base + 127) (eA 0 15 (iu nu 14 (nu 14 + 1)))) (base + 127) zn (sSt stk) := ⟨_, _, _, _, _, ⟨(by repeat (first | exact hs_eq _ _ _ | refine hs_ne (by omega) ?_ | assumption)), (by repeat (first | exact hs_eq _ _ _ | refine hs_ne (by omega) ?_ | assumption)), (by repeat (first | exact hs_eq _ _ _ | refine hs_ne (by omega) ?_ | assumption)), (by repeat (first | exact hs_eq _ _ _ | refine hs_ne (by omega) ?_ | assumption)), (by repeat (first | exact hs_eq _ _ _ | refine hs_ne (by omega) ?_ | assumption))⟩, by rw [es]; exact hLR.cnt⟩
                           refine k_sub (lw_tail C hcc zn hin _ (sSt stk) kk _ hXt hAt b ?_) ((And.intro rfl (And.intro rfl (And.intro rfl (And.intro rfl (And.intro rfl (And.intro rfl (And.intro rfl (And.intro rfl (And.intro rfl trivial))))))))))
                           have e2 : ((kk + 1 : Nat) : Int) = (kk : Int) + 1 := by omega
                           refine k_iinc C dL_law_186 rfl (by decide) rfl ?_
                           refine k_goto (tgt := 46) C dL_law_189 (by decide) ?_
                           have q1 := ih (kk + 1) _ zn hin (sSt stk) (by omega) hXt hAt (by omega) (by omega)
                           rw [e2] at q1
                           exact q1)
                        | (have es : sSt stk = stk := by
                             unfold sSt
                             split <;> omega
                           have hXt : XA ha2 base zn hin (fun _ => 0) (sSt stk) 0 := hX2
                           have hAt : LA ha2 (base + 127) zn (sSt stk) := by rw [es]; exact hA2
                           refine k_sub (lw_tail C hcc zn hin _ (sSt stk) kk _ hXt hAt b ?_) ((And.intro rfl (And.intro rfl (And.intro rfl (And.intro rfl (And.intro rfl (And.intro rfl (And.intro rfl (And.intro rfl (And.intro rfl trivial))))))))))
                           have e2 : ((kk + 1 : Nat) : Int) = (kk : Int) + 1 := by omega
                           refine k_iinc C dL_law_186 rfl (by decide) rfl ?_
                           refine k_goto (tgt := 46) C dL_law_189 (by decide) ?_
                           have q1 := ih (kk + 1) _ zn hin (sSt stk) (by omega) hXt hAt (by omega) (by omega)
                           rw [e2] at q1
                           exact q1)))
              · try (exfalso; omega)
                all_goals (
                  refine k_aload_n C dL_law_117 rfl ?_
                  refine k_iload C dL_law_118 rfl ?_
                  refine k_iload C dL_law_120 rfl ?_
                  refine k_aload_n C dL_law_122 rfl ?_
                  refine k_aload C dL_law_123 rfl ?_
                  refine k_callS C (n := 5) (as := [_, _, _, _, _]) (ct_L_winders l D tc base base (base + 127) zz hik _ stk 0 stk _ hXk hAk (by omega) _ _) ml_L_93 sm_L_winders ini_L co_L_winders ⟨by decide, by decide, by decide +kernel⟩ rfl ⟨by decide, by decide⟩ rfl (Nat.le_of_ble_eq_true rfl) hcc dL_law_125 ?_
                  rintro _ ha2 ⟨zn, hin, rfl, hX2, hA2, hz13⟩
                  obtain ⟨nu, hh, se, wi, de, ⟨y0, y1, y2, y3, y4⟩, hLR⟩ := id hA2
                  obtain ⟨⟨-, -, -, -, -, -, -, -, -, -, -, -, -, -, e14⟩, -⟩ := id hLR
                  obtain ⟨-, -, -, hst6⟩ := hXk.fx
                  refine k_goto (tgt := 145) C dL_law_128 (by decide) ?_
                  refine k_istore C dL_law_145 (by decide) rfl ?_
                  refine k_aload_n C dL_law_147 rfl ?_
                  refine k_bipush C dL_law_148 (by decide +kernel) ?_
                  refine k_iaload C dL_law_150 (by repeat (first | exact hs_eq _ _ _ | refine hs_ne (by omega) ?_ | assumption)) (by omega) (by omega) (by omega) ?_
                  refine k_bipush C dL_law_151 (by decide +kernel) ?_
                  refine k_icmp_ge (tgt := 164) C dL_law_153 (by decide) ⟨by omega, by omega⟩ ⟨by omega, by omega⟩ (fun c153 => ?_) (fun c153 => ?_)
                  · try (exfalso; omega)
                    all_goals (
                      first
                        | (have hs6 : stk < 6 := by omega
                           have es : sSt stk = nu 14 + 1 := by
                             unfold sSt
                             rw [if_neg (by omega)]
                             omega
                           have hXt : XA (hs ha2 (base + 127) (eA 0 15 (iu nu 14 (nu 14 + 1)))) base zn hin (fun _ => 0) (sSt stk) 0 := hX2.fr (fun aaa a0 a1 => hs_ne (by omega) rfl)
                           have hAt : LA (hs ha2 (base + 127) (eA 0 15 (iu nu 14 (nu 14 + 1)))) (base + 127) zn (sSt stk) := ⟨_, _, _, _, _, ⟨(by repeat (first | exact hs_eq _ _ _ | refine hs_ne (by omega) ?_ | assumption)), (by repeat (first | exact hs_eq _ _ _ | refine hs_ne (by omega) ?_ | assumption)), (by repeat (first | exact hs_eq _ _ _ | refine hs_ne (by omega) ?_ | assumption)), (by repeat (first | exact hs_eq _ _ _ | refine hs_ne (by omega) ?_ | assumption)), (by repeat (first | exact hs_eq _ _ _ | refine hs_ne (by omega) ?_ | assumption))⟩, by rw [es]; exact hLR.cnt⟩
                           refine k_sub (lw_tail C hcc zn hin _ (sSt stk) kk _ hXt hAt b ?_) ((And.intro rfl (And.intro rfl (And.intro rfl (And.intro rfl (And.intro rfl (And.intro rfl (And.intro rfl (And.intro rfl (And.intro rfl trivial))))))))))
                           have e2 : ((kk + 1 : Nat) : Int) = (kk : Int) + 1 := by omega
                           refine k_iinc C dL_law_186 rfl (by decide) rfl ?_
                           refine k_goto (tgt := 46) C dL_law_189 (by decide) ?_
                           have q1 := ih (kk + 1) _ zn hin (sSt stk) (by omega) hXt hAt (by omega) (by omega)
                           rw [e2] at q1
                           exact q1)
                        | (have es : sSt stk = stk := by
                             unfold sSt
                             split <;> omega
                           have hXt : XA ha2 base zn hin (fun _ => 0) (sSt stk) 0 := hX2
                           have hAt : LA ha2 (base + 127) zn (sSt stk) := by rw [es]; exact hA2
                           refine k_sub (lw_tail C hcc zn hin _ (sSt stk) kk _ hXt hAt b ?_) ((And.intro rfl (And.intro rfl (And.intro rfl (And.intro rfl (And.intro rfl (And.intro rfl (And.intro rfl (And.intro rfl (And.intro rfl trivial))))))))))
                           have e2 : ((kk + 1 : Nat) : Int) = (kk : Int) + 1 := by omega
                           refine k_iinc C dL_law_186 rfl (by decide) rfl ?_
                           refine k_goto (tgt := 46) C dL_law_189 (by decide) ?_
                           have q1 := ih (kk + 1) _ zn hin (sSt stk) (by omega) hXt hAt (by omega) (by omega)
                           rw [e2] at q1
                           exact q1))
                  · try (exfalso; omega)
                    all_goals (
                      refine k_aload_n C dL_law_156 rfl ?_
                      refine k_bipush C dL_law_157 (by decide +kernel) ?_
                      refine k_dup2 C dL_law_159 rfl rfl ?_
                      refine k_iaload C dL_law_160 (by repeat (first | exact hs_eq _ _ _ | refine hs_ne (by omega) ?_ | assumption)) (by omega) (by omega) (by omega) ?_
                      refine k_iconst C dL_law_161 ?_
                      refine k_iadd C dL_law_162 ?_
                      refine k_iastore C dL_law_163 (by repeat (first | exact hs_eq _ _ _ | refine hs_ne (by omega) ?_ | assumption)) (by omega) (by omega) (by omega) ?_
                      first
                        | (have hs6 : stk < 6 := by omega
                           have es : sSt stk = nu 14 + 1 := by
                             unfold sSt
                             rw [if_neg (by omega)]
                             omega
                           have hXt : XA (hs ha2 (base + 127) (eA 0 15 (iu nu 14 (nu 14 + 1)))) base zn hin (fun _ => 0) (sSt stk) 0 := hX2.fr (fun aaa a0 a1 => hs_ne (by omega) rfl)
                           have hAt : LA (hs ha2 (base + 127) (eA 0 15 (iu nu 14 (nu 14 + 1)))) (base + 127) zn (sSt stk) := ⟨_, _, _, _, _, ⟨(by repeat (first | exact hs_eq _ _ _ | refine hs_ne (by omega) ?_ | assumption)), (by repeat (first | exact hs_eq _ _ _ | refine hs_ne (by omega) ?_ | assumption)), (by repeat (first | exact hs_eq _ _ _ | refine hs_ne (by omega) ?_ | assumption)), (by repeat (first | exact hs_eq _ _ _ | refine hs_ne (by omega) ?_ | assumption)), (by repeat (first | exact hs_eq _ _ _ | refine hs_ne (by omega) ?_ | assumption))⟩, by rw [es]; exact hLR.cnt⟩
                           refine k_sub (lw_tail C hcc zn hin _ (sSt stk) kk _ hXt hAt b ?_) ((And.intro rfl (And.intro rfl (And.intro rfl (And.intro rfl (And.intro rfl (And.intro rfl (And.intro rfl (And.intro rfl (And.intro rfl trivial))))))))))
                           have e2 : ((kk + 1 : Nat) : Int) = (kk : Int) + 1 := by omega
                           refine k_iinc C dL_law_186 rfl (by decide) rfl ?_
                           refine k_goto (tgt := 46) C dL_law_189 (by decide) ?_
                           have q1 := ih (kk + 1) _ zn hin (sSt stk) (by omega) hXt hAt (by omega) (by omega)
                           rw [e2] at q1
                           exact q1)
                        | (have es : sSt stk = stk := by
                             unfold sSt
                             split <;> omega
                           have hXt : XA ha2 base zn hin (fun _ => 0) (sSt stk) 0 := hX2
                           have hAt : LA ha2 (base + 127) zn (sSt stk) := by rw [es]; exact hA2
                           refine k_sub (lw_tail C hcc zn hin _ (sSt stk) kk _ hXt hAt b ?_) ((And.intro rfl (And.intro rfl (And.intro rfl (And.intro rfl (And.intro rfl (And.intro rfl (And.intro rfl (And.intro rfl (And.intro rfl trivial))))))))))
                           have e2 : ((kk + 1 : Nat) : Int) = (kk : Int) + 1 := by omega
                           refine k_iinc C dL_law_186 rfl (by decide) rfl ?_
                           refine k_goto (tgt := 46) C dL_law_189 (by decide) ?_
                           have q1 := ih (kk + 1) _ zn hin (sSt stk) (by omega) hXt hAt (by omega) (by omega)
                           rw [e2] at q1
                           exact q1))))
          · try (exfalso; omega)
            all_goals (
              refine k_aload_n C dL_law_93 rfl ?_
              refine k_iload C dL_law_94 rfl ?_
              refine k_iload C dL_law_96 rfl ?_
              refine k_aload_n C dL_law_98 rfl ?_
              refine k_aload_n C dL_law_99 rfl ?_
              refine k_aload C dL_law_100 rfl ?_
              refine k_aload C dL_law_102 rfl ?_
              refine k_callS C (n := 7) (as := [_, _, _, _, _, _, _]) (ct_L_hands l D tc base base (base + 127) zz hik _ stk 0 stk _ hXk hAk (by omega) _ _) ml_L_89 sm_L_hands ini_L co_L_hands ⟨by decide, by decide, by decide +kernel⟩ rfl ⟨by decide, by decide⟩ rfl (Nat.le_of_ble_eq_true rfl) hcc dL_law_104 ?_
              rintro _ ha2 ⟨zn, hin, rfl, hX2, hA2, hz13⟩
              obtain ⟨nu, hh, se, wi, de, ⟨y0, y1, y2, y3, y4⟩, hLR⟩ := id hA2
              obtain ⟨⟨-, -, -, -, -, -, -, -, -, -, -, -, -, -, e14⟩, -⟩ := id hLR
              obtain ⟨-, -, -, hst6⟩ := hXk.fx
              refine k_goto (tgt := 145) C dL_law_107 (by decide) ?_
              refine k_istore C dL_law_145 (by decide) rfl ?_
              refine k_aload_n C dL_law_147 rfl ?_
              refine k_bipush C dL_law_148 (by decide +kernel) ?_
              refine k_iaload C dL_law_150 (by repeat (first | exact hs_eq _ _ _ | refine hs_ne (by omega) ?_ | assumption)) (by omega) (by omega) (by omega) ?_
              refine k_bipush C dL_law_151 (by decide +kernel) ?_
              refine k_icmp_ge (tgt := 164) C dL_law_153 (by decide) ⟨by omega, by omega⟩ ⟨by omega, by omega⟩ (fun c153 => ?_) (fun c153 => ?_)
              · try (exfalso; omega)
                all_goals (
                  first
                    | (have hs6 : stk < 6 := by omega
                       have es : sSt stk = nu 14 + 1 := by
                         unfold sSt
                         rw [if_neg (by omega)]
                         omega
                       have hXt : XA (hs ha2 (base + 127) (eA 0 15 (iu nu 14 (nu 14 + 1)))) base zn hin (fun _ => 0) (sSt stk) 0 := hX2.fr (fun aaa a0 a1 => hs_ne (by omega) rfl)
                       have hAt : LA (hs ha2 (base + 127) (eA 0 15 (iu nu 14 (nu 14 + 1)))) (base + 127) zn (sSt stk) := ⟨_, _, _, _, _, ⟨(by repeat (first | exact hs_eq _ _ _ | refine hs_ne (by omega) ?_ | assumption)), (by repeat (first | exact hs_eq _ _ _ | refine hs_ne (by omega) ?_ | assumption)), (by repeat (first | exact hs_eq _ _ _ | refine hs_ne (by omega) ?_ | assumption)), (by repeat (first | exact hs_eq _ _ _ | refine hs_ne (by omega) ?_ | assumption)), (by repeat (first | exact hs_eq _ _ _ | refine hs_ne (by omega) ?_ | assumption))⟩, by rw [es]; exact hLR.cnt⟩
                       refine k_sub (lw_tail C hcc zn hin _ (sSt stk) kk _ hXt hAt b ?_) ((And.intro rfl (And.intro rfl (And.intro rfl (And.intro rfl (And.intro rfl (And.intro rfl (And.intro rfl (And.intro rfl (And.intro rfl trivial))))))))))
                       have e2 : ((kk + 1 : Nat) : Int) = (kk : Int) + 1 := by omega
                       refine k_iinc C dL_law_186 rfl (by decide) rfl ?_
                       refine k_goto (tgt := 46) C dL_law_189 (by decide) ?_
                       have q1 := ih (kk + 1) _ zn hin (sSt stk) (by omega) hXt hAt (by omega) (by omega)
                       rw [e2] at q1
                       exact q1)
                    | (have es : sSt stk = stk := by
                         unfold sSt
                         split <;> omega
                       have hXt : XA ha2 base zn hin (fun _ => 0) (sSt stk) 0 := hX2
                       have hAt : LA ha2 (base + 127) zn (sSt stk) := by rw [es]; exact hA2
                       refine k_sub (lw_tail C hcc zn hin _ (sSt stk) kk _ hXt hAt b ?_) ((And.intro rfl (And.intro rfl (And.intro rfl (And.intro rfl (And.intro rfl (And.intro rfl (And.intro rfl (And.intro rfl (And.intro rfl trivial))))))))))
                       have e2 : ((kk + 1 : Nat) : Int) = (kk : Int) + 1 := by omega
                       refine k_iinc C dL_law_186 rfl (by decide) rfl ?_
                       refine k_goto (tgt := 46) C dL_law_189 (by decide) ?_
                       have q1 := ih (kk + 1) _ zn hin (sSt stk) (by omega) hXt hAt (by omega) (by omega)
                       rw [e2] at q1
                       exact q1))
              · try (exfalso; omega)
                all_goals (
                  refine k_aload_n C dL_law_156 rfl ?_
                  refine k_bipush C dL_law_157 (by decide +kernel) ?_
                  refine k_dup2 C dL_law_159 rfl rfl ?_
                  refine k_iaload C dL_law_160 (by repeat (first | exact hs_eq _ _ _ | refine hs_ne (by omega) ?_ | assumption)) (by omega) (by omega) (by omega) ?_
                  refine k_iconst C dL_law_161 ?_
                  refine k_iadd C dL_law_162 ?_
                  refine k_iastore C dL_law_163 (by repeat (first | exact hs_eq _ _ _ | refine hs_ne (by omega) ?_ | assumption)) (by omega) (by omega) (by omega) ?_
                  first
                    | (have hs6 : stk < 6 := by omega
                       have es : sSt stk = nu 14 + 1 := by
                         unfold sSt
                         rw [if_neg (by omega)]
                         omega
                       have hXt : XA (hs ha2 (base + 127) (eA 0 15 (iu nu 14 (nu 14 + 1)))) base zn hin (fun _ => 0) (sSt stk) 0 := hX2.fr (fun aaa a0 a1 => hs_ne (by omega) rfl)
                       have hAt : LA (hs ha2 (base + 127) (eA 0 15 (iu nu 14 (nu 14 + 1)))) (base + 127) zn (sSt stk) := ⟨_, _, _, _, _, ⟨(by repeat (first | exact hs_eq _ _ _ | refine hs_ne (by omega) ?_ | assumption)), (by repeat (first | exact hs_eq _ _ _ | refine hs_ne (by omega) ?_ | assumption)), (by repeat (first | exact hs_eq _ _ _ | refine hs_ne (by omega) ?_ | assumption)), (by repeat (first | exact hs_eq _ _ _ | refine hs_ne (by omega) ?_ | assumption)), (by repeat (first | exact hs_eq _ _ _ | refine hs_ne (by omega) ?_ | assumption))⟩, by rw [es]; exact hLR.cnt⟩
                       refine k_sub (lw_tail C hcc zn hin _ (sSt stk) kk _ hXt hAt b ?_) ((And.intro rfl (And.intro rfl (And.intro rfl (And.intro rfl (And.intro rfl (And.intro rfl (And.intro rfl (And.intro rfl (And.intro rfl trivial))))))))))
                       have e2 : ((kk + 1 : Nat) : Int) = (kk : Int) + 1 := by omega
                       refine k_iinc C dL_law_186 rfl (by decide) rfl ?_
                       refine k_goto (tgt := 46) C dL_law_189 (by decide) ?_
                       have q1 := ih (kk + 1) _ zn hin (sSt stk) (by omega) hXt hAt (by omega) (by omega)
                       rw [e2] at q1
                       exact q1)
                    | (have es : sSt stk = stk := by
                         unfold sSt
                         split <;> omega
                       have hXt : XA ha2 base zn hin (fun _ => 0) (sSt stk) 0 := hX2
                       have hAt : LA ha2 (base + 127) zn (sSt stk) := by rw [es]; exact hA2
                       refine k_sub (lw_tail C hcc zn hin _ (sSt stk) kk _ hXt hAt b ?_) ((And.intro rfl (And.intro rfl (And.intro rfl (And.intro rfl (And.intro rfl (And.intro rfl (And.intro rfl (And.intro rfl (And.intro rfl trivial))))))))))
                       have e2 : ((kk + 1 : Nat) : Int) = (kk : Int) + 1 := by omega
                       refine k_iinc C dL_law_186 rfl (by decide) rfl ?_
                       refine k_goto (tgt := 46) C dL_law_189 (by decide) ?_
                       have q1 := ih (kk + 1) _ zn hin (sSt stk) (by omega) hXt hAt (by omega) (by omega)
                       rw [e2] at q1
                       exact q1))))
  exact loop46 31 0 _ _ _ _ (by omega) hX hA (by rw [zInit_row.1]; omega) (by omega)
