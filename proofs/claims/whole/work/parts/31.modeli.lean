set_option maxRecDepth 20000 in
set_option maxHeartbeats 1000000 in
theorem ct_X8_takesLetter (l : Launch) (D : va_G) (tc : Nat → ClassId) (base : Nat) (oo : Nat) (zrr hhi htx has hro : Int → Int) (st ln th re du hsh : Int) (hpp : AH) (hM : MA hpp oo zrr hhi htx has hro st ln th re du hsh) (ww : Int) (hw : r32 ww) (hre : 0 ≤ re ∧ re ≤ 20) : CT l D tc base yX8_takesLetter cX8_takesLetter 3 (some .boolean) 0 [aR oo, aI ww] hpp (fun r h' => (r = some (aI 1) ∧ ¬ pW ww = -1 ∧ MA h' oo (zrr) (hhi) (htx) (has) (iu (iu (iu hro (3 * re) (pW ww)) (3 * re + 1) 0) (3 * re + 2) 0) (st) (ln) (th) (re) (1) (hsh) ∧ Fr hpp h' oo 6) ∨ (r = some (aI 0) ∧ pW ww = -1 ∧ MA h' oo (zrr) (hhi) (htx) (has) (iu (iu (iu hro (3 * re) (pW ww)) (3 * re + 1) 0) (3 * re + 2) 0) (st) (ln) (th) (re) (1) (hsh) ∧ Fr hpp h' oo 6)) := by
  refine CT.of [some (aR oo), some (aI ww), none] (by decide +kernel) rfl (Nat.le_of_ble_eq_true rfl) ?_
  intro p e s m args below meth c C hr hnm
  obtain ⟨g0, g1, g2, g3, g4, g5⟩ := id hM
  refine k_iload_n C dX8_takesLetter_0 rfl ?_
  refine k_bipush C dX8_takesLetter_1 (by decide +kernel) ?_
  refine k_icmp_ne (tgt := 10) C dX8_takesLetter_3 (by decide) ⟨by omega, by omega⟩ ⟨by omega, by omega⟩ (fun c3 => ?_) (fun c3 => ?_)
  · try (exfalso; omega)
    all_goals (
      refine k_iload_n C dX8_takesLetter_10 rfl ?_
      refine k_bipush C dX8_takesLetter_11 (by decide +kernel) ?_
      refine k_icmp_ne (tgt := 20) C dX8_takesLetter_13 (by decide) ⟨by omega, by omega⟩ ⟨by omega, by omega⟩ (fun c13 => ?_) (fun c13 => ?_)
      · try (exfalso; omega)
        all_goals (
          refine k_iload_n C dX8_takesLetter_20 rfl ?_
          refine k_bipush C dX8_takesLetter_21 (by decide +kernel) ?_
          refine k_icmp_ne (tgt := 30) C dX8_takesLetter_23 (by decide) ⟨by omega, by omega⟩ ⟨by omega, by omega⟩ (fun c23 => ?_) (fun c23 => ?_)
          · try (exfalso; omega)
            all_goals (
              refine k_iconst C dX8_takesLetter_30 ?_
              refine k_istore_n C dX8_takesLetter_31 (by decide) rfl ?_
              refine k_aload_n C dX8_takesLetter_32 rfl ?_
              refine k_get C (k := 7) inX8 (ci := 8) rfl (by decide) fl_X8_22 dX8_takesLetter_33 (by repeat (first | exact hs_eq _ _ _ | refine hs_ne (by omega) ?_ | assumption)) rfl ?_
              refine k_iconst C dX8_takesLetter_36 ?_
              refine k_aload_n C dX8_takesLetter_37 rfl ?_
              refine k_get C (k := 8) inX8 (ci := 8) rfl (by decide) fl_X8_129 dX8_takesLetter_38 (by repeat (first | exact hs_eq _ _ _ | refine hs_ne (by omega) ?_ | assumption)) rfl ?_
              refine k_imul C dX8_takesLetter_41 ?_
              refine k_iload_n C dX8_takesLetter_42 rfl ?_
              refine k_iastore C dX8_takesLetter_43 (by repeat (first | exact hs_eq _ _ _ | refine hs_ne (by omega) ?_ | assumption)) (by omega) (by omega) (by omega) ?_
              refine k_aload_n C dX8_takesLetter_44 rfl ?_
              refine k_get C (k := 7) inX8 (ci := 8) rfl (by decide) fl_X8_22 dX8_takesLetter_45 (by repeat (first | exact hs_eq _ _ _ | refine hs_ne (by omega) ?_ | assumption)) rfl ?_
              refine k_iconst C dX8_takesLetter_48 ?_
              refine k_aload_n C dX8_takesLetter_49 rfl ?_
              refine k_get C (k := 8) inX8 (ci := 8) rfl (by decide) fl_X8_129 dX8_takesLetter_50 (by repeat (first | exact hs_eq _ _ _ | refine hs_ne (by omega) ?_ | assumption)) rfl ?_
              refine k_imul C dX8_takesLetter_53 ?_
              refine k_iconst C dX8_takesLetter_54 ?_
              refine k_iadd C dX8_takesLetter_55 ?_
              refine k_iconst C dX8_takesLetter_56 ?_
              refine k_iastore C dX8_takesLetter_57 (by repeat (first | exact hs_eq _ _ _ | refine hs_ne (by omega) ?_ | assumption)) (by omega) (by omega) (by omega) ?_
              refine k_aload_n C dX8_takesLetter_58 rfl ?_
              refine k_get C (k := 7) inX8 (ci := 8) rfl (by decide) fl_X8_22 dX8_takesLetter_59 (by repeat (first | exact hs_eq _ _ _ | refine hs_ne (by omega) ?_ | assumption)) rfl ?_
              refine k_iconst C dX8_takesLetter_62 ?_
              refine k_aload_n C dX8_takesLetter_63 rfl ?_
              refine k_get C (k := 8) inX8 (ci := 8) rfl (by decide) fl_X8_129 dX8_takesLetter_64 (by repeat (first | exact hs_eq _ _ _ | refine hs_ne (by omega) ?_ | assumption)) rfl ?_
              refine k_imul C dX8_takesLetter_67 ?_
              refine k_iconst C dX8_takesLetter_68 ?_
              refine k_iadd C dX8_takesLetter_69 ?_
              refine k_iconst C dX8_takesLetter_70 ?_
              refine k_iastore C dX8_takesLetter_71 (by repeat (first | exact hs_eq _ _ _ | refine hs_ne (by omega) ?_ | assumption)) (by omega) (by omega) (by omega) ?_
              refine k_aload_n C dX8_takesLetter_72 rfl ?_
              refine k_iconst C dX8_takesLetter_73 ?_
              refine k_put C (k := 9) inX8 tyX8_ok nmX8 (ci := 8) rfl (by decide) fl_X8_132 rfl (Nat.le_of_ble_eq_true rfl) dX8_takesLetter_74 (by repeat (first | exact hs_eq _ _ _ | refine hs_ne (by omega) ?_ | assumption)) ?_
              refine k_iload_n C dX8_takesLetter_77 rfl ?_
              refine k_iconst C dX8_takesLetter_78 ?_
              refine k_icmp_eq (tgt := 86) C dX8_takesLetter_79 (by decide) ⟨by omega, by omega⟩ ⟨by omega, by omega⟩ (fun c79 => ?_) (fun c79 => ?_)
              · try (exfalso; omega)
                all_goals (
                  refine k_iconst C dX8_takesLetter_86 ?_
                  refine k_zret C hr dX8_takesLetter_87 (by omega) ?_
                  first
                    | (have hpw : pW ww = 0 := by rw [pW, if_pos (by omega)]
                       rw [hpw]
                       exact Or.inl ⟨rfl, by omega, ⟨(by repeat (first | exact hs_eq _ _ _ | refine hs_ne (by omega) ?_ | assumption)), (by repeat (first | exact hs_eq _ _ _ | refine hs_ne (by omega) ?_ | assumption)), (by repeat (first | exact hs_eq _ _ _ | refine hs_ne (by omega) ?_ | assumption)), (by repeat (first | exact hs_eq _ _ _ | refine hs_ne (by omega) ?_ | assumption)), (by repeat (first | exact hs_eq _ _ _ | refine hs_ne (by omega) ?_ | assumption)), (by repeat (first | exact hs_eq _ _ _ | refine hs_ne (by omega) ?_ | assumption))⟩, fun aaa haa => by repeat (first | rfl | refine hs_ne (by omega) ?_)⟩)
                    | (have hpw : pW ww = 1 := by rw [pW, if_neg (by omega), if_pos (by omega)]
                       rw [hpw]
                       exact Or.inl ⟨rfl, by omega, ⟨(by repeat (first | exact hs_eq _ _ _ | refine hs_ne (by omega) ?_ | assumption)), (by repeat (first | exact hs_eq _ _ _ | refine hs_ne (by omega) ?_ | assumption)), (by repeat (first | exact hs_eq _ _ _ | refine hs_ne (by omega) ?_ | assumption)), (by repeat (first | exact hs_eq _ _ _ | refine hs_ne (by omega) ?_ | assumption)), (by repeat (first | exact hs_eq _ _ _ | refine hs_ne (by omega) ?_ | assumption)), (by repeat (first | exact hs_eq _ _ _ | refine hs_ne (by omega) ?_ | assumption))⟩, fun aaa haa => by repeat (first | rfl | refine hs_ne (by omega) ?_)⟩)
                    | (have hpw : pW ww = 2 := by rw [pW, if_neg (by omega), if_neg (by omega), if_pos (by omega)]
                       rw [hpw]
                       exact Or.inl ⟨rfl, by omega, ⟨(by repeat (first | exact hs_eq _ _ _ | refine hs_ne (by omega) ?_ | assumption)), (by repeat (first | exact hs_eq _ _ _ | refine hs_ne (by omega) ?_ | assumption)), (by repeat (first | exact hs_eq _ _ _ | refine hs_ne (by omega) ?_ | assumption)), (by repeat (first | exact hs_eq _ _ _ | refine hs_ne (by omega) ?_ | assumption)), (by repeat (first | exact hs_eq _ _ _ | refine hs_ne (by omega) ?_ | assumption)), (by repeat (first | exact hs_eq _ _ _ | refine hs_ne (by omega) ?_ | assumption))⟩, fun aaa haa => by repeat (first | rfl | refine hs_ne (by omega) ?_)⟩)
                    | (have hpw : pW ww = -1 := by rw [pW, if_neg (by omega), if_neg (by omega), if_neg (by omega)]
                       rw [hpw]
                       exact Or.inr ⟨rfl, by omega, ⟨(by repeat (first | exact hs_eq _ _ _ | refine hs_ne (by omega) ?_ | assumption)), (by repeat (first | exact hs_eq _ _ _ | refine hs_ne (by omega) ?_ | assumption)), (by repeat (first | exact hs_eq _ _ _ | refine hs_ne (by omega) ?_ | assumption)), (by repeat (first | exact hs_eq _ _ _ | refine hs_ne (by omega) ?_ | assumption)), (by repeat (first | exact hs_eq _ _ _ | refine hs_ne (by omega) ?_ | assumption)), (by repeat (first | exact hs_eq _ _ _ | refine hs_ne (by omega) ?_ | assumption))⟩, fun aaa haa => by repeat (first | rfl | refine hs_ne (by omega) ?_)⟩))
              · try (exfalso; omega)
                all_goals (
                  refine k_iconst C dX8_takesLetter_82 ?_
                  refine k_goto (tgt := 87) C dX8_takesLetter_83 (by decide) ?_
                  refine k_zret C hr dX8_takesLetter_87 (by omega) ?_
                  first
                    | (have hpw : pW ww = 0 := by rw [pW, if_pos (by omega)]
                       rw [hpw]
                       exact Or.inl ⟨rfl, by omega, ⟨(by repeat (first | exact hs_eq _ _ _ | refine hs_ne (by omega) ?_ | assumption)), (by repeat (first | exact hs_eq _ _ _ | refine hs_ne (by omega) ?_ | assumption)), (by repeat (first | exact hs_eq _ _ _ | refine hs_ne (by omega) ?_ | assumption)), (by repeat (first | exact hs_eq _ _ _ | refine hs_ne (by omega) ?_ | assumption)), (by repeat (first | exact hs_eq _ _ _ | refine hs_ne (by omega) ?_ | assumption)), (by repeat (first | exact hs_eq _ _ _ | refine hs_ne (by omega) ?_ | assumption))⟩, fun aaa haa => by repeat (first | rfl | refine hs_ne (by omega) ?_)⟩)
                    | (have hpw : pW ww = 1 := by rw [pW, if_neg (by omega), if_pos (by omega)]
                       rw [hpw]
                       exact Or.inl ⟨rfl, by omega, ⟨(by repeat (first | exact hs_eq _ _ _ | refine hs_ne (by omega) ?_ | assumption)), (by repeat (first | exact hs_eq _ _ _ | refine hs_ne (by omega) ?_ | assumption)), (by repeat (first | exact hs_eq _ _ _ | refine hs_ne (by omega) ?_ | assumption)), (by repeat (first | exact hs_eq _ _ _ | refine hs_ne (by omega) ?_ | assumption)), (by repeat (first | exact hs_eq _ _ _ | refine hs_ne (by omega) ?_ | assumption)), (by repeat (first | exact hs_eq _ _ _ | refine hs_ne (by omega) ?_ | assumption))⟩, fun aaa haa => by repeat (first | rfl | refine hs_ne (by omega) ?_)⟩)
                    | (have hpw : pW ww = 2 := by rw [pW, if_neg (by omega), if_neg (by omega), if_pos (by omega)]
                       rw [hpw]
                       exact Or.inl ⟨rfl, by omega, ⟨(by repeat (first | exact hs_eq _ _ _ | refine hs_ne (by omega) ?_ | assumption)), (by repeat (first | exact hs_eq _ _ _ | refine hs_ne (by omega) ?_ | assumption)), (by repeat (first | exact hs_eq _ _ _ | refine hs_ne (by omega) ?_ | assumption)), (by repeat (first | exact hs_eq _ _ _ | refine hs_ne (by omega) ?_ | assumption)), (by repeat (first | exact hs_eq _ _ _ | refine hs_ne (by omega) ?_ | assumption)), (by repeat (first | exact hs_eq _ _ _ | refine hs_ne (by omega) ?_ | assumption))⟩, fun aaa haa => by repeat (first | rfl | refine hs_ne (by omega) ?_)⟩)
                    | (have hpw : pW ww = -1 := by rw [pW, if_neg (by omega), if_neg (by omega), if_neg (by omega)]
                       rw [hpw]
                       exact Or.inr ⟨rfl, by omega, ⟨(by repeat (first | exact hs_eq _ _ _ | refine hs_ne (by omega) ?_ | assumption)), (by repeat (first | exact hs_eq _ _ _ | refine hs_ne (by omega) ?_ | assumption)), (by repeat (first | exact hs_eq _ _ _ | refine hs_ne (by omega) ?_ | assumption)), (by repeat (first | exact hs_eq _ _ _ | refine hs_ne (by omega) ?_ | assumption)), (by repeat (first | exact hs_eq _ _ _ | refine hs_ne (by omega) ?_ | assumption)), (by repeat (first | exact hs_eq _ _ _ | refine hs_ne (by omega) ?_ | assumption))⟩, fun aaa haa => by repeat (first | rfl | refine hs_ne (by omega) ?_)⟩)))
          · try (exfalso; omega)
            all_goals (
              refine k_iconst C dX8_takesLetter_26 ?_
              refine k_goto (tgt := 31) C dX8_takesLetter_27 (by decide) ?_
              refine k_istore_n C dX8_takesLetter_31 (by decide) rfl ?_
              refine k_aload_n C dX8_takesLetter_32 rfl ?_
              refine k_get C (k := 7) inX8 (ci := 8) rfl (by decide) fl_X8_22 dX8_takesLetter_33 (by repeat (first | exact hs_eq _ _ _ | refine hs_ne (by omega) ?_ | assumption)) rfl ?_
              refine k_iconst C dX8_takesLetter_36 ?_
              refine k_aload_n C dX8_takesLetter_37 rfl ?_
              refine k_get C (k := 8) inX8 (ci := 8) rfl (by decide) fl_X8_129 dX8_takesLetter_38 (by repeat (first | exact hs_eq _ _ _ | refine hs_ne (by omega) ?_ | assumption)) rfl ?_
              refine k_imul C dX8_takesLetter_41 ?_
              refine k_iload_n C dX8_takesLetter_42 rfl ?_
              refine k_iastore C dX8_takesLetter_43 (by repeat (first | exact hs_eq _ _ _ | refine hs_ne (by omega) ?_ | assumption)) (by omega) (by omega) (by omega) ?_
              refine k_aload_n C dX8_takesLetter_44 rfl ?_
              refine k_get C (k := 7) inX8 (ci := 8) rfl (by decide) fl_X8_22 dX8_takesLetter_45 (by repeat (first | exact hs_eq _ _ _ | refine hs_ne (by omega) ?_ | assumption)) rfl ?_
              refine k_iconst C dX8_takesLetter_48 ?_
              refine k_aload_n C dX8_takesLetter_49 rfl ?_
              refine k_get C (k := 8) inX8 (ci := 8) rfl (by decide) fl_X8_129 dX8_takesLetter_50 (by repeat (first | exact hs_eq _ _ _ | refine hs_ne (by omega) ?_ | assumption)) rfl ?_
              refine k_imul C dX8_takesLetter_53 ?_
              refine k_iconst C dX8_takesLetter_54 ?_
              refine k_iadd C dX8_takesLetter_55 ?_
              refine k_iconst C dX8_takesLetter_56 ?_
              refine k_iastore C dX8_takesLetter_57 (by repeat (first | exact hs_eq _ _ _ | refine hs_ne (by omega) ?_ | assumption)) (by omega) (by omega) (by omega) ?_
              refine k_aload_n C dX8_takesLetter_58 rfl ?_
              refine k_get C (k := 7) inX8 (ci := 8) rfl (by decide) fl_X8_22 dX8_takesLetter_59 (by repeat (first | exact hs_eq _ _ _ | refine hs_ne (by omega) ?_ | assumption)) rfl ?_
              refine k_iconst C dX8_takesLetter_62 ?_
              refine k_aload_n C dX8_takesLetter_63 rfl ?_
              refine k_get C (k := 8) inX8 (ci := 8) rfl (by decide) fl_X8_129 dX8_takesLetter_64 (by repeat (first | exact hs_eq _ _ _ | refine hs_ne (by omega) ?_ | assumption)) rfl ?_
              refine k_imul C dX8_takesLetter_67 ?_
              refine k_iconst C dX8_takesLetter_68 ?_
              refine k_iadd C dX8_takesLetter_69 ?_
              refine k_iconst C dX8_takesLetter_70 ?_
              refine k_iastore C dX8_takesLetter_71 (by repeat (first | exact hs_eq _ _ _ | refine hs_ne (by omega) ?_ | assumption)) (by omega) (by omega) (by omega) ?_
              refine k_aload_n C dX8_takesLetter_72 rfl ?_
              refine k_iconst C dX8_takesLetter_73 ?_
              refine k_put C (k := 9) inX8 tyX8_ok nmX8 (ci := 8) rfl (by decide) fl_X8_132 rfl (Nat.le_of_ble_eq_true rfl) dX8_takesLetter_74 (by repeat (first | exact hs_eq _ _ _ | refine hs_ne (by omega) ?_ | assumption)) ?_
              refine k_iload_n C dX8_takesLetter_77 rfl ?_
              refine k_iconst C dX8_takesLetter_78 ?_
              refine k_icmp_eq (tgt := 86) C dX8_takesLetter_79 (by decide) ⟨by omega, by omega⟩ ⟨by omega, by omega⟩ (fun c79 => ?_) (fun c79 => ?_)
              · try (exfalso; omega)
                all_goals (
                  refine k_iconst C dX8_takesLetter_86 ?_
                  refine k_zret C hr dX8_takesLetter_87 (by omega) ?_
                  first
                    | (have hpw : pW ww = 0 := by rw [pW, if_pos (by omega)]
                       rw [hpw]
                       exact Or.inl ⟨rfl, by omega, ⟨(by repeat (first | exact hs_eq _ _ _ | refine hs_ne (by omega) ?_ | assumption)), (by repeat (first | exact hs_eq _ _ _ | refine hs_ne (by omega) ?_ | assumption)), (by repeat (first | exact hs_eq _ _ _ | refine hs_ne (by omega) ?_ | assumption)), (by repeat (first | exact hs_eq _ _ _ | refine hs_ne (by omega) ?_ | assumption)), (by repeat (first | exact hs_eq _ _ _ | refine hs_ne (by omega) ?_ | assumption)), (by repeat (first | exact hs_eq _ _ _ | refine hs_ne (by omega) ?_ | assumption))⟩, fun aaa haa => by repeat (first | rfl | refine hs_ne (by omega) ?_)⟩)
                    | (have hpw : pW ww = 1 := by rw [pW, if_neg (by omega), if_pos (by omega)]
                       rw [hpw]
                       exact Or.inl ⟨rfl, by omega, ⟨(by repeat (first | exact hs_eq _ _ _ | refine hs_ne (by omega) ?_ | assumption)), (by repeat (first | exact hs_eq _ _ _ | refine hs_ne (by omega) ?_ | assumption)), (by repeat (first | exact hs_eq _ _ _ | refine hs_ne (by omega) ?_ | assumption)), (by repeat (first | exact hs_eq _ _ _ | refine hs_ne (by omega) ?_ | assumption)), (by repeat (first | exact hs_eq _ _ _ | refine hs_ne (by omega) ?_ | assumption)), (by repeat (first | exact hs_eq _ _ _ | refine hs_ne (by omega) ?_ | assumption))⟩, fun aaa haa => by repeat (first | rfl | refine hs_ne (by omega) ?_)⟩)
                    | (have hpw : pW ww = 2 := by rw [pW, if_neg (by omega), if_neg (by omega), if_pos (by omega)]
                       rw [hpw]
                       exact Or.inl ⟨rfl, by omega, ⟨(by repeat (first | exact hs_eq _ _ _ | refine hs_ne (by omega) ?_ | assumption)), (by repeat (first | exact hs_eq _ _ _ | refine hs_ne (by omega) ?_ | assumption)), (by repeat (first | exact hs_eq _ _ _ | refine hs_ne (by omega) ?_ | assumption)), (by repeat (first | exact hs_eq _ _ _ | refine hs_ne (by omega) ?_ | assumption)), (by repeat (first | exact hs_eq _ _ _ | refine hs_ne (by omega) ?_ | assumption)), (by repeat (first | exact hs_eq _ _ _ | refine hs_ne (by omega) ?_ | assumption))⟩, fun aaa haa => by repeat (first | rfl | refine hs_ne (by omega) ?_)⟩)
                    | (have hpw : pW ww = -1 := by rw [pW, if_neg (by omega), if_neg (by omega), if_neg (by omega)]
                       rw [hpw]
                       exact Or.inr ⟨rfl, by omega, ⟨(by repeat (first | exact hs_eq _ _ _ | refine hs_ne (by omega) ?_ | assumption)), (by repeat (first | exact hs_eq _ _ _ | refine hs_ne (by omega) ?_ | assumption)), (by repeat (first | exact hs_eq _ _ _ | refine hs_ne (by omega) ?_ | assumption)), (by repeat (first | exact hs_eq _ _ _ | refine hs_ne (by omega) ?_ | assumption)), (by repeat (first | exact hs_eq _ _ _ | refine hs_ne (by omega) ?_ | assumption)), (by repeat (first | exact hs_eq _ _ _ | refine hs_ne (by omega) ?_ | assumption))⟩, fun aaa haa => by repeat (first | rfl | refine hs_ne (by omega) ?_)⟩))
              · try (exfalso; omega)
                all_goals (
                  refine k_iconst C dX8_takesLetter_82 ?_
                  refine k_goto (tgt := 87) C dX8_takesLetter_83 (by decide) ?_
                  refine k_zret C hr dX8_takesLetter_87 (by omega) ?_
                  first
                    | (have hpw : pW ww = 0 := by rw [pW, if_pos (by omega)]
                       rw [hpw]
                       exact Or.inl ⟨rfl, by omega, ⟨(by repeat (first | exact hs_eq _ _ _ | refine hs_ne (by omega) ?_ | assumption)), (by repeat (first | exact hs_eq _ _ _ | refine hs_ne (by omega) ?_ | assumption)), (by repeat (first | exact hs_eq _ _ _ | refine hs_ne (by omega) ?_ | assumption)), (by repeat (first | exact hs_eq _ _ _ | refine hs_ne (by omega) ?_ | assumption)), (by repeat (first | exact hs_eq _ _ _ | refine hs_ne (by omega) ?_ | assumption)), (by repeat (first | exact hs_eq _ _ _ | refine hs_ne (by omega) ?_ | assumption))⟩, fun aaa haa => by repeat (first | rfl | refine hs_ne (by omega) ?_)⟩)
                    | (have hpw : pW ww = 1 := by rw [pW, if_neg (by omega), if_pos (by omega)]
                       rw [hpw]
                       exact Or.inl ⟨rfl, by omega, ⟨(by repeat (first | exact hs_eq _ _ _ | refine hs_ne (by omega) ?_ | assumption)), (by repeat (first | exact hs_eq _ _ _ | refine hs_ne (by omega) ?_ | assumption)), (by repeat (first | exact hs_eq _ _ _ | refine hs_ne (by omega) ?_ | assumption)), (by repeat (first | exact hs_eq _ _ _ | refine hs_ne (by omega) ?_ | assumption)), (by repeat (first | exact hs_eq _ _ _ | refine hs_ne (by omega) ?_ | assumption)), (by repeat (first | exact hs_eq _ _ _ | refine hs_ne (by omega) ?_ | assumption))⟩, fun aaa haa => by repeat (first | rfl | refine hs_ne (by omega) ?_)⟩)
                    | (have hpw : pW ww = 2 := by rw [pW, if_neg (by omega), if_neg (by omega), if_pos (by omega)]
                       rw [hpw]
                       exact Or.inl ⟨rfl, by omega, ⟨(by repeat (first | exact hs_eq _ _ _ | refine hs_ne (by omega) ?_ | assumption)), (by repeat (first | exact hs_eq _ _ _ | refine hs_ne (by omega) ?_ | assumption)), (by repeat (first | exact hs_eq _ _ _ | refine hs_ne (by omega) ?_ | assumption)), (by repeat (first | exact hs_eq _ _ _ | refine hs_ne (by omega) ?_ | assumption)), (by repeat (first | exact hs_eq _ _ _ | refine hs_ne (by omega) ?_ | assumption)), (by repeat (first | exact hs_eq _ _ _ | refine hs_ne (by omega) ?_ | assumption))⟩, fun aaa haa => by repeat (first | rfl | refine hs_ne (by omega) ?_)⟩)
                    | (have hpw : pW ww = -1 := by rw [pW, if_neg (by omega), if_neg (by omega), if_neg (by omega)]
                       rw [hpw]
                       exact Or.inr ⟨rfl, by omega, ⟨(by repeat (first | exact hs_eq _ _ _ | refine hs_ne (by omega) ?_ | assumption)), (by repeat (first | exact hs_eq _ _ _ | refine hs_ne (by omega) ?_ | assumption)), (by repeat (first | exact hs_eq _ _ _ | refine hs_ne (by omega) ?_ | assumption)), (by repeat (first | exact hs_eq _ _ _ | refine hs_ne (by omega) ?_ | assumption)), (by repeat (first | exact hs_eq _ _ _ | refine hs_ne (by omega) ?_ | assumption)), (by repeat (first | exact hs_eq _ _ _ | refine hs_ne (by omega) ?_ | assumption))⟩, fun aaa haa => by repeat (first | rfl | refine hs_ne (by omega) ?_)⟩))))
      · try (exfalso; omega)
        all_goals (
          refine k_iconst C dX8_takesLetter_16 ?_
          refine k_goto (tgt := 31) C dX8_takesLetter_17 (by decide) ?_
          refine k_istore_n C dX8_takesLetter_31 (by decide) rfl ?_
          refine k_aload_n C dX8_takesLetter_32 rfl ?_
          refine k_get C (k := 7) inX8 (ci := 8) rfl (by decide) fl_X8_22 dX8_takesLetter_33 (by repeat (first | exact hs_eq _ _ _ | refine hs_ne (by omega) ?_ | assumption)) rfl ?_
          refine k_iconst C dX8_takesLetter_36 ?_
          refine k_aload_n C dX8_takesLetter_37 rfl ?_
          refine k_get C (k := 8) inX8 (ci := 8) rfl (by decide) fl_X8_129 dX8_takesLetter_38 (by repeat (first | exact hs_eq _ _ _ | refine hs_ne (by omega) ?_ | assumption)) rfl ?_
          refine k_imul C dX8_takesLetter_41 ?_
          refine k_iload_n C dX8_takesLetter_42 rfl ?_
          refine k_iastore C dX8_takesLetter_43 (by repeat (first | exact hs_eq _ _ _ | refine hs_ne (by omega) ?_ | assumption)) (by omega) (by omega) (by omega) ?_
          refine k_aload_n C dX8_takesLetter_44 rfl ?_
          refine k_get C (k := 7) inX8 (ci := 8) rfl (by decide) fl_X8_22 dX8_takesLetter_45 (by repeat (first | exact hs_eq _ _ _ | refine hs_ne (by omega) ?_ | assumption)) rfl ?_
          refine k_iconst C dX8_takesLetter_48 ?_
          refine k_aload_n C dX8_takesLetter_49 rfl ?_
          refine k_get C (k := 8) inX8 (ci := 8) rfl (by decide) fl_X8_129 dX8_takesLetter_50 (by repeat (first | exact hs_eq _ _ _ | refine hs_ne (by omega) ?_ | assumption)) rfl ?_
          refine k_imul C dX8_takesLetter_53 ?_
          refine k_iconst C dX8_takesLetter_54 ?_
          refine k_iadd C dX8_takesLetter_55 ?_
          refine k_iconst C dX8_takesLetter_56 ?_
          refine k_iastore C dX8_takesLetter_57 (by repeat (first | exact hs_eq _ _ _ | refine hs_ne (by omega) ?_ | assumption)) (by omega) (by omega) (by omega) ?_
          refine k_aload_n C dX8_takesLetter_58 rfl ?_
          refine k_get C (k := 7) inX8 (ci := 8) rfl (by decide) fl_X8_22 dX8_takesLetter_59 (by repeat (first | exact hs_eq _ _ _ | refine hs_ne (by omega) ?_ | assumption)) rfl ?_
          refine k_iconst C dX8_takesLetter_62 ?_
          refine k_aload_n C dX8_takesLetter_63 rfl ?_
          refine k_get C (k := 8) inX8 (ci := 8) rfl (by decide) fl_X8_129 dX8_takesLetter_64 (by repeat (first | exact hs_eq _ _ _ | refine hs_ne (by omega) ?_ | assumption)) rfl ?_
          refine k_imul C dX8_takesLetter_67 ?_
          refine k_iconst C dX8_takesLetter_68 ?_
          refine k_iadd C dX8_takesLetter_69 ?_
          refine k_iconst C dX8_takesLetter_70 ?_
          refine k_iastore C dX8_takesLetter_71 (by repeat (first | exact hs_eq _ _ _ | refine hs_ne (by omega) ?_ | assumption)) (by omega) (by omega) (by omega) ?_
          refine k_aload_n C dX8_takesLetter_72 rfl ?_
          refine k_iconst C dX8_takesLetter_73 ?_
          refine k_put C (k := 9) inX8 tyX8_ok nmX8 (ci := 8) rfl (by decide) fl_X8_132 rfl (Nat.le_of_ble_eq_true rfl) dX8_takesLetter_74 (by repeat (first | exact hs_eq _ _ _ | refine hs_ne (by omega) ?_ | assumption)) ?_
          refine k_iload_n C dX8_takesLetter_77 rfl ?_
          refine k_iconst C dX8_takesLetter_78 ?_
          refine k_icmp_eq (tgt := 86) C dX8_takesLetter_79 (by decide) ⟨by omega, by omega⟩ ⟨by omega, by omega⟩ (fun c79 => ?_) (fun c79 => ?_)
          · try (exfalso; omega)
            all_goals (
              refine k_iconst C dX8_takesLetter_86 ?_
              refine k_zret C hr dX8_takesLetter_87 (by omega) ?_
              first
                | (have hpw : pW ww = 0 := by rw [pW, if_pos (by omega)]
                   rw [hpw]
                   exact Or.inl ⟨rfl, by omega, ⟨(by repeat (first | exact hs_eq _ _ _ | refine hs_ne (by omega) ?_ | assumption)), (by repeat (first | exact hs_eq _ _ _ | refine hs_ne (by omega) ?_ | assumption)), (by repeat (first | exact hs_eq _ _ _ | refine hs_ne (by omega) ?_ | assumption)), (by repeat (first | exact hs_eq _ _ _ | refine hs_ne (by omega) ?_ | assumption)), (by repeat (first | exact hs_eq _ _ _ | refine hs_ne (by omega) ?_ | assumption)), (by repeat (first | exact hs_eq _ _ _ | refine hs_ne (by omega) ?_ | assumption))⟩, fun aaa haa => by repeat (first | rfl | refine hs_ne (by omega) ?_)⟩)
                | (have hpw : pW ww = 1 := by rw [pW, if_neg (by omega), if_pos (by omega)]
                   rw [hpw]
                   exact Or.inl ⟨rfl, by omega, ⟨(by repeat (first | exact hs_eq _ _ _ | refine hs_ne (by omega) ?_ | assumption)), (by repeat (first | exact hs_eq _ _ _ | refine hs_ne (by omega) ?_ | assumption)), (by repeat (first | exact hs_eq _ _ _ | refine hs_ne (by omega) ?_ | assumption)), (by repeat (first | exact hs_eq _ _ _ | refine hs_ne (by omega) ?_ | assumption)), (by repeat (first | exact hs_eq _ _ _ | refine hs_ne (by omega) ?_ | assumption)), (by repeat (first | exact hs_eq _ _ _ | refine hs_ne (by omega) ?_ | assumption))⟩, fun aaa haa => by repeat (first | rfl | refine hs_ne (by omega) ?_)⟩)
                | (have hpw : pW ww = 2 := by rw [pW, if_neg (by omega), if_neg (by omega), if_pos (by omega)]
                   rw [hpw]
                   exact Or.inl ⟨rfl, by omega, ⟨(by repeat (first | exact hs_eq _ _ _ | refine hs_ne (by omega) ?_ | assumption)), (by repeat (first | exact hs_eq _ _ _ | refine hs_ne (by omega) ?_ | assumption)), (by repeat (first | exact hs_eq _ _ _ | refine hs_ne (by omega) ?_ | assumption)), (by repeat (first | exact hs_eq _ _ _ | refine hs_ne (by omega) ?_ | assumption)), (by repeat (first | exact hs_eq _ _ _ | refine hs_ne (by omega) ?_ | assumption)), (by repeat (first | exact hs_eq _ _ _ | refine hs_ne (by omega) ?_ | assumption))⟩, fun aaa haa => by repeat (first | rfl | refine hs_ne (by omega) ?_)⟩)
                | (have hpw : pW ww = -1 := by rw [pW, if_neg (by omega), if_neg (by omega), if_neg (by omega)]
                   rw [hpw]
                   exact Or.inr ⟨rfl, by omega, ⟨(by repeat (first | exact hs_eq _ _ _ | refine hs_ne (by omega) ?_ | assumption)), (by repeat (first | exact hs_eq _ _ _ | refine hs_ne (by omega) ?_ | assumption)), (by repeat (first | exact hs_eq _ _ _ | refine hs_ne (by omega) ?_ | assumption)), (by repeat (first | exact hs_eq _ _ _ | refine hs_ne (by omega) ?_ | assumption)), (by repeat (first | exact hs_eq _ _ _ | refine hs_ne (by omega) ?_ | assumption)), (by repeat (first | exact hs_eq _ _ _ | refine hs_ne (by omega) ?_ | assumption))⟩, fun aaa haa => by repeat (first | rfl | refine hs_ne (by omega) ?_)⟩))
          · try (exfalso; omega)
            all_goals (
              refine k_iconst C dX8_takesLetter_82 ?_
              refine k_goto (tgt := 87) C dX8_takesLetter_83 (by decide) ?_
              refine k_zret C hr dX8_takesLetter_87 (by omega) ?_
              first
                | (have hpw : pW ww = 0 := by rw [pW, if_pos (by omega)]
                   rw [hpw]
                   exact Or.inl ⟨rfl, by omega, ⟨(by repeat (first | exact hs_eq _ _ _ | refine hs_ne (by omega) ?_ | assumption)), (by repeat (first | exact hs_eq _ _ _ | refine hs_ne (by omega) ?_ | assumption)), (by repeat (first | exact hs_eq _ _ _ | refine hs_ne (by omega) ?_ | assumption)), (by repeat (first | exact hs_eq _ _ _ | refine hs_ne (by omega) ?_ | assumption)), (by repeat (first | exact hs_eq _ _ _ | refine hs_ne (by omega) ?_ | assumption)), (by repeat (first | exact hs_eq _ _ _ | refine hs_ne (by omega) ?_ | assumption))⟩, fun aaa haa => by repeat (first | rfl | refine hs_ne (by omega) ?_)⟩)
                | (have hpw : pW ww = 1 := by rw [pW, if_neg (by omega), if_pos (by omega)]
                   rw [hpw]
                   exact Or.inl ⟨rfl, by omega, ⟨(by repeat (first | exact hs_eq _ _ _ | refine hs_ne (by omega) ?_ | assumption)), (by repeat (first | exact hs_eq _ _ _ | refine hs_ne (by omega) ?_ | assumption)), (by repeat (first | exact hs_eq _ _ _ | refine hs_ne (by omega) ?_ | assumption)), (by repeat (first | exact hs_eq _ _ _ | refine hs_ne (by omega) ?_ | assumption)), (by repeat (first | exact hs_eq _ _ _ | refine hs_ne (by omega) ?_ | assumption)), (by repeat (first | exact hs_eq _ _ _ | refine hs_ne (by omega) ?_ | assumption))⟩, fun aaa haa => by repeat (first | rfl | refine hs_ne (by omega) ?_)⟩)
                | (have hpw : pW ww = 2 := by rw [pW, if_neg (by omega), if_neg (by omega), if_pos (by omega)]
                   rw [hpw]
                   exact Or.inl ⟨rfl, by omega, ⟨(by repeat (first | exact hs_eq _ _ _ | refine hs_ne (by omega) ?_ | assumption)), (by repeat (first | exact hs_eq _ _ _ | refine hs_ne (by omega) ?_ | assumption)), (by repeat (first | exact hs_eq _ _ _ | refine hs_ne (by omega) ?_ | assumption)), (by repeat (first | exact hs_eq _ _ _ | refine hs_ne (by omega) ?_ | assumption)), (by repeat (first | exact hs_eq _ _ _ | refine hs_ne (by omega) ?_ | assumption)), (by repeat (first | exact hs_eq _ _ _ | refine hs_ne (by omega) ?_ | assumption))⟩, fun aaa haa => by repeat (first | rfl | refine hs_ne (by omega) ?_)⟩)
                | (have hpw : pW ww = -1 := by rw [pW, if_neg (by omega), if_neg (by omega), if_neg (by omega)]
                   rw [hpw]
                   exact Or.inr ⟨rfl, by omega, ⟨(by repeat (first | exact hs_eq _ _ _ | refine hs_ne (by omega) ?_ | assumption)), (by repeat (first | exact hs_eq _ _ _ | refine hs_ne (by omega) ?_ | assumption)), (by repeat (first | exact hs_eq _ _ _ | refine hs_ne (by omega) ?_ | assumption)), (by repeat (first | exact hs_eq _ _ _ | refine hs_ne (by omega) ?_ | assumption)), (by repeat (first | exact hs_eq _ _ _ | refine hs_ne (by omega) ?_ | assumption)), (by repeat (first | exact hs_eq _ _ _ | refine hs_ne (by omega) ?_ | assumption))⟩, fun aaa haa => by repeat (first | rfl | refine hs_ne (by omega) ?_)⟩))))
  · try (exfalso; omega)
    all_goals (
      refine k_iconst C dX8_takesLetter_6 ?_
      refine k_goto (tgt := 31) C dX8_takesLetter_7 (by decide) ?_
      refine k_istore_n C dX8_takesLetter_31 (by decide) rfl ?_
      refine k_aload_n C dX8_takesLetter_32 rfl ?_
      refine k_get C (k := 7) inX8 (ci := 8) rfl (by decide) fl_X8_22 dX8_takesLetter_33 (by repeat (first | exact hs_eq _ _ _ | refine hs_ne (by omega) ?_ | assumption)) rfl ?_
      refine k_iconst C dX8_takesLetter_36 ?_
      refine k_aload_n C dX8_takesLetter_37 rfl ?_
      refine k_get C (k := 8) inX8 (ci := 8) rfl (by decide) fl_X8_129 dX8_takesLetter_38 (by repeat (first | exact hs_eq _ _ _ | refine hs_ne (by omega) ?_ | assumption)) rfl ?_
      refine k_imul C dX8_takesLetter_41 ?_
      refine k_iload_n C dX8_takesLetter_42 rfl ?_
      refine k_iastore C dX8_takesLetter_43 (by repeat (first | exact hs_eq _ _ _ | refine hs_ne (by omega) ?_ | assumption)) (by omega) (by omega) (by omega) ?_
      refine k_aload_n C dX8_takesLetter_44 rfl ?_
      refine k_get C (k := 7) inX8 (ci := 8) rfl (by decide) fl_X8_22 dX8_takesLetter_45 (by repeat (first | exact hs_eq _ _ _ | refine hs_ne (by omega) ?_ | assumption)) rfl ?_
      refine k_iconst C dX8_takesLetter_48 ?_
      refine k_aload_n C dX8_takesLetter_49 rfl ?_
      refine k_get C (k := 8) inX8 (ci := 8) rfl (by decide) fl_X8_129 dX8_takesLetter_50 (by repeat (first | exact hs_eq _ _ _ | refine hs_ne (by omega) ?_ | assumption)) rfl ?_
      refine k_imul C dX8_takesLetter_53 ?_
      refine k_iconst C dX8_takesLetter_54 ?_
      refine k_iadd C dX8_takesLetter_55 ?_
      refine k_iconst C dX8_takesLetter_56 ?_
      refine k_iastore C dX8_takesLetter_57 (by repeat (first | exact hs_eq _ _ _ | refine hs_ne (by omega) ?_ | assumption)) (by omega) (by omega) (by omega) ?_
      refine k_aload_n C dX8_takesLetter_58 rfl ?_
      refine k_get C (k := 7) inX8 (ci := 8) rfl (by decide) fl_X8_22 dX8_takesLetter_59 (by repeat (first | exact hs_eq _ _ _ | refine hs_ne (by omega) ?_ | assumption)) rfl ?_
      refine k_iconst C dX8_takesLetter_62 ?_
      refine k_aload_n C dX8_takesLetter_63 rfl ?_
      refine k_get C (k := 8) inX8 (ci := 8) rfl (by decide) fl_X8_129 dX8_takesLetter_64 (by repeat (first | exact hs_eq _ _ _ | refine hs_ne (by omega) ?_ | assumption)) rfl ?_
      refine k_imul C dX8_takesLetter_67 ?_
      refine k_iconst C dX8_takesLetter_68 ?_
      refine k_iadd C dX8_takesLetter_69 ?_
      refine k_iconst C dX8_takesLetter_70 ?_
      refine k_iastore C dX8_takesLetter_71 (by repeat (first | exact hs_eq _ _ _ | refine hs_ne (by omega) ?_ | assumption)) (by omega) (by omega) (by omega) ?_
      refine k_aload_n C dX8_takesLetter_72 rfl ?_
      refine k_iconst C dX8_takesLetter_73 ?_
      refine k_put C (k := 9) inX8 tyX8_ok nmX8 (ci := 8) rfl (by decide) fl_X8_132 rfl (Nat.le_of_ble_eq_true rfl) dX8_takesLetter_74 (by repeat (first | exact hs_eq _ _ _ | refine hs_ne (by omega) ?_ | assumption)) ?_
      refine k_iload_n C dX8_takesLetter_77 rfl ?_
      refine k_iconst C dX8_takesLetter_78 ?_
      refine k_icmp_eq (tgt := 86) C dX8_takesLetter_79 (by decide) ⟨by omega, by omega⟩ ⟨by omega, by omega⟩ (fun c79 => ?_) (fun c79 => ?_)
      · try (exfalso; omega)
        all_goals (
          refine k_iconst C dX8_takesLetter_86 ?_
          refine k_zret C hr dX8_takesLetter_87 (by omega) ?_
          first
            | (have hpw : pW ww = 0 := by rw [pW, if_pos (by omega)]
               rw [hpw]
               exact Or.inl ⟨rfl, by omega, ⟨(by repeat (first | exact hs_eq _ _ _ | refine hs_ne (by omega) ?_ | assumption)), (by repeat (first | exact hs_eq _ _ _ | refine hs_ne (by omega) ?_ | assumption)), (by repeat (first | exact hs_eq _ _ _ | refine hs_ne (by omega) ?_ | assumption)), (by repeat (first | exact hs_eq _ _ _ | refine hs_ne (by omega) ?_ | assumption)), (by repeat (first | exact hs_eq _ _ _ | refine hs_ne (by omega) ?_ | assumption)), (by repeat (first | exact hs_eq _ _ _ | refine hs_ne (by omega) ?_ | assumption))⟩, fun aaa haa => by repeat (first | rfl | refine hs_ne (by omega) ?_)⟩)
            | (have hpw : pW ww = 1 := by rw [pW, if_neg (by omega), if_pos (by omega)]
               rw [hpw]
               exact Or.inl ⟨rfl, by omega, ⟨(by repeat (first | exact hs_eq _ _ _ | refine hs_ne (by omega) ?_ | assumption)), (by repeat (first | exact hs_eq _ _ _ | refine hs_ne (by omega) ?_ | assumption)), (by repeat (first | exact hs_eq _ _ _ | refine hs_ne (by omega) ?_ | assumption)), (by repeat (first | exact hs_eq _ _ _ | refine hs_ne (by omega) ?_ | assumption)), (by repeat (first | exact hs_eq _ _ _ | refine hs_ne (by omega) ?_ | assumption)), (by repeat (first | exact hs_eq _ _ _ | refine hs_ne (by omega) ?_ | assumption))⟩, fun aaa haa => by repeat (first | rfl | refine hs_ne (by omega) ?_)⟩)
            | (have hpw : pW ww = 2 := by rw [pW, if_neg (by omega), if_neg (by omega), if_pos (by omega)]
               rw [hpw]
               exact Or.inl ⟨rfl, by omega, ⟨(by repeat (first | exact hs_eq _ _ _ | refine hs_ne (by omega) ?_ | assumption)), (by repeat (first | exact hs_eq _ _ _ | refine hs_ne (by omega) ?_ | assumption)), (by repeat (first | exact hs_eq _ _ _ | refine hs_ne (by omega) ?_ | assumption)), (by repeat (first | exact hs_eq _ _ _ | refine hs_ne (by omega) ?_ | assumption)), (by repeat (first | exact hs_eq _ _ _ | refine hs_ne (by omega) ?_ | assumption)), (by repeat (first | exact hs_eq _ _ _ | refine hs_ne (by omega) ?_ | assumption))⟩, fun aaa haa => by repeat (first | rfl | refine hs_ne (by omega) ?_)⟩)
            | (have hpw : pW ww = -1 := by rw [pW, if_neg (by omega), if_neg (by omega), if_neg (by omega)]
               rw [hpw]
               exact Or.inr ⟨rfl, by omega, ⟨(by repeat (first | exact hs_eq _ _ _ | refine hs_ne (by omega) ?_ | assumption)), (by repeat (first | exact hs_eq _ _ _ | refine hs_ne (by omega) ?_ | assumption)), (by repeat (first | exact hs_eq _ _ _ | refine hs_ne (by omega) ?_ | assumption)), (by repeat (first | exact hs_eq _ _ _ | refine hs_ne (by omega) ?_ | assumption)), (by repeat (first | exact hs_eq _ _ _ | refine hs_ne (by omega) ?_ | assumption)), (by repeat (first | exact hs_eq _ _ _ | refine hs_ne (by omega) ?_ | assumption))⟩, fun aaa haa => by repeat (first | rfl | refine hs_ne (by omega) ?_)⟩))
      · try (exfalso; omega)
        all_goals (
          refine k_iconst C dX8_takesLetter_82 ?_
          refine k_goto (tgt := 87) C dX8_takesLetter_83 (by decide) ?_
          refine k_zret C hr dX8_takesLetter_87 (by omega) ?_
          first
            | (have hpw : pW ww = 0 := by rw [pW, if_pos (by omega)]
               rw [hpw]
               exact Or.inl ⟨rfl, by omega, ⟨(by repeat (first | exact hs_eq _ _ _ | refine hs_ne (by omega) ?_ | assumption)), (by repeat (first | exact hs_eq _ _ _ | refine hs_ne (by omega) ?_ | assumption)), (by repeat (first | exact hs_eq _ _ _ | refine hs_ne (by omega) ?_ | assumption)), (by repeat (first | exact hs_eq _ _ _ | refine hs_ne (by omega) ?_ | assumption)), (by repeat (first | exact hs_eq _ _ _ | refine hs_ne (by omega) ?_ | assumption)), (by repeat (first | exact hs_eq _ _ _ | refine hs_ne (by omega) ?_ | assumption))⟩, fun aaa haa => by repeat (first | rfl | refine hs_ne (by omega) ?_)⟩)
            | (have hpw : pW ww = 1 := by rw [pW, if_neg (by omega), if_pos (by omega)]
               rw [hpw]
               exact Or.inl ⟨rfl, by omega, ⟨(by repeat (first | exact hs_eq _ _ _ | refine hs_ne (by omega) ?_ | assumption)), (by repeat (first | exact hs_eq _ _ _ | refine hs_ne (by omega) ?_ | assumption)), (by repeat (first | exact hs_eq _ _ _ | refine hs_ne (by omega) ?_ | assumption)), (by repeat (first | exact hs_eq _ _ _ | refine hs_ne (by omega) ?_ | assumption)), (by repeat (first | exact hs_eq _ _ _ | refine hs_ne (by omega) ?_ | assumption)), (by repeat (first | exact hs_eq _ _ _ | refine hs_ne (by omega) ?_ | assumption))⟩, fun aaa haa => by repeat (first | rfl | refine hs_ne (by omega) ?_)⟩)
            | (have hpw : pW ww = 2 := by rw [pW, if_neg (by omega), if_neg (by omega), if_pos (by omega)]
               rw [hpw]
               exact Or.inl ⟨rfl, by omega, ⟨(by repeat (first | exact hs_eq _ _ _ | refine hs_ne (by omega) ?_ | assumption)), (by repeat (first | exact hs_eq _ _ _ | refine hs_ne (by omega) ?_ | assumption)), (by repeat (first | exact hs_eq _ _ _ | refine hs_ne (by omega) ?_ | assumption)), (by repeat (first | exact hs_eq _ _ _ | refine hs_ne (by omega) ?_ | assumption)), (by repeat (first | exact hs_eq _ _ _ | refine hs_ne (by omega) ?_ | assumption)), (by repeat (first | exact hs_eq _ _ _ | refine hs_ne (by omega) ?_ | assumption))⟩, fun aaa haa => by repeat (first | rfl | refine hs_ne (by omega) ?_)⟩)
            | (have hpw : pW ww = -1 := by rw [pW, if_neg (by omega), if_neg (by omega), if_neg (by omega)]
               rw [hpw]
               exact Or.inr ⟨rfl, by omega, ⟨(by repeat (first | exact hs_eq _ _ _ | refine hs_ne (by omega) ?_ | assumption)), (by repeat (first | exact hs_eq _ _ _ | refine hs_ne (by omega) ?_ | assumption)), (by repeat (first | exact hs_eq _ _ _ | refine hs_ne (by omega) ?_ | assumption)), (by repeat (first | exact hs_eq _ _ _ | refine hs_ne (by omega) ?_ | assumption)), (by repeat (first | exact hs_eq _ _ _ | refine hs_ne (by omega) ?_ | assumption)), (by repeat (first | exact hs_eq _ _ _ | refine hs_ne (by omega) ?_ | assumption))⟩, fun aaa haa => by repeat (first | rfl | refine hs_ne (by omega) ?_)⟩)))

set_option maxRecDepth 20000 in
set_option maxHeartbeats 1000000 in
theorem ct_X8_takesDigit (l : Launch) (D : va_G) (tc : Nat → ClassId) (base : Nat) (oo : Nat) (zrr hhi htx has hro : Int → Int) (st ln th re du hsh : Int) (hpp : AH) (hM : MA hpp oo zrr hhi htx has hro st ln th re du hsh) (ww : Int) (hw : 33 ≤ ww ∧ ww ≤ 126) (hre : 0 ≤ re ∧ re ≤ 20) (hdu : du = 1 ∨ du = 2) (hrk : 0 ≤ hro (3 * re + du) ∧ hro (3 * re + du) ≤ 720) : CT l D tc base yX8_takesDigit cX8_takesDigit 5 (some .boolean) 1 [aR oo, aI ww] hpp (fun r h' => (r = some (aI 1) ∧ (48 ≤ ww ∧ ww ≤ 57 ∧ 1 ≤ pV ww re du hro ∧ (du = 1 → pV ww re du hro ≤ 200) ∧ (du = 2 → pV ww re du hro ≤ 720)) ∧ MA h' oo (zrr) (hhi) (htx) (has) (iu hro (3 * re + du) (pV ww re du hro)) (st) (ln) (th) (re) (du) (hsh) ∧ Fr hpp h' oo 6) ∨ (r = some (aI 0) ∧ ¬ (48 ≤ ww ∧ ww ≤ 57 ∧ 1 ≤ pV ww re du hro ∧ (du = 1 → pV ww re du hro ≤ 200) ∧ (du = 2 → pV ww re du hro ≤ 720)) ∧ MA h' oo (zrr) (hhi) (htx) (has) (hro) (st) (ln) (th) (re) (du) (hsh) ∧ Fr hpp h' oo 6)) := by
  refine CT.of [some (aR oo), some (aI ww), none, none, none] (by decide +kernel) rfl (Nat.le_of_ble_eq_true rfl) ?_
  intro p e s m args below meth c C hr hnm
  obtain ⟨g0, g1, g2, g3, g4, g5⟩ := id hM
  have hpv : pV ww re du hro = 10 * hro (3 * re + du) + ww - 48 := rfl
  refine k_iconst C dX8_takesDigit_0 ?_
  refine k_aload_n C dX8_takesDigit_1 rfl ?_
  refine k_get C (k := 8) inX8 (ci := 8) rfl (by decide) fl_X8_129 dX8_takesDigit_2 (by repeat (first | exact hs_eq _ _ _ | refine hs_ne (by omega) ?_ | assumption)) rfl ?_
  refine k_imul C dX8_takesDigit_5 ?_
  refine k_aload_n C dX8_takesDigit_6 rfl ?_
  refine k_get C (k := 9) inX8 (ci := 8) rfl (by decide) fl_X8_132 dX8_takesDigit_7 (by repeat (first | exact hs_eq _ _ _ | refine hs_ne (by omega) ?_ | assumption)) rfl ?_
  refine k_iadd C dX8_takesDigit_10 ?_
  refine k_istore_n C dX8_takesDigit_11 (by decide) rfl ?_
  refine k_bipush C dX8_takesDigit_12 (by decide +kernel) ?_
  refine k_aload_n C dX8_takesDigit_14 rfl ?_
  refine k_get C (k := 7) inX8 (ci := 8) rfl (by decide) fl_X8_22 dX8_takesDigit_15 (by repeat (first | exact hs_eq _ _ _ | refine hs_ne (by omega) ?_ | assumption)) rfl ?_
  refine k_iload_n C dX8_takesDigit_18 rfl ?_
  refine k_iaload C dX8_takesDigit_19 (by repeat (first | exact hs_eq _ _ _ | refine hs_ne (by omega) ?_ | assumption)) (by omega) (by omega) (by omega) ?_
  refine k_imul C dX8_takesDigit_20 ?_
  refine k_iload_n C dX8_takesDigit_21 rfl ?_
  refine k_iadd C dX8_takesDigit_22 ?_
  refine k_bipush C dX8_takesDigit_23 (by decide +kernel) ?_
  refine k_isub C dX8_takesDigit_25 ?_
  refine k_istore_n C dX8_takesDigit_26 (by decide) rfl ?_
  refine k_iload_n C dX8_takesDigit_27 rfl ?_
  refine k_bipush C dX8_takesDigit_28 (by decide +kernel) ?_
  refine k_bipush C dX8_takesDigit_30 (by decide +kernel) ?_
  refine k_callS C (n := 3) (as := [_, _, _]) (ct_X8_within l D tc base _ _ _ _ ⟨by omega, by omega⟩ ⟨by omega, by omega⟩ ⟨by omega, by omega⟩) ml_X8_92 sm_X8_within ini_X8 co_X8_within ⟨by decide, by decide, by decide +kernel⟩ rfl ⟨by decide, by decide⟩ rfl (Nat.le_of_ble_eq_true rfl) ⟨Nat.zero_le _, Nat.zero_le _⟩ dX8_takesDigit_32 ?_
  rintro _ _ (⟨rfl, rfl, hq⟩ | ⟨rfl, rfl, hq⟩)
  · skip
    refine k_if_eq (tgt := 68) C dX8_takesDigit_35 (by decide) ⟨by omega, by omega⟩ (fun c35 => ?_) (fun c35 => ?_)
    · try (exfalso; omega)
      all_goals (
        refine k_iconst C dX8_takesDigit_68 ?_
        refine k_istore C dX8_takesDigit_69 (by decide) rfl ?_
        refine k_aload_n C dX8_takesDigit_71 rfl ?_
        refine k_get C (k := 7) inX8 (ci := 8) rfl (by decide) fl_X8_22 dX8_takesDigit_72 (by repeat (first | exact hs_eq _ _ _ | refine hs_ne (by omega) ?_ | assumption)) rfl ?_
        refine k_iload_n C dX8_takesDigit_75 rfl ?_
        refine k_iload C dX8_takesDigit_76 rfl ?_
        refine k_if_eq (tgt := 85) C dX8_takesDigit_78 (by decide) ⟨by omega, by omega⟩ (fun c78 => ?_) (fun c78 => ?_)
        · try (exfalso; omega)
          all_goals (
            refine k_aload_n C dX8_takesDigit_85 rfl ?_
            refine k_get C (k := 7) inX8 (ci := 8) rfl (by decide) fl_X8_22 dX8_takesDigit_86 (by repeat (first | exact hs_eq _ _ _ | refine hs_ne (by omega) ?_ | assumption)) rfl ?_
            refine k_iload_n C dX8_takesDigit_89 rfl ?_
            refine k_iaload C dX8_takesDigit_90 (by repeat (first | exact hs_eq _ _ _ | refine hs_ne (by omega) ?_ | assumption)) (by omega) (by omega) (by omega) ?_
            refine k_iastore C dX8_takesDigit_91 (by repeat (first | exact hs_eq _ _ _ | refine hs_ne (by omega) ?_ | assumption)) (by omega) (by omega) (by omega) ?_
            refine k_iload C dX8_takesDigit_92 rfl ?_
            refine k_zret C hr dX8_takesDigit_94 (by omega) ?_
            first
              | exact Or.inl ⟨rfl, by omega, ⟨(by repeat (first | exact hs_eq _ _ _ | refine hs_ne (by omega) ?_ | assumption)), (by repeat (first | exact hs_eq _ _ _ | refine hs_ne (by omega) ?_ | assumption)), (by repeat (first | exact hs_eq _ _ _ | refine hs_ne (by omega) ?_ | assumption)), (by repeat (first | exact hs_eq _ _ _ | refine hs_ne (by omega) ?_ | assumption)), (by repeat (first | exact hs_eq _ _ _ | refine hs_ne (by omega) ?_ | assumption)), (by repeat (first | exact hs_eq _ _ _ | refine hs_ne (by omega) ?_ | assumption))⟩, fun aaa haa => by repeat (first | rfl | refine hs_ne (by omega) ?_)⟩
              | (rw [iu_self]
                 exact Or.inr ⟨rfl, by omega, ⟨(by repeat (first | exact hs_eq _ _ _ | refine hs_ne (by omega) ?_ | assumption)), (by repeat (first | exact hs_eq _ _ _ | refine hs_ne (by omega) ?_ | assumption)), (by repeat (first | exact hs_eq _ _ _ | refine hs_ne (by omega) ?_ | assumption)), (by repeat (first | exact hs_eq _ _ _ | refine hs_ne (by omega) ?_ | assumption)), (by repeat (first | exact hs_eq _ _ _ | refine hs_ne (by omega) ?_ | assumption)), (by repeat (first | exact hs_eq _ _ _ | refine hs_ne (by omega) ?_ | assumption))⟩, fun aaa haa => by repeat (first | rfl | refine hs_ne (by omega) ?_)⟩))
        · try (exfalso; omega)
          all_goals (
            refine k_iload_n C dX8_takesDigit_81 rfl ?_
            refine k_goto (tgt := 91) C dX8_takesDigit_82 (by decide) ?_
            refine k_iastore C dX8_takesDigit_91 (by repeat (first | exact hs_eq _ _ _ | refine hs_ne (by omega) ?_ | assumption)) (by omega) (by omega) (by omega) ?_
            refine k_iload C dX8_takesDigit_92 rfl ?_
            refine k_zret C hr dX8_takesDigit_94 (by omega) ?_
            first
              | exact Or.inl ⟨rfl, by omega, ⟨(by repeat (first | exact hs_eq _ _ _ | refine hs_ne (by omega) ?_ | assumption)), (by repeat (first | exact hs_eq _ _ _ | refine hs_ne (by omega) ?_ | assumption)), (by repeat (first | exact hs_eq _ _ _ | refine hs_ne (by omega) ?_ | assumption)), (by repeat (first | exact hs_eq _ _ _ | refine hs_ne (by omega) ?_ | assumption)), (by repeat (first | exact hs_eq _ _ _ | refine hs_ne (by omega) ?_ | assumption)), (by repeat (first | exact hs_eq _ _ _ | refine hs_ne (by omega) ?_ | assumption))⟩, fun aaa haa => by repeat (first | rfl | refine hs_ne (by omega) ?_)⟩
              | (rw [iu_self]
                 exact Or.inr ⟨rfl, by omega, ⟨(by repeat (first | exact hs_eq _ _ _ | refine hs_ne (by omega) ?_ | assumption)), (by repeat (first | exact hs_eq _ _ _ | refine hs_ne (by omega) ?_ | assumption)), (by repeat (first | exact hs_eq _ _ _ | refine hs_ne (by omega) ?_ | assumption)), (by repeat (first | exact hs_eq _ _ _ | refine hs_ne (by omega) ?_ | assumption)), (by repeat (first | exact hs_eq _ _ _ | refine hs_ne (by omega) ?_ | assumption)), (by repeat (first | exact hs_eq _ _ _ | refine hs_ne (by omega) ?_ | assumption))⟩, fun aaa haa => by repeat (first | rfl | refine hs_ne (by omega) ?_)⟩)))
    · try (exfalso; omega)
      all_goals (
        refine k_iload_n C dX8_takesDigit_38 rfl ?_
        refine k_iconst C dX8_takesDigit_39 ?_
        refine k_icmp_lt (tgt := 68) C dX8_takesDigit_40 (by decide) ⟨by omega, by omega⟩ ⟨by omega, by omega⟩ (fun c40 => ?_) (fun c40 => ?_)
        · try (exfalso; omega)
          all_goals (
            refine k_iconst C dX8_takesDigit_68 ?_
            refine k_istore C dX8_takesDigit_69 (by decide) rfl ?_
            refine k_aload_n C dX8_takesDigit_71 rfl ?_
            refine k_get C (k := 7) inX8 (ci := 8) rfl (by decide) fl_X8_22 dX8_takesDigit_72 (by repeat (first | exact hs_eq _ _ _ | refine hs_ne (by omega) ?_ | assumption)) rfl ?_
            refine k_iload_n C dX8_takesDigit_75 rfl ?_
            refine k_iload C dX8_takesDigit_76 rfl ?_
            refine k_if_eq (tgt := 85) C dX8_takesDigit_78 (by decide) ⟨by omega, by omega⟩ (fun c78 => ?_) (fun c78 => ?_)
            · try (exfalso; omega)
              all_goals (
                refine k_aload_n C dX8_takesDigit_85 rfl ?_
                refine k_get C (k := 7) inX8 (ci := 8) rfl (by decide) fl_X8_22 dX8_takesDigit_86 (by repeat (first | exact hs_eq _ _ _ | refine hs_ne (by omega) ?_ | assumption)) rfl ?_
                refine k_iload_n C dX8_takesDigit_89 rfl ?_
                refine k_iaload C dX8_takesDigit_90 (by repeat (first | exact hs_eq _ _ _ | refine hs_ne (by omega) ?_ | assumption)) (by omega) (by omega) (by omega) ?_
                refine k_iastore C dX8_takesDigit_91 (by repeat (first | exact hs_eq _ _ _ | refine hs_ne (by omega) ?_ | assumption)) (by omega) (by omega) (by omega) ?_
                refine k_iload C dX8_takesDigit_92 rfl ?_
                refine k_zret C hr dX8_takesDigit_94 (by omega) ?_
                first
                  | exact Or.inl ⟨rfl, by omega, ⟨(by repeat (first | exact hs_eq _ _ _ | refine hs_ne (by omega) ?_ | assumption)), (by repeat (first | exact hs_eq _ _ _ | refine hs_ne (by omega) ?_ | assumption)), (by repeat (first | exact hs_eq _ _ _ | refine hs_ne (by omega) ?_ | assumption)), (by repeat (first | exact hs_eq _ _ _ | refine hs_ne (by omega) ?_ | assumption)), (by repeat (first | exact hs_eq _ _ _ | refine hs_ne (by omega) ?_ | assumption)), (by repeat (first | exact hs_eq _ _ _ | refine hs_ne (by omega) ?_ | assumption))⟩, fun aaa haa => by repeat (first | rfl | refine hs_ne (by omega) ?_)⟩
                  | (rw [iu_self]
                     exact Or.inr ⟨rfl, by omega, ⟨(by repeat (first | exact hs_eq _ _ _ | refine hs_ne (by omega) ?_ | assumption)), (by repeat (first | exact hs_eq _ _ _ | refine hs_ne (by omega) ?_ | assumption)), (by repeat (first | exact hs_eq _ _ _ | refine hs_ne (by omega) ?_ | assumption)), (by repeat (first | exact hs_eq _ _ _ | refine hs_ne (by omega) ?_ | assumption)), (by repeat (first | exact hs_eq _ _ _ | refine hs_ne (by omega) ?_ | assumption)), (by repeat (first | exact hs_eq _ _ _ | refine hs_ne (by omega) ?_ | assumption))⟩, fun aaa haa => by repeat (first | rfl | refine hs_ne (by omega) ?_)⟩))
            · try (exfalso; omega)
              all_goals (
                refine k_iload_n C dX8_takesDigit_81 rfl ?_
                refine k_goto (tgt := 91) C dX8_takesDigit_82 (by decide) ?_
                refine k_iastore C dX8_takesDigit_91 (by repeat (first | exact hs_eq _ _ _ | refine hs_ne (by omega) ?_ | assumption)) (by omega) (by omega) (by omega) ?_
                refine k_iload C dX8_takesDigit_92 rfl ?_
                refine k_zret C hr dX8_takesDigit_94 (by omega) ?_
                first
                  | exact Or.inl ⟨rfl, by omega, ⟨(by repeat (first | exact hs_eq _ _ _ | refine hs_ne (by omega) ?_ | assumption)), (by repeat (first | exact hs_eq _ _ _ | refine hs_ne (by omega) ?_ | assumption)), (by repeat (first | exact hs_eq _ _ _ | refine hs_ne (by omega) ?_ | assumption)), (by repeat (first | exact hs_eq _ _ _ | refine hs_ne (by omega) ?_ | assumption)), (by repeat (first | exact hs_eq _ _ _ | refine hs_ne (by omega) ?_ | assumption)), (by repeat (first | exact hs_eq _ _ _ | refine hs_ne (by omega) ?_ | assumption))⟩, fun aaa haa => by repeat (first | rfl | refine hs_ne (by omega) ?_)⟩
                  | (rw [iu_self]
                     exact Or.inr ⟨rfl, by omega, ⟨(by repeat (first | exact hs_eq _ _ _ | refine hs_ne (by omega) ?_ | assumption)), (by repeat (first | exact hs_eq _ _ _ | refine hs_ne (by omega) ?_ | assumption)), (by repeat (first | exact hs_eq _ _ _ | refine hs_ne (by omega) ?_ | assumption)), (by repeat (first | exact hs_eq _ _ _ | refine hs_ne (by omega) ?_ | assumption)), (by repeat (first | exact hs_eq _ _ _ | refine hs_ne (by omega) ?_ | assumption)), (by repeat (first | exact hs_eq _ _ _ | refine hs_ne (by omega) ?_ | assumption))⟩, fun aaa haa => by repeat (first | rfl | refine hs_ne (by omega) ?_)⟩)))
        · try (exfalso; omega)
          all_goals (
            refine k_iload_n C dX8_takesDigit_43 rfl ?_
            refine k_aload_n C dX8_takesDigit_44 rfl ?_
            refine k_get C (k := 9) inX8 (ci := 8) rfl (by decide) fl_X8_132 dX8_takesDigit_45 (by repeat (first | exact hs_eq _ _ _ | refine hs_ne (by omega) ?_ | assumption)) rfl ?_
            refine k_iconst C dX8_takesDigit_48 ?_
            refine k_icmp_ne (tgt := 58) C dX8_takesDigit_49 (by decide) ⟨by omega, by omega⟩ ⟨by omega, by omega⟩ (fun c49 => ?_) (fun c49 => ?_)
            · try (exfalso; omega)
              all_goals (
                refine k_sipush C dX8_takesDigit_58 (by decide +kernel) ?_
                refine k_icmp_gt (tgt := 68) C dX8_takesDigit_61 (by decide) ⟨by omega, by omega⟩ ⟨by omega, by omega⟩ (fun c61 => ?_) (fun c61 => ?_)
                · try (exfalso; omega)
                  all_goals (
                    refine k_iconst C dX8_takesDigit_68 ?_
                    refine k_istore C dX8_takesDigit_69 (by decide) rfl ?_
                    refine k_aload_n C dX8_takesDigit_71 rfl ?_
                    refine k_get C (k := 7) inX8 (ci := 8) rfl (by decide) fl_X8_22 dX8_takesDigit_72 (by repeat (first | exact hs_eq _ _ _ | refine hs_ne (by omega) ?_ | assumption)) rfl ?_
                    refine k_iload_n C dX8_takesDigit_75 rfl ?_
                    refine k_iload C dX8_takesDigit_76 rfl ?_
                    refine k_if_eq (tgt := 85) C dX8_takesDigit_78 (by decide) ⟨by omega, by omega⟩ (fun c78 => ?_) (fun c78 => ?_)
                    · try (exfalso; omega)
                      all_goals (
                        refine k_aload_n C dX8_takesDigit_85 rfl ?_
                        refine k_get C (k := 7) inX8 (ci := 8) rfl (by decide) fl_X8_22 dX8_takesDigit_86 (by repeat (first | exact hs_eq _ _ _ | refine hs_ne (by omega) ?_ | assumption)) rfl ?_
                        refine k_iload_n C dX8_takesDigit_89 rfl ?_
                        refine k_iaload C dX8_takesDigit_90 (by repeat (first | exact hs_eq _ _ _ | refine hs_ne (by omega) ?_ | assumption)) (by omega) (by omega) (by omega) ?_
                        refine k_iastore C dX8_takesDigit_91 (by repeat (first | exact hs_eq _ _ _ | refine hs_ne (by omega) ?_ | assumption)) (by omega) (by omega) (by omega) ?_
                        refine k_iload C dX8_takesDigit_92 rfl ?_
                        refine k_zret C hr dX8_takesDigit_94 (by omega) ?_
                        first
                          | exact Or.inl ⟨rfl, by omega, ⟨(by repeat (first | exact hs_eq _ _ _ | refine hs_ne (by omega) ?_ | assumption)), (by repeat (first | exact hs_eq _ _ _ | refine hs_ne (by omega) ?_ | assumption)), (by repeat (first | exact hs_eq _ _ _ | refine hs_ne (by omega) ?_ | assumption)), (by repeat (first | exact hs_eq _ _ _ | refine hs_ne (by omega) ?_ | assumption)), (by repeat (first | exact hs_eq _ _ _ | refine hs_ne (by omega) ?_ | assumption)), (by repeat (first | exact hs_eq _ _ _ | refine hs_ne (by omega) ?_ | assumption))⟩, fun aaa haa => by repeat (first | rfl | refine hs_ne (by omega) ?_)⟩
                          | (rw [iu_self]
                             exact Or.inr ⟨rfl, by omega, ⟨(by repeat (first | exact hs_eq _ _ _ | refine hs_ne (by omega) ?_ | assumption)), (by repeat (first | exact hs_eq _ _ _ | refine hs_ne (by omega) ?_ | assumption)), (by repeat (first | exact hs_eq _ _ _ | refine hs_ne (by omega) ?_ | assumption)), (by repeat (first | exact hs_eq _ _ _ | refine hs_ne (by omega) ?_ | assumption)), (by repeat (first | exact hs_eq _ _ _ | refine hs_ne (by omega) ?_ | assumption)), (by repeat (first | exact hs_eq _ _ _ | refine hs_ne (by omega) ?_ | assumption))⟩, fun aaa haa => by repeat (first | rfl | refine hs_ne (by omega) ?_)⟩))
                    · try (exfalso; omega)
                      all_goals (
                        refine k_iload_n C dX8_takesDigit_81 rfl ?_
                        refine k_goto (tgt := 91) C dX8_takesDigit_82 (by decide) ?_
                        refine k_iastore C dX8_takesDigit_91 (by repeat (first | exact hs_eq _ _ _ | refine hs_ne (by omega) ?_ | assumption)) (by omega) (by omega) (by omega) ?_
                        refine k_iload C dX8_takesDigit_92 rfl ?_
                        refine k_zret C hr dX8_takesDigit_94 (by omega) ?_
                        first
                          | exact Or.inl ⟨rfl, by omega, ⟨(by repeat (first | exact hs_eq _ _ _ | refine hs_ne (by omega) ?_ | assumption)), (by repeat (first | exact hs_eq _ _ _ | refine hs_ne (by omega) ?_ | assumption)), (by repeat (first | exact hs_eq _ _ _ | refine hs_ne (by omega) ?_ | assumption)), (by repeat (first | exact hs_eq _ _ _ | refine hs_ne (by omega) ?_ | assumption)), (by repeat (first | exact hs_eq _ _ _ | refine hs_ne (by omega) ?_ | assumption)), (by repeat (first | exact hs_eq _ _ _ | refine hs_ne (by omega) ?_ | assumption))⟩, fun aaa haa => by repeat (first | rfl | refine hs_ne (by omega) ?_)⟩
                          | (rw [iu_self]
                             exact Or.inr ⟨rfl, by omega, ⟨(by repeat (first | exact hs_eq _ _ _ | refine hs_ne (by omega) ?_ | assumption)), (by repeat (first | exact hs_eq _ _ _ | refine hs_ne (by omega) ?_ | assumption)), (by repeat (first | exact hs_eq _ _ _ | refine hs_ne (by omega) ?_ | assumption)), (by repeat (first | exact hs_eq _ _ _ | refine hs_ne (by omega) ?_ | assumption)), (by repeat (first | exact hs_eq _ _ _ | refine hs_ne (by omega) ?_ | assumption)), (by repeat (first | exact hs_eq _ _ _ | refine hs_ne (by omega) ?_ | assumption))⟩, fun aaa haa => by repeat (first | rfl | refine hs_ne (by omega) ?_)⟩)))
                · try (exfalso; omega)
                  all_goals (
                    refine k_iconst C dX8_takesDigit_64 ?_
                    refine k_goto (tgt := 69) C dX8_takesDigit_65 (by decide) ?_
                    refine k_istore C dX8_takesDigit_69 (by decide) rfl ?_
                    refine k_aload_n C dX8_takesDigit_71 rfl ?_
                    refine k_get C (k := 7) inX8 (ci := 8) rfl (by decide) fl_X8_22 dX8_takesDigit_72 (by repeat (first | exact hs_eq _ _ _ | refine hs_ne (by omega) ?_ | assumption)) rfl ?_
                    refine k_iload_n C dX8_takesDigit_75 rfl ?_
                    refine k_iload C dX8_takesDigit_76 rfl ?_
                    refine k_if_eq (tgt := 85) C dX8_takesDigit_78 (by decide) ⟨by omega, by omega⟩ (fun c78 => ?_) (fun c78 => ?_)
                    · try (exfalso; omega)
                      all_goals (
                        refine k_aload_n C dX8_takesDigit_85 rfl ?_
                        refine k_get C (k := 7) inX8 (ci := 8) rfl (by decide) fl_X8_22 dX8_takesDigit_86 (by repeat (first | exact hs_eq _ _ _ | refine hs_ne (by omega) ?_ | assumption)) rfl ?_
                        refine k_iload_n C dX8_takesDigit_89 rfl ?_
                        refine k_iaload C dX8_takesDigit_90 (by repeat (first | exact hs_eq _ _ _ | refine hs_ne (by omega) ?_ | assumption)) (by omega) (by omega) (by omega) ?_
                        refine k_iastore C dX8_takesDigit_91 (by repeat (first | exact hs_eq _ _ _ | refine hs_ne (by omega) ?_ | assumption)) (by omega) (by omega) (by omega) ?_
                        refine k_iload C dX8_takesDigit_92 rfl ?_
                        refine k_zret C hr dX8_takesDigit_94 (by omega) ?_
                        first
                          | exact Or.inl ⟨rfl, by omega, ⟨(by repeat (first | exact hs_eq _ _ _ | refine hs_ne (by omega) ?_ | assumption)), (by repeat (first | exact hs_eq _ _ _ | refine hs_ne (by omega) ?_ | assumption)), (by repeat (first | exact hs_eq _ _ _ | refine hs_ne (by omega) ?_ | assumption)), (by repeat (first | exact hs_eq _ _ _ | refine hs_ne (by omega) ?_ | assumption)), (by repeat (first | exact hs_eq _ _ _ | refine hs_ne (by omega) ?_ | assumption)), (by repeat (first | exact hs_eq _ _ _ | refine hs_ne (by omega) ?_ | assumption))⟩, fun aaa haa => by repeat (first | rfl | refine hs_ne (by omega) ?_)⟩
                          | (rw [iu_self]
                             exact Or.inr ⟨rfl, by omega, ⟨(by repeat (first | exact hs_eq _ _ _ | refine hs_ne (by omega) ?_ | assumption)), (by repeat (first | exact hs_eq _ _ _ | refine hs_ne (by omega) ?_ | assumption)), (by repeat (first | exact hs_eq _ _ _ | refine hs_ne (by omega) ?_ | assumption)), (by repeat (first | exact hs_eq _ _ _ | refine hs_ne (by omega) ?_ | assumption)), (by repeat (first | exact hs_eq _ _ _ | refine hs_ne (by omega) ?_ | assumption)), (by repeat (first | exact hs_eq _ _ _ | refine hs_ne (by omega) ?_ | assumption))⟩, fun aaa haa => by repeat (first | rfl | refine hs_ne (by omega) ?_)⟩))
                    · try (exfalso; omega)
                      all_goals (
                        refine k_iload_n C dX8_takesDigit_81 rfl ?_
                        refine k_goto (tgt := 91) C dX8_takesDigit_82 (by decide) ?_
                        refine k_iastore C dX8_takesDigit_91 (by repeat (first | exact hs_eq _ _ _ | refine hs_ne (by omega) ?_ | assumption)) (by omega) (by omega) (by omega) ?_
                        refine k_iload C dX8_takesDigit_92 rfl ?_
                        refine k_zret C hr dX8_takesDigit_94 (by omega) ?_
                        first
                          | exact Or.inl ⟨rfl, by omega, ⟨(by repeat (first | exact hs_eq _ _ _ | refine hs_ne (by omega) ?_ | assumption)), (by repeat (first | exact hs_eq _ _ _ | refine hs_ne (by omega) ?_ | assumption)), (by repeat (first | exact hs_eq _ _ _ | refine hs_ne (by omega) ?_ | assumption)), (by repeat (first | exact hs_eq _ _ _ | refine hs_ne (by omega) ?_ | assumption)), (by repeat (first | exact hs_eq _ _ _ | refine hs_ne (by omega) ?_ | assumption)), (by repeat (first | exact hs_eq _ _ _ | refine hs_ne (by omega) ?_ | assumption))⟩, fun aaa haa => by repeat (first | rfl | refine hs_ne (by omega) ?_)⟩
                          | (rw [iu_self]
                             exact Or.inr ⟨rfl, by omega, ⟨(by repeat (first | exact hs_eq _ _ _ | refine hs_ne (by omega) ?_ | assumption)), (by repeat (first | exact hs_eq _ _ _ | refine hs_ne (by omega) ?_ | assumption)), (by repeat (first | exact hs_eq _ _ _ | refine hs_ne (by omega) ?_ | assumption)), (by repeat (first | exact hs_eq _ _ _ | refine hs_ne (by omega) ?_ | assumption)), (by repeat (first | exact hs_eq _ _ _ | refine hs_ne (by omega) ?_ | assumption)), (by repeat (first | exact hs_eq _ _ _ | refine hs_ne (by omega) ?_ | assumption))⟩, fun aaa haa => by repeat (first | rfl | refine hs_ne (by omega) ?_)⟩))))
            · try (exfalso; omega)
              all_goals (
                refine k_sipush C dX8_takesDigit_52 (by decide +kernel) ?_
                refine k_goto (tgt := 61) C dX8_takesDigit_55 (by decide) ?_
                refine k_icmp_gt (tgt := 68) C dX8_takesDigit_61 (by decide) ⟨by omega, by omega⟩ ⟨by omega, by omega⟩ (fun c61 => ?_) (fun c61 => ?_)
                · try (exfalso; omega)
                  all_goals (
                    refine k_iconst C dX8_takesDigit_68 ?_
                    refine k_istore C dX8_takesDigit_69 (by decide) rfl ?_
                    refine k_aload_n C dX8_takesDigit_71 rfl ?_
                    refine k_get C (k := 7) inX8 (ci := 8) rfl (by decide) fl_X8_22 dX8_takesDigit_72 (by repeat (first | exact hs_eq _ _ _ | refine hs_ne (by omega) ?_ | assumption)) rfl ?_
                    refine k_iload_n C dX8_takesDigit_75 rfl ?_
                    refine k_iload C dX8_takesDigit_76 rfl ?_
                    refine k_if_eq (tgt := 85) C dX8_takesDigit_78 (by decide) ⟨by omega, by omega⟩ (fun c78 => ?_) (fun c78 => ?_)
                    · try (exfalso; omega)
                      all_goals (
                        refine k_aload_n C dX8_takesDigit_85 rfl ?_
                        refine k_get C (k := 7) inX8 (ci := 8) rfl (by decide) fl_X8_22 dX8_takesDigit_86 (by repeat (first | exact hs_eq _ _ _ | refine hs_ne (by omega) ?_ | assumption)) rfl ?_
                        refine k_iload_n C dX8_takesDigit_89 rfl ?_
                        refine k_iaload C dX8_takesDigit_90 (by repeat (first | exact hs_eq _ _ _ | refine hs_ne (by omega) ?_ | assumption)) (by omega) (by omega) (by omega) ?_
                        refine k_iastore C dX8_takesDigit_91 (by repeat (first | exact hs_eq _ _ _ | refine hs_ne (by omega) ?_ | assumption)) (by omega) (by omega) (by omega) ?_
                        refine k_iload C dX8_takesDigit_92 rfl ?_
                        refine k_zret C hr dX8_takesDigit_94 (by omega) ?_
                        first
                          | exact Or.inl ⟨rfl, by omega, ⟨(by repeat (first | exact hs_eq _ _ _ | refine hs_ne (by omega) ?_ | assumption)), (by repeat (first | exact hs_eq _ _ _ | refine hs_ne (by omega) ?_ | assumption)), (by repeat (first | exact hs_eq _ _ _ | refine hs_ne (by omega) ?_ | assumption)), (by repeat (first | exact hs_eq _ _ _ | refine hs_ne (by omega) ?_ | assumption)), (by repeat (first | exact hs_eq _ _ _ | refine hs_ne (by omega) ?_ | assumption)), (by repeat (first | exact hs_eq _ _ _ | refine hs_ne (by omega) ?_ | assumption))⟩, fun aaa haa => by repeat (first | rfl | refine hs_ne (by omega) ?_)⟩
                          | (rw [iu_self]
                             exact Or.inr ⟨rfl, by omega, ⟨(by repeat (first | exact hs_eq _ _ _ | refine hs_ne (by omega) ?_ | assumption)), (by repeat (first | exact hs_eq _ _ _ | refine hs_ne (by omega) ?_ | assumption)), (by repeat (first | exact hs_eq _ _ _ | refine hs_ne (by omega) ?_ | assumption)), (by repeat (first | exact hs_eq _ _ _ | refine hs_ne (by omega) ?_ | assumption)), (by repeat (first | exact hs_eq _ _ _ | refine hs_ne (by omega) ?_ | assumption)), (by repeat (first | exact hs_eq _ _ _ | refine hs_ne (by omega) ?_ | assumption))⟩, fun aaa haa => by repeat (first | rfl | refine hs_ne (by omega) ?_)⟩))
                    · try (exfalso; omega)
                      all_goals (
                        refine k_iload_n C dX8_takesDigit_81 rfl ?_
                        refine k_goto (tgt := 91) C dX8_takesDigit_82 (by decide) ?_
                        refine k_iastore C dX8_takesDigit_91 (by repeat (first | exact hs_eq _ _ _ | refine hs_ne (by omega) ?_ | assumption)) (by omega) (by omega) (by omega) ?_
                        refine k_iload C dX8_takesDigit_92 rfl ?_
                        refine k_zret C hr dX8_takesDigit_94 (by omega) ?_
                        first
                          | exact Or.inl ⟨rfl, by omega, ⟨(by repeat (first | exact hs_eq _ _ _ | refine hs_ne (by omega) ?_ | assumption)), (by repeat (first | exact hs_eq _ _ _ | refine hs_ne (by omega) ?_ | assumption)), (by repeat (first | exact hs_eq _ _ _ | refine hs_ne (by omega) ?_ | assumption)), (by repeat (first | exact hs_eq _ _ _ | refine hs_ne (by omega) ?_ | assumption)), (by repeat (first | exact hs_eq _ _ _ | refine hs_ne (by omega) ?_ | assumption)), (by repeat (first | exact hs_eq _ _ _ | refine hs_ne (by omega) ?_ | assumption))⟩, fun aaa haa => by repeat (first | rfl | refine hs_ne (by omega) ?_)⟩
                          | (rw [iu_self]
                             exact Or.inr ⟨rfl, by omega, ⟨(by repeat (first | exact hs_eq _ _ _ | refine hs_ne (by omega) ?_ | assumption)), (by repeat (first | exact hs_eq _ _ _ | refine hs_ne (by omega) ?_ | assumption)), (by repeat (first | exact hs_eq _ _ _ | refine hs_ne (by omega) ?_ | assumption)), (by repeat (first | exact hs_eq _ _ _ | refine hs_ne (by omega) ?_ | assumption)), (by repeat (first | exact hs_eq _ _ _ | refine hs_ne (by omega) ?_ | assumption)), (by repeat (first | exact hs_eq _ _ _ | refine hs_ne (by omega) ?_ | assumption))⟩, fun aaa haa => by repeat (first | rfl | refine hs_ne (by omega) ?_)⟩)))
                · try (exfalso; omega)
                  all_goals (
                    refine k_iconst C dX8_takesDigit_64 ?_
                    refine k_goto (tgt := 69) C dX8_takesDigit_65 (by decide) ?_
                    refine k_istore C dX8_takesDigit_69 (by decide) rfl ?_
                    refine k_aload_n C dX8_takesDigit_71 rfl ?_
                    refine k_get C (k := 7) inX8 (ci := 8) rfl (by decide) fl_X8_22 dX8_takesDigit_72 (by repeat (first | exact hs_eq _ _ _ | refine hs_ne (by omega) ?_ | assumption)) rfl ?_
                    refine k_iload_n C dX8_takesDigit_75 rfl ?_
                    refine k_iload C dX8_takesDigit_76 rfl ?_
                    refine k_if_eq (tgt := 85) C dX8_takesDigit_78 (by decide) ⟨by omega, by omega⟩ (fun c78 => ?_) (fun c78 => ?_)
                    · try (exfalso; omega)
                      all_goals (
                        refine k_aload_n C dX8_takesDigit_85 rfl ?_
                        refine k_get C (k := 7) inX8 (ci := 8) rfl (by decide) fl_X8_22 dX8_takesDigit_86 (by repeat (first | exact hs_eq _ _ _ | refine hs_ne (by omega) ?_ | assumption)) rfl ?_
                        refine k_iload_n C dX8_takesDigit_89 rfl ?_
                        refine k_iaload C dX8_takesDigit_90 (by repeat (first | exact hs_eq _ _ _ | refine hs_ne (by omega) ?_ | assumption)) (by omega) (by omega) (by omega) ?_
                        refine k_iastore C dX8_takesDigit_91 (by repeat (first | exact hs_eq _ _ _ | refine hs_ne (by omega) ?_ | assumption)) (by omega) (by omega) (by omega) ?_
                        refine k_iload C dX8_takesDigit_92 rfl ?_
                        refine k_zret C hr dX8_takesDigit_94 (by omega) ?_
                        first
                          | exact Or.inl ⟨rfl, by omega, ⟨(by repeat (first | exact hs_eq _ _ _ | refine hs_ne (by omega) ?_ | assumption)), (by repeat (first | exact hs_eq _ _ _ | refine hs_ne (by omega) ?_ | assumption)), (by repeat (first | exact hs_eq _ _ _ | refine hs_ne (by omega) ?_ | assumption)), (by repeat (first | exact hs_eq _ _ _ | refine hs_ne (by omega) ?_ | assumption)), (by repeat (first | exact hs_eq _ _ _ | refine hs_ne (by omega) ?_ | assumption)), (by repeat (first | exact hs_eq _ _ _ | refine hs_ne (by omega) ?_ | assumption))⟩, fun aaa haa => by repeat (first | rfl | refine hs_ne (by omega) ?_)⟩
                          | (rw [iu_self]
                             exact Or.inr ⟨rfl, by omega, ⟨(by repeat (first | exact hs_eq _ _ _ | refine hs_ne (by omega) ?_ | assumption)), (by repeat (first | exact hs_eq _ _ _ | refine hs_ne (by omega) ?_ | assumption)), (by repeat (first | exact hs_eq _ _ _ | refine hs_ne (by omega) ?_ | assumption)), (by repeat (first | exact hs_eq _ _ _ | refine hs_ne (by omega) ?_ | assumption)), (by repeat (first | exact hs_eq _ _ _ | refine hs_ne (by omega) ?_ | assumption)), (by repeat (first | exact hs_eq _ _ _ | refine hs_ne (by omega) ?_ | assumption))⟩, fun aaa haa => by repeat (first | rfl | refine hs_ne (by omega) ?_)⟩))
                    · try (exfalso; omega)
                      all_goals (
                        refine k_iload_n C dX8_takesDigit_81 rfl ?_
                        refine k_goto (tgt := 91) C dX8_takesDigit_82 (by decide) ?_
                        refine k_iastore C dX8_takesDigit_91 (by repeat (first | exact hs_eq _ _ _ | refine hs_ne (by omega) ?_ | assumption)) (by omega) (by omega) (by omega) ?_
                        refine k_iload C dX8_takesDigit_92 rfl ?_
                        refine k_zret C hr dX8_takesDigit_94 (by omega) ?_
                        first
                          | exact Or.inl ⟨rfl, by omega, ⟨(by repeat (first | exact hs_eq _ _ _ | refine hs_ne (by omega) ?_ | assumption)), (by repeat (first | exact hs_eq _ _ _ | refine hs_ne (by omega) ?_ | assumption)), (by repeat (first | exact hs_eq _ _ _ | refine hs_ne (by omega) ?_ | assumption)), (by repeat (first | exact hs_eq _ _ _ | refine hs_ne (by omega) ?_ | assumption)), (by repeat (first | exact hs_eq _ _ _ | refine hs_ne (by omega) ?_ | assumption)), (by repeat (first | exact hs_eq _ _ _ | refine hs_ne (by omega) ?_ | assumption))⟩, fun aaa haa => by repeat (first | rfl | refine hs_ne (by omega) ?_)⟩
                          | (rw [iu_self]
                             exact Or.inr ⟨rfl, by omega, ⟨(by repeat (first | exact hs_eq _ _ _ | refine hs_ne (by omega) ?_ | assumption)), (by repeat (first | exact hs_eq _ _ _ | refine hs_ne (by omega) ?_ | assumption)), (by repeat (first | exact hs_eq _ _ _ | refine hs_ne (by omega) ?_ | assumption)), (by repeat (first | exact hs_eq _ _ _ | refine hs_ne (by omega) ?_ | assumption)), (by repeat (first | exact hs_eq _ _ _ | refine hs_ne (by omega) ?_ | assumption)), (by repeat (first | exact hs_eq _ _ _ | refine hs_ne (by omega) ?_ | assumption))⟩, fun aaa haa => by repeat (first | rfl | refine hs_ne (by omega) ?_)⟩))))))
  · skip
    refine k_if_eq (tgt := 68) C dX8_takesDigit_35 (by decide) ⟨by omega, by omega⟩ (fun c35 => ?_) (fun c35 => ?_)
    · try (exfalso; omega)
      all_goals (
        refine k_iconst C dX8_takesDigit_68 ?_
        refine k_istore C dX8_takesDigit_69 (by decide) rfl ?_
        refine k_aload_n C dX8_takesDigit_71 rfl ?_
        refine k_get C (k := 7) inX8 (ci := 8) rfl (by decide) fl_X8_22 dX8_takesDigit_72 (by repeat (first | exact hs_eq _ _ _ | refine hs_ne (by omega) ?_ | assumption)) rfl ?_
        refine k_iload_n C dX8_takesDigit_75 rfl ?_
        refine k_iload C dX8_takesDigit_76 rfl ?_
        refine k_if_eq (tgt := 85) C dX8_takesDigit_78 (by decide) ⟨by omega, by omega⟩ (fun c78 => ?_) (fun c78 => ?_)
        · try (exfalso; omega)
          all_goals (
            refine k_aload_n C dX8_takesDigit_85 rfl ?_
            refine k_get C (k := 7) inX8 (ci := 8) rfl (by decide) fl_X8_22 dX8_takesDigit_86 (by repeat (first | exact hs_eq _ _ _ | refine hs_ne (by omega) ?_ | assumption)) rfl ?_
            refine k_iload_n C dX8_takesDigit_89 rfl ?_
            refine k_iaload C dX8_takesDigit_90 (by repeat (first | exact hs_eq _ _ _ | refine hs_ne (by omega) ?_ | assumption)) (by omega) (by omega) (by omega) ?_
            refine k_iastore C dX8_takesDigit_91 (by repeat (first | exact hs_eq _ _ _ | refine hs_ne (by omega) ?_ | assumption)) (by omega) (by omega) (by omega) ?_
            refine k_iload C dX8_takesDigit_92 rfl ?_
            refine k_zret C hr dX8_takesDigit_94 (by omega) ?_
            first
              | exact Or.inl ⟨rfl, by omega, ⟨(by repeat (first | exact hs_eq _ _ _ | refine hs_ne (by omega) ?_ | assumption)), (by repeat (first | exact hs_eq _ _ _ | refine hs_ne (by omega) ?_ | assumption)), (by repeat (first | exact hs_eq _ _ _ | refine hs_ne (by omega) ?_ | assumption)), (by repeat (first | exact hs_eq _ _ _ | refine hs_ne (by omega) ?_ | assumption)), (by repeat (first | exact hs_eq _ _ _ | refine hs_ne (by omega) ?_ | assumption)), (by repeat (first | exact hs_eq _ _ _ | refine hs_ne (by omega) ?_ | assumption))⟩, fun aaa haa => by repeat (first | rfl | refine hs_ne (by omega) ?_)⟩
              | (rw [iu_self]
                 exact Or.inr ⟨rfl, by omega, ⟨(by repeat (first | exact hs_eq _ _ _ | refine hs_ne (by omega) ?_ | assumption)), (by repeat (first | exact hs_eq _ _ _ | refine hs_ne (by omega) ?_ | assumption)), (by repeat (first | exact hs_eq _ _ _ | refine hs_ne (by omega) ?_ | assumption)), (by repeat (first | exact hs_eq _ _ _ | refine hs_ne (by omega) ?_ | assumption)), (by repeat (first | exact hs_eq _ _ _ | refine hs_ne (by omega) ?_ | assumption)), (by repeat (first | exact hs_eq _ _ _ | refine hs_ne (by omega) ?_ | assumption))⟩, fun aaa haa => by repeat (first | rfl | refine hs_ne (by omega) ?_)⟩))
        · try (exfalso; omega)
          all_goals (
            refine k_iload_n C dX8_takesDigit_81 rfl ?_
            refine k_goto (tgt := 91) C dX8_takesDigit_82 (by decide) ?_
            refine k_iastore C dX8_takesDigit_91 (by repeat (first | exact hs_eq _ _ _ | refine hs_ne (by omega) ?_ | assumption)) (by omega) (by omega) (by omega) ?_
            refine k_iload C dX8_takesDigit_92 rfl ?_
            refine k_zret C hr dX8_takesDigit_94 (by omega) ?_
            first
              | exact Or.inl ⟨rfl, by omega, ⟨(by repeat (first | exact hs_eq _ _ _ | refine hs_ne (by omega) ?_ | assumption)), (by repeat (first | exact hs_eq _ _ _ | refine hs_ne (by omega) ?_ | assumption)), (by repeat (first | exact hs_eq _ _ _ | refine hs_ne (by omega) ?_ | assumption)), (by repeat (first | exact hs_eq _ _ _ | refine hs_ne (by omega) ?_ | assumption)), (by repeat (first | exact hs_eq _ _ _ | refine hs_ne (by omega) ?_ | assumption)), (by repeat (first | exact hs_eq _ _ _ | refine hs_ne (by omega) ?_ | assumption))⟩, fun aaa haa => by repeat (first | rfl | refine hs_ne (by omega) ?_)⟩
              | (rw [iu_self]
                 exact Or.inr ⟨rfl, by omega, ⟨(by repeat (first | exact hs_eq _ _ _ | refine hs_ne (by omega) ?_ | assumption)), (by repeat (first | exact hs_eq _ _ _ | refine hs_ne (by omega) ?_ | assumption)), (by repeat (first | exact hs_eq _ _ _ | refine hs_ne (by omega) ?_ | assumption)), (by repeat (first | exact hs_eq _ _ _ | refine hs_ne (by omega) ?_ | assumption)), (by repeat (first | exact hs_eq _ _ _ | refine hs_ne (by omega) ?_ | assumption)), (by repeat (first | exact hs_eq _ _ _ | refine hs_ne (by omega) ?_ | assumption))⟩, fun aaa haa => by repeat (first | rfl | refine hs_ne (by omega) ?_)⟩)))
    · try (exfalso; omega)
      all_goals (
        refine k_iload_n C dX8_takesDigit_38 rfl ?_
        refine k_iconst C dX8_takesDigit_39 ?_
        refine k_icmp_lt (tgt := 68) C dX8_takesDigit_40 (by decide) ⟨by omega, by omega⟩ ⟨by omega, by omega⟩ (fun c40 => ?_) (fun c40 => ?_)
        · try (exfalso; omega)
          all_goals (
            refine k_iconst C dX8_takesDigit_68 ?_
            refine k_istore C dX8_takesDigit_69 (by decide) rfl ?_
            refine k_aload_n C dX8_takesDigit_71 rfl ?_
            refine k_get C (k := 7) inX8 (ci := 8) rfl (by decide) fl_X8_22 dX8_takesDigit_72 (by repeat (first | exact hs_eq _ _ _ | refine hs_ne (by omega) ?_ | assumption)) rfl ?_
            refine k_iload_n C dX8_takesDigit_75 rfl ?_
            refine k_iload C dX8_takesDigit_76 rfl ?_
            refine k_if_eq (tgt := 85) C dX8_takesDigit_78 (by decide) ⟨by omega, by omega⟩ (fun c78 => ?_) (fun c78 => ?_)
            · try (exfalso; omega)
              all_goals (
                refine k_aload_n C dX8_takesDigit_85 rfl ?_
                refine k_get C (k := 7) inX8 (ci := 8) rfl (by decide) fl_X8_22 dX8_takesDigit_86 (by repeat (first | exact hs_eq _ _ _ | refine hs_ne (by omega) ?_ | assumption)) rfl ?_
                refine k_iload_n C dX8_takesDigit_89 rfl ?_
                refine k_iaload C dX8_takesDigit_90 (by repeat (first | exact hs_eq _ _ _ | refine hs_ne (by omega) ?_ | assumption)) (by omega) (by omega) (by omega) ?_
                refine k_iastore C dX8_takesDigit_91 (by repeat (first | exact hs_eq _ _ _ | refine hs_ne (by omega) ?_ | assumption)) (by omega) (by omega) (by omega) ?_
                refine k_iload C dX8_takesDigit_92 rfl ?_
                refine k_zret C hr dX8_takesDigit_94 (by omega) ?_
                first
                  | exact Or.inl ⟨rfl, by omega, ⟨(by repeat (first | exact hs_eq _ _ _ | refine hs_ne (by omega) ?_ | assumption)), (by repeat (first | exact hs_eq _ _ _ | refine hs_ne (by omega) ?_ | assumption)), (by repeat (first | exact hs_eq _ _ _ | refine hs_ne (by omega) ?_ | assumption)), (by repeat (first | exact hs_eq _ _ _ | refine hs_ne (by omega) ?_ | assumption)), (by repeat (first | exact hs_eq _ _ _ | refine hs_ne (by omega) ?_ | assumption)), (by repeat (first | exact hs_eq _ _ _ | refine hs_ne (by omega) ?_ | assumption))⟩, fun aaa haa => by repeat (first | rfl | refine hs_ne (by omega) ?_)⟩
                  | (rw [iu_self]
                     exact Or.inr ⟨rfl, by omega, ⟨(by repeat (first | exact hs_eq _ _ _ | refine hs_ne (by omega) ?_ | assumption)), (by repeat (first | exact hs_eq _ _ _ | refine hs_ne (by omega) ?_ | assumption)), (by repeat (first | exact hs_eq _ _ _ | refine hs_ne (by omega) ?_ | assumption)), (by repeat (first | exact hs_eq _ _ _ | refine hs_ne (by omega) ?_ | assumption)), (by repeat (first | exact hs_eq _ _ _ | refine hs_ne (by omega) ?_ | assumption)), (by repeat (first | exact hs_eq _ _ _ | refine hs_ne (by omega) ?_ | assumption))⟩, fun aaa haa => by repeat (first | rfl | refine hs_ne (by omega) ?_)⟩))
            · try (exfalso; omega)
              all_goals (
                refine k_iload_n C dX8_takesDigit_81 rfl ?_
                refine k_goto (tgt := 91) C dX8_takesDigit_82 (by decide) ?_
                refine k_iastore C dX8_takesDigit_91 (by repeat (first | exact hs_eq _ _ _ | refine hs_ne (by omega) ?_ | assumption)) (by omega) (by omega) (by omega) ?_
                refine k_iload C dX8_takesDigit_92 rfl ?_
                refine k_zret C hr dX8_takesDigit_94 (by omega) ?_
                first
                  | exact Or.inl ⟨rfl, by omega, ⟨(by repeat (first | exact hs_eq _ _ _ | refine hs_ne (by omega) ?_ | assumption)), (by repeat (first | exact hs_eq _ _ _ | refine hs_ne (by omega) ?_ | assumption)), (by repeat (first | exact hs_eq _ _ _ | refine hs_ne (by omega) ?_ | assumption)), (by repeat (first | exact hs_eq _ _ _ | refine hs_ne (by omega) ?_ | assumption)), (by repeat (first | exact hs_eq _ _ _ | refine hs_ne (by omega) ?_ | assumption)), (by repeat (first | exact hs_eq _ _ _ | refine hs_ne (by omega) ?_ | assumption))⟩, fun aaa haa => by repeat (first | rfl | refine hs_ne (by omega) ?_)⟩
                  | (rw [iu_self]
                     exact Or.inr ⟨rfl, by omega, ⟨(by repeat (first | exact hs_eq _ _ _ | refine hs_ne (by omega) ?_ | assumption)), (by repeat (first | exact hs_eq _ _ _ | refine hs_ne (by omega) ?_ | assumption)), (by repeat (first | exact hs_eq _ _ _ | refine hs_ne (by omega) ?_ | assumption)), (by repeat (first | exact hs_eq _ _ _ | refine hs_ne (by omega) ?_ | assumption)), (by repeat (first | exact hs_eq _ _ _ | refine hs_ne (by omega) ?_ | assumption)), (by repeat (first | exact hs_eq _ _ _ | refine hs_ne (by omega) ?_ | assumption))⟩, fun aaa haa => by repeat (first | rfl | refine hs_ne (by omega) ?_)⟩)))
        · try (exfalso; omega)
          all_goals (
            refine k_iload_n C dX8_takesDigit_43 rfl ?_
            refine k_aload_n C dX8_takesDigit_44 rfl ?_
            refine k_get C (k := 9) inX8 (ci := 8) rfl (by decide) fl_X8_132 dX8_takesDigit_45 (by repeat (first | exact hs_eq _ _ _ | refine hs_ne (by omega) ?_ | assumption)) rfl ?_
            refine k_iconst C dX8_takesDigit_48 ?_
            refine k_icmp_ne (tgt := 58) C dX8_takesDigit_49 (by decide) ⟨by omega, by omega⟩ ⟨by omega, by omega⟩ (fun c49 => ?_) (fun c49 => ?_)
            · try (exfalso; omega)
              all_goals (
                refine k_sipush C dX8_takesDigit_58 (by decide +kernel) ?_
                refine k_icmp_gt (tgt := 68) C dX8_takesDigit_61 (by decide) ⟨by omega, by omega⟩ ⟨by omega, by omega⟩ (fun c61 => ?_) (fun c61 => ?_)
                · try (exfalso; omega)
                  all_goals (
                    refine k_iconst C dX8_takesDigit_68 ?_
                    refine k_istore C dX8_takesDigit_69 (by decide) rfl ?_
                    refine k_aload_n C dX8_takesDigit_71 rfl ?_
                    refine k_get C (k := 7) inX8 (ci := 8) rfl (by decide) fl_X8_22 dX8_takesDigit_72 (by repeat (first | exact hs_eq _ _ _ | refine hs_ne (by omega) ?_ | assumption)) rfl ?_
                    refine k_iload_n C dX8_takesDigit_75 rfl ?_
                    refine k_iload C dX8_takesDigit_76 rfl ?_
                    refine k_if_eq (tgt := 85) C dX8_takesDigit_78 (by decide) ⟨by omega, by omega⟩ (fun c78 => ?_) (fun c78 => ?_)
                    · try (exfalso; omega)
                      all_goals (
                        refine k_aload_n C dX8_takesDigit_85 rfl ?_
                        refine k_get C (k := 7) inX8 (ci := 8) rfl (by decide) fl_X8_22 dX8_takesDigit_86 (by repeat (first | exact hs_eq _ _ _ | refine hs_ne (by omega) ?_ | assumption)) rfl ?_
                        refine k_iload_n C dX8_takesDigit_89 rfl ?_
                        refine k_iaload C dX8_takesDigit_90 (by repeat (first | exact hs_eq _ _ _ | refine hs_ne (by omega) ?_ | assumption)) (by omega) (by omega) (by omega) ?_
                        refine k_iastore C dX8_takesDigit_91 (by repeat (first | exact hs_eq _ _ _ | refine hs_ne (by omega) ?_ | assumption)) (by omega) (by omega) (by omega) ?_
                        refine k_iload C dX8_takesDigit_92 rfl ?_
                        refine k_zret C hr dX8_takesDigit_94 (by omega) ?_
                        first
                          | exact Or.inl ⟨rfl, by omega, ⟨(by repeat (first | exact hs_eq _ _ _ | refine hs_ne (by omega) ?_ | assumption)), (by repeat (first | exact hs_eq _ _ _ | refine hs_ne (by omega) ?_ | assumption)), (by repeat (first | exact hs_eq _ _ _ | refine hs_ne (by omega) ?_ | assumption)), (by repeat (first | exact hs_eq _ _ _ | refine hs_ne (by omega) ?_ | assumption)), (by repeat (first | exact hs_eq _ _ _ | refine hs_ne (by omega) ?_ | assumption)), (by repeat (first | exact hs_eq _ _ _ | refine hs_ne (by omega) ?_ | assumption))⟩, fun aaa haa => by repeat (first | rfl | refine hs_ne (by omega) ?_)⟩
                          | (rw [iu_self]
                             exact Or.inr ⟨rfl, by omega, ⟨(by repeat (first | exact hs_eq _ _ _ | refine hs_ne (by omega) ?_ | assumption)), (by repeat (first | exact hs_eq _ _ _ | refine hs_ne (by omega) ?_ | assumption)), (by repeat (first | exact hs_eq _ _ _ | refine hs_ne (by omega) ?_ | assumption)), (by repeat (first | exact hs_eq _ _ _ | refine hs_ne (by omega) ?_ | assumption)), (by repeat (first | exact hs_eq _ _ _ | refine hs_ne (by omega) ?_ | assumption)), (by repeat (first | exact hs_eq _ _ _ | refine hs_ne (by omega) ?_ | assumption))⟩, fun aaa haa => by repeat (first | rfl | refine hs_ne (by omega) ?_)⟩))
                    · try (exfalso; omega)
                      all_goals (
                        refine k_iload_n C dX8_takesDigit_81 rfl ?_
                        refine k_goto (tgt := 91) C dX8_takesDigit_82 (by decide) ?_
                        refine k_iastore C dX8_takesDigit_91 (by repeat (first | exact hs_eq _ _ _ | refine hs_ne (by omega) ?_ | assumption)) (by omega) (by omega) (by omega) ?_
                        refine k_iload C dX8_takesDigit_92 rfl ?_
                        refine k_zret C hr dX8_takesDigit_94 (by omega) ?_
                        first
                          | exact Or.inl ⟨rfl, by omega, ⟨(by repeat (first | exact hs_eq _ _ _ | refine hs_ne (by omega) ?_ | assumption)), (by repeat (first | exact hs_eq _ _ _ | refine hs_ne (by omega) ?_ | assumption)), (by repeat (first | exact hs_eq _ _ _ | refine hs_ne (by omega) ?_ | assumption)), (by repeat (first | exact hs_eq _ _ _ | refine hs_ne (by omega) ?_ | assumption)), (by repeat (first | exact hs_eq _ _ _ | refine hs_ne (by omega) ?_ | assumption)), (by repeat (first | exact hs_eq _ _ _ | refine hs_ne (by omega) ?_ | assumption))⟩, fun aaa haa => by repeat (first | rfl | refine hs_ne (by omega) ?_)⟩
                          | (rw [iu_self]
                             exact Or.inr ⟨rfl, by omega, ⟨(by repeat (first | exact hs_eq _ _ _ | refine hs_ne (by omega) ?_ | assumption)), (by repeat (first | exact hs_eq _ _ _ | refine hs_ne (by omega) ?_ | assumption)), (by repeat (first | exact hs_eq _ _ _ | refine hs_ne (by omega) ?_ | assumption)), (by repeat (first | exact hs_eq _ _ _ | refine hs_ne (by omega) ?_ | assumption)), (by repeat (first | exact hs_eq _ _ _ | refine hs_ne (by omega) ?_ | assumption)), (by repeat (first | exact hs_eq _ _ _ | refine hs_ne (by omega) ?_ | assumption))⟩, fun aaa haa => by repeat (first | rfl | refine hs_ne (by omega) ?_)⟩)))
                · try (exfalso; omega)
                  all_goals (
                    refine k_iconst C dX8_takesDigit_64 ?_
                    refine k_goto (tgt := 69) C dX8_takesDigit_65 (by decide) ?_
                    refine k_istore C dX8_takesDigit_69 (by decide) rfl ?_
                    refine k_aload_n C dX8_takesDigit_71 rfl ?_
                    refine k_get C (k := 7) inX8 (ci := 8) rfl (by decide) fl_X8_22 dX8_takesDigit_72 (by repeat (first | exact hs_eq _ _ _ | refine hs_ne (by omega) ?_ | assumption)) rfl ?_
                    refine k_iload_n C dX8_takesDigit_75 rfl ?_
                    refine k_iload C dX8_takesDigit_76 rfl ?_
                    refine k_if_eq (tgt := 85) C dX8_takesDigit_78 (by decide) ⟨by omega, by omega⟩ (fun c78 => ?_) (fun c78 => ?_)
                    · try (exfalso; omega)
                      all_goals (
                        refine k_aload_n C dX8_takesDigit_85 rfl ?_
                        refine k_get C (k := 7) inX8 (ci := 8) rfl (by decide) fl_X8_22 dX8_takesDigit_86 (by repeat (first | exact hs_eq _ _ _ | refine hs_ne (by omega) ?_ | assumption)) rfl ?_
                        refine k_iload_n C dX8_takesDigit_89 rfl ?_
                        refine k_iaload C dX8_takesDigit_90 (by repeat (first | exact hs_eq _ _ _ | refine hs_ne (by omega) ?_ | assumption)) (by omega) (by omega) (by omega) ?_
                        refine k_iastore C dX8_takesDigit_91 (by repeat (first | exact hs_eq _ _ _ | refine hs_ne (by omega) ?_ | assumption)) (by omega) (by omega) (by omega) ?_
                        refine k_iload C dX8_takesDigit_92 rfl ?_
                        refine k_zret C hr dX8_takesDigit_94 (by omega) ?_
                        first
                          | exact Or.inl ⟨rfl, by omega, ⟨(by repeat (first | exact hs_eq _ _ _ | refine hs_ne (by omega) ?_ | assumption)), (by repeat (first | exact hs_eq _ _ _ | refine hs_ne (by omega) ?_ | assumption)), (by repeat (first | exact hs_eq _ _ _ | refine hs_ne (by omega) ?_ | assumption)), (by repeat (first | exact hs_eq _ _ _ | refine hs_ne (by omega) ?_ | assumption)), (by repeat (first | exact hs_eq _ _ _ | refine hs_ne (by omega) ?_ | assumption)), (by repeat (first | exact hs_eq _ _ _ | refine hs_ne (by omega) ?_ | assumption))⟩, fun aaa haa => by repeat (first | rfl | refine hs_ne (by omega) ?_)⟩
                          | (rw [iu_self]
                             exact Or.inr ⟨rfl, by omega, ⟨(by repeat (first | exact hs_eq _ _ _ | refine hs_ne (by omega) ?_ | assumption)), (by repeat (first | exact hs_eq _ _ _ | refine hs_ne (by omega) ?_ | assumption)), (by repeat (first | exact hs_eq _ _ _ | refine hs_ne (by omega) ?_ | assumption)), (by repeat (first | exact hs_eq _ _ _ | refine hs_ne (by omega) ?_ | assumption)), (by repeat (first | exact hs_eq _ _ _ | refine hs_ne (by omega) ?_ | assumption)), (by repeat (first | exact hs_eq _ _ _ | refine hs_ne (by omega) ?_ | assumption))⟩, fun aaa haa => by repeat (first | rfl | refine hs_ne (by omega) ?_)⟩))
                    · try (exfalso; omega)
                      all_goals (
                        refine k_iload_n C dX8_takesDigit_81 rfl ?_
                        refine k_goto (tgt := 91) C dX8_takesDigit_82 (by decide) ?_
                        refine k_iastore C dX8_takesDigit_91 (by repeat (first | exact hs_eq _ _ _ | refine hs_ne (by omega) ?_ | assumption)) (by omega) (by omega) (by omega) ?_
                        refine k_iload C dX8_takesDigit_92 rfl ?_
                        refine k_zret C hr dX8_takesDigit_94 (by omega) ?_
                        first
                          | exact Or.inl ⟨rfl, by omega, ⟨(by repeat (first | exact hs_eq _ _ _ | refine hs_ne (by omega) ?_ | assumption)), (by repeat (first | exact hs_eq _ _ _ | refine hs_ne (by omega) ?_ | assumption)), (by repeat (first | exact hs_eq _ _ _ | refine hs_ne (by omega) ?_ | assumption)), (by repeat (first | exact hs_eq _ _ _ | refine hs_ne (by omega) ?_ | assumption)), (by repeat (first | exact hs_eq _ _ _ | refine hs_ne (by omega) ?_ | assumption)), (by repeat (first | exact hs_eq _ _ _ | refine hs_ne (by omega) ?_ | assumption))⟩, fun aaa haa => by repeat (first | rfl | refine hs_ne (by omega) ?_)⟩
                          | (rw [iu_self]
                             exact Or.inr ⟨rfl, by omega, ⟨(by repeat (first | exact hs_eq _ _ _ | refine hs_ne (by omega) ?_ | assumption)), (by repeat (first | exact hs_eq _ _ _ | refine hs_ne (by omega) ?_ | assumption)), (by repeat (first | exact hs_eq _ _ _ | refine hs_ne (by omega) ?_ | assumption)), (by repeat (first | exact hs_eq _ _ _ | refine hs_ne (by omega) ?_ | assumption)), (by repeat (first | exact hs_eq _ _ _ | refine hs_ne (by omega) ?_ | assumption)), (by repeat (first | exact hs_eq _ _ _ | refine hs_ne (by omega) ?_ | assumption))⟩, fun aaa haa => by repeat (first | rfl | refine hs_ne (by omega) ?_)⟩))))
            · try (exfalso; omega)
              all_goals (
                refine k_sipush C dX8_takesDigit_52 (by decide +kernel) ?_
                refine k_goto (tgt := 61) C dX8_takesDigit_55 (by decide) ?_
                refine k_icmp_gt (tgt := 68) C dX8_takesDigit_61 (by decide) ⟨by omega, by omega⟩ ⟨by omega, by omega⟩ (fun c61 => ?_) (fun c61 => ?_)
                · try (exfalso; omega)
                  all_goals (
                    refine k_iconst C dX8_takesDigit_68 ?_
                    refine k_istore C dX8_takesDigit_69 (by decide) rfl ?_
                    refine k_aload_n C dX8_takesDigit_71 rfl ?_
                    refine k_get C (k := 7) inX8 (ci := 8) rfl (by decide) fl_X8_22 dX8_takesDigit_72 (by repeat (first | exact hs_eq _ _ _ | refine hs_ne (by omega) ?_ | assumption)) rfl ?_
                    refine k_iload_n C dX8_takesDigit_75 rfl ?_
                    refine k_iload C dX8_takesDigit_76 rfl ?_
                    refine k_if_eq (tgt := 85) C dX8_takesDigit_78 (by decide) ⟨by omega, by omega⟩ (fun c78 => ?_) (fun c78 => ?_)
                    · try (exfalso; omega)
                      all_goals (
                        refine k_aload_n C dX8_takesDigit_85 rfl ?_
                        refine k_get C (k := 7) inX8 (ci := 8) rfl (by decide) fl_X8_22 dX8_takesDigit_86 (by repeat (first | exact hs_eq _ _ _ | refine hs_ne (by omega) ?_ | assumption)) rfl ?_
                        refine k_iload_n C dX8_takesDigit_89 rfl ?_
                        refine k_iaload C dX8_takesDigit_90 (by repeat (first | exact hs_eq _ _ _ | refine hs_ne (by omega) ?_ | assumption)) (by omega) (by omega) (by omega) ?_
                        refine k_iastore C dX8_takesDigit_91 (by repeat (first | exact hs_eq _ _ _ | refine hs_ne (by omega) ?_ | assumption)) (by omega) (by omega) (by omega) ?_
                        refine k_iload C dX8_takesDigit_92 rfl ?_
                        refine k_zret C hr dX8_takesDigit_94 (by omega) ?_
                        first
                          | exact Or.inl ⟨rfl, by omega, ⟨(by repeat (first | exact hs_eq _ _ _ | refine hs_ne (by omega) ?_ | assumption)), (by repeat (first | exact hs_eq _ _ _ | refine hs_ne (by omega) ?_ | assumption)), (by repeat (first | exact hs_eq _ _ _ | refine hs_ne (by omega) ?_ | assumption)), (by repeat (first | exact hs_eq _ _ _ | refine hs_ne (by omega) ?_ | assumption)), (by repeat (first | exact hs_eq _ _ _ | refine hs_ne (by omega) ?_ | assumption)), (by repeat (first | exact hs_eq _ _ _ | refine hs_ne (by omega) ?_ | assumption))⟩, fun aaa haa => by repeat (first | rfl | refine hs_ne (by omega) ?_)⟩
                          | (rw [iu_self]
                             exact Or.inr ⟨rfl, by omega, ⟨(by repeat (first | exact hs_eq _ _ _ | refine hs_ne (by omega) ?_ | assumption)), (by repeat (first | exact hs_eq _ _ _ | refine hs_ne (by omega) ?_ | assumption)), (by repeat (first | exact hs_eq _ _ _ | refine hs_ne (by omega) ?_ | assumption)), (by repeat (first | exact hs_eq _ _ _ | refine hs_ne (by omega) ?_ | assumption)), (by repeat (first | exact hs_eq _ _ _ | refine hs_ne (by omega) ?_ | assumption)), (by repeat (first | exact hs_eq _ _ _ | refine hs_ne (by omega) ?_ | assumption))⟩, fun aaa haa => by repeat (first | rfl | refine hs_ne (by omega) ?_)⟩))
                    · try (exfalso; omega)
                      all_goals (
                        refine k_iload_n C dX8_takesDigit_81 rfl ?_
                        refine k_goto (tgt := 91) C dX8_takesDigit_82 (by decide) ?_
                        refine k_iastore C dX8_takesDigit_91 (by repeat (first | exact hs_eq _ _ _ | refine hs_ne (by omega) ?_ | assumption)) (by omega) (by omega) (by omega) ?_
                        refine k_iload C dX8_takesDigit_92 rfl ?_
                        refine k_zret C hr dX8_takesDigit_94 (by omega) ?_
                        first
                          | exact Or.inl ⟨rfl, by omega, ⟨(by repeat (first | exact hs_eq _ _ _ | refine hs_ne (by omega) ?_ | assumption)), (by repeat (first | exact hs_eq _ _ _ | refine hs_ne (by omega) ?_ | assumption)), (by repeat (first | exact hs_eq _ _ _ | refine hs_ne (by omega) ?_ | assumption)), (by repeat (first | exact hs_eq _ _ _ | refine hs_ne (by omega) ?_ | assumption)), (by repeat (first | exact hs_eq _ _ _ | refine hs_ne (by omega) ?_ | assumption)), (by repeat (first | exact hs_eq _ _ _ | refine hs_ne (by omega) ?_ | assumption))⟩, fun aaa haa => by repeat (first | rfl | refine hs_ne (by omega) ?_)⟩
                          | (rw [iu_self]
                             exact Or.inr ⟨rfl, by omega, ⟨(by repeat (first | exact hs_eq _ _ _ | refine hs_ne (by omega) ?_ | assumption)), (by repeat (first | exact hs_eq _ _ _ | refine hs_ne (by omega) ?_ | assumption)), (by repeat (first | exact hs_eq _ _ _ | refine hs_ne (by omega) ?_ | assumption)), (by repeat (first | exact hs_eq _ _ _ | refine hs_ne (by omega) ?_ | assumption)), (by repeat (first | exact hs_eq _ _ _ | refine hs_ne (by omega) ?_ | assumption)), (by repeat (first | exact hs_eq _ _ _ | refine hs_ne (by omega) ?_ | assumption))⟩, fun aaa haa => by repeat (first | rfl | refine hs_ne (by omega) ?_)⟩)))
                · try (exfalso; omega)
                  all_goals (
                    refine k_iconst C dX8_takesDigit_64 ?_
                    refine k_goto (tgt := 69) C dX8_takesDigit_65 (by decide) ?_
                    refine k_istore C dX8_takesDigit_69 (by decide) rfl ?_
                    refine k_aload_n C dX8_takesDigit_71 rfl ?_
                    refine k_get C (k := 7) inX8 (ci := 8) rfl (by decide) fl_X8_22 dX8_takesDigit_72 (by repeat (first | exact hs_eq _ _ _ | refine hs_ne (by omega) ?_ | assumption)) rfl ?_
                    refine k_iload_n C dX8_takesDigit_75 rfl ?_
                    refine k_iload C dX8_takesDigit_76 rfl ?_
                    refine k_if_eq (tgt := 85) C dX8_takesDigit_78 (by decide) ⟨by omega, by omega⟩ (fun c78 => ?_) (fun c78 => ?_)
                    · try (exfalso; omega)
                      all_goals (
                        refine k_aload_n C dX8_takesDigit_85 rfl ?_
                        refine k_get C (k := 7) inX8 (ci := 8) rfl (by decide) fl_X8_22 dX8_takesDigit_86 (by repeat (first | exact hs_eq _ _ _ | refine hs_ne (by omega) ?_ | assumption)) rfl ?_
                        refine k_iload_n C dX8_takesDigit_89 rfl ?_
                        refine k_iaload C dX8_takesDigit_90 (by repeat (first | exact hs_eq _ _ _ | refine hs_ne (by omega) ?_ | assumption)) (by omega) (by omega) (by omega) ?_
                        refine k_iastore C dX8_takesDigit_91 (by repeat (first | exact hs_eq _ _ _ | refine hs_ne (by omega) ?_ | assumption)) (by omega) (by omega) (by omega) ?_
                        refine k_iload C dX8_takesDigit_92 rfl ?_
                        refine k_zret C hr dX8_takesDigit_94 (by omega) ?_
                        first
                          | exact Or.inl ⟨rfl, by omega, ⟨(by repeat (first | exact hs_eq _ _ _ | refine hs_ne (by omega) ?_ | assumption)), (by repeat (first | exact hs_eq _ _ _ | refine hs_ne (by omega) ?_ | assumption)), (by repeat (first | exact hs_eq _ _ _ | refine hs_ne (by omega) ?_ | assumption)), (by repeat (first | exact hs_eq _ _ _ | refine hs_ne (by omega) ?_ | assumption)), (by repeat (first | exact hs_eq _ _ _ | refine hs_ne (by omega) ?_ | assumption)), (by repeat (first | exact hs_eq _ _ _ | refine hs_ne (by omega) ?_ | assumption))⟩, fun aaa haa => by repeat (first | rfl | refine hs_ne (by omega) ?_)⟩
                          | (rw [iu_self]
                             exact Or.inr ⟨rfl, by omega, ⟨(by repeat (first | exact hs_eq _ _ _ | refine hs_ne (by omega) ?_ | assumption)), (by repeat (first | exact hs_eq _ _ _ | refine hs_ne (by omega) ?_ | assumption)), (by repeat (first | exact hs_eq _ _ _ | refine hs_ne (by omega) ?_ | assumption)), (by repeat (first | exact hs_eq _ _ _ | refine hs_ne (by omega) ?_ | assumption)), (by repeat (first | exact hs_eq _ _ _ | refine hs_ne (by omega) ?_ | assumption)), (by repeat (first | exact hs_eq _ _ _ | refine hs_ne (by omega) ?_ | assumption))⟩, fun aaa haa => by repeat (first | rfl | refine hs_ne (by omega) ?_)⟩))
                    · try (exfalso; omega)
                      all_goals (
                        refine k_iload_n C dX8_takesDigit_81 rfl ?_
                        refine k_goto (tgt := 91) C dX8_takesDigit_82 (by decide) ?_
                        refine k_iastore C dX8_takesDigit_91 (by repeat (first | exact hs_eq _ _ _ | refine hs_ne (by omega) ?_ | assumption)) (by omega) (by omega) (by omega) ?_
                        refine k_iload C dX8_takesDigit_92 rfl ?_
                        refine k_zret C hr dX8_takesDigit_94 (by omega) ?_
                        first
                          | exact Or.inl ⟨rfl, by omega, ⟨(by repeat (first | exact hs_eq _ _ _ | refine hs_ne (by omega) ?_ | assumption)), (by repeat (first | exact hs_eq _ _ _ | refine hs_ne (by omega) ?_ | assumption)), (by repeat (first | exact hs_eq _ _ _ | refine hs_ne (by omega) ?_ | assumption)), (by repeat (first | exact hs_eq _ _ _ | refine hs_ne (by omega) ?_ | assumption)), (by repeat (first | exact hs_eq _ _ _ | refine hs_ne (by omega) ?_ | assumption)), (by repeat (first | exact hs_eq _ _ _ | refine hs_ne (by omega) ?_ | assumption))⟩, fun aaa haa => by repeat (first | rfl | refine hs_ne (by omega) ?_)⟩
                          | (rw [iu_self]
                             exact Or.inr ⟨rfl, by omega, ⟨(by repeat (first | exact hs_eq _ _ _ | refine hs_ne (by omega) ?_ | assumption)), (by repeat (first | exact hs_eq _ _ _ | refine hs_ne (by omega) ?_ | assumption)), (by repeat (first | exact hs_eq _ _ _ | refine hs_ne (by omega) ?_ | assumption)), (by repeat (first | exact hs_eq _ _ _ | refine hs_ne (by omega) ?_ | assumption)), (by repeat (first | exact hs_eq _ _ _ | refine hs_ne (by omega) ?_ | assumption)), (by repeat (first | exact hs_eq _ _ _ | refine hs_ne (by omega) ?_ | assumption))⟩, fun aaa haa => by repeat (first | rfl | refine hs_ne (by omega) ?_)⟩))))))

set_option maxRecDepth 20000 in
set_option maxHeartbeats 1000000 in
theorem ct_X8_takes_ (l : Launch) (D : va_G) (tc : Nat → ClassId) (base : Nat) (oo : Nat) (zrr hhi htx has hro : Int → Int) (st ln th re du hsh : Int) (hpp : AH) (hM : MA hpp oo zrr hhi htx has hro st ln th re du hsh) (ww : Int) (hw : 33 ≤ ww ∧ ww ≤ 126) (kk : Nat) (hkk : kk ≤ 60) (hpi : pInv re du hro kk) : CT l D tc base yX8_takes_ cX8_takes_ 3 (some .boolean) 2 [aR oo, aI ww] hpp (fun r h' => (r = some (aI 1) ∧ pOk ww re du hro ∧ MA h' oo (zrr) (hhi) (htx) (has) ((pStep ww re du hro).2.2) (st) (ln) (th) ((pStep ww re du hro).1) ((pStep ww re du hro).2.1) (hsh) ∧ Fr hpp h' oo 6) ∨ (r = some (aI 0) ∧ ¬ pOk ww re du hro ∧ (∃ (rex dux : Int) (hrx : Int → Int), MA h' oo zrr hhi htx has hrx st ln th rex dux hsh) ∧ Fr hpp h' oo 6)) := by
  refine CT.of [some (aR oo), some (aI ww), none] (by decide +kernel) rfl (Nat.le_of_ble_eq_true rfl) ?_
  intro p e s m args below meth c C hr hnm
  obtain ⟨g0, g1, g2, g3, g4, g5⟩ := id hM
  obtain ⟨p1, p2, p3, -⟩ := id hpi
  have hdd : du = 0 ∨ du = 1 ∨ du = 2 := by omega
  have hrk : ¬ du = 0 → 0 ≤ hro (3 * re + du) ∧ hro (3 * re + du) ≤ 720 := fun hn => by
    have := p2 hn
    rcases hdd with h | h | h
    · exact absurd h hn
    · rw [h]; omega
    · rw [h]; omega
  have e31 : du = 1 → hro (3 * re + du) = hro (3 * re + 1) := fun h => by rw [h]
  have e32 : du = 2 → hro (3 * re + du) = hro (3 * re + 2) := fun h => by rw [h]
  refine k_aload_n C dX8_takes__0 rfl ?_
  refine k_get C (k := 9) inX8 (ci := 8) rfl (by decide) fl_X8_132 dX8_takes__1 (by repeat (first | exact hs_eq _ _ _ | refine hs_ne (by omega) ?_ | assumption)) rfl ?_
  refine k_if_ne (tgt := 13) C dX8_takes__4 (by decide) ⟨by omega, by omega⟩ (fun c4 => ?_) (fun c4 => ?_)
  · try (exfalso; omega)
    all_goals (
      refine k_aload_n C dX8_takes__13 rfl ?_
      refine k_get C (k := 7) inX8 (ci := 8) rfl (by decide) fl_X8_22 dX8_takes__14 (by repeat (first | exact hs_eq _ _ _ | refine hs_ne (by omega) ?_ | assumption)) rfl ?_
      refine k_iconst C dX8_takes__17 ?_
      refine k_aload_n C dX8_takes__18 rfl ?_
      refine k_get C (k := 8) inX8 (ci := 8) rfl (by decide) fl_X8_129 dX8_takes__19 (by repeat (first | exact hs_eq _ _ _ | refine hs_ne (by omega) ?_ | assumption)) rfl ?_
      refine k_imul C dX8_takes__22 ?_
      refine k_aload_n C dX8_takes__23 rfl ?_
      refine k_get C (k := 9) inX8 (ci := 8) rfl (by decide) fl_X8_132 dX8_takes__24 (by repeat (first | exact hs_eq _ _ _ | refine hs_ne (by omega) ?_ | assumption)) rfl ?_
      refine k_iadd C dX8_takes__27 ?_
      refine k_iaload C dX8_takes__28 (by repeat (first | exact hs_eq _ _ _ | refine hs_ne (by omega) ?_ | assumption)) (by omega) (by omega) (by omega) ?_
      refine k_if_le (tgt := 36) C dX8_takes__29 (by decide) ⟨by omega, by omega⟩ (fun c29 => ?_) (fun c29 => ?_)
      · try (exfalso; omega)
        all_goals (
          refine k_iconst C dX8_takes__36 ?_
          refine k_istore_n C dX8_takes__37 (by decide) rfl ?_
          refine k_aload_n C dX8_takes__38 rfl ?_
          refine k_get C (k := 9) inX8 (ci := 8) rfl (by decide) fl_X8_132 dX8_takes__39 (by repeat (first | exact hs_eq _ _ _ | refine hs_ne (by omega) ?_ | assumption)) rfl ?_
          refine k_iconst C dX8_takes__42 ?_
          refine k_icmp_ne (tgt := 63) C dX8_takes__43 (by decide) ⟨by omega, by omega⟩ ⟨by omega, by omega⟩ (fun c43 => ?_) (fun c43 => ?_)
          · try (exfalso; omega)
            all_goals (
              refine k_aload_n C dX8_takes__63 rfl ?_
              refine k_get C (k := 9) inX8 (ci := 8) rfl (by decide) fl_X8_132 dX8_takes__64 (by repeat (first | exact hs_eq _ _ _ | refine hs_ne (by omega) ?_ | assumption)) rfl ?_
              refine k_iconst C dX8_takes__67 ?_
              refine k_icmp_ne (tgt := 98) C dX8_takes__68 (by decide) ⟨by omega, by omega⟩ ⟨by omega, by omega⟩ (fun c68 => ?_) (fun c68 => ?_)
              · try (exfalso; omega)
                all_goals (
                  refine k_aload_n C dX8_takes__98 rfl ?_
                  refine k_iload_n C dX8_takes__99 rfl ?_
                  refine k_callV C (n := 1) (as := [_]) (ct_X8_takesDigit l D tc base oo zrr hhi htx has hro st ln th re du hsh _ hM _ hw (by omega) (by omega) (hrk (by omega))) ml_X8_138 im_X8_takesDigit se_X8_takesDigit ini_X8 co_X8_takesDigit ⟨rfl, by decide, by decide, by decide +kernel⟩ rfl (ci := 8) rfl (by repeat (first | exact hs_eq _ _ _ | refine hs_ne (by omega) ?_ | assumption)) ⟨by decide, by decide⟩ rfl (Nat.le_of_ble_eq_true rfl) ⟨Nat.zero_le _, Nat.zero_le _⟩ dX8_takes__100 ?_
                  rintro _ _ (⟨rfl, hl, hM1, hF1⟩ | ⟨rfl, hl, hM1, hF1⟩)
                  · skip
                    refine k_zret C hr dX8_takes__103 (by omega) ?_
                    first
                      | (exfalso; omega)
                      | (have hd0 : du = 0 := by omega
                         first
                           | (refine Or.inl ⟨rfl, Or.inl ⟨hd0, hl⟩, ?_, hF1⟩
                              simp only [pStep, if_pos hd0]
                              exact hM1)
                           | exact Or.inr ⟨rfl, by unfold pOk; omega, ⟨_, _, _, hM1⟩, hF1⟩)
                      | (have hc : du = 1 ∧ ww = 47 := by omega
                         refine Or.inl ⟨rfl, by unfold pOk; omega, ?_, fun aaa haa => by repeat (first | rfl | refine hs_ne (by omega) ?_)⟩
                         simp only [pStep, if_neg (show ¬ du = 0 by omega), if_pos hc.2]
                         exact ⟨(by repeat (first | exact hs_eq _ _ _ | refine hs_ne (by omega) ?_ | assumption)), (by repeat (first | exact hs_eq _ _ _ | refine hs_ne (by omega) ?_ | assumption)), (by repeat (first | exact hs_eq _ _ _ | refine hs_ne (by omega) ?_ | assumption)), (by repeat (first | exact hs_eq _ _ _ | refine hs_ne (by omega) ?_ | assumption)), (by repeat (first | exact hs_eq _ _ _ | refine hs_ne (by omega) ?_ | assumption)), (by repeat (first | exact hs_eq _ _ _ | refine hs_ne (by omega) ?_ | assumption))⟩)
                      | (have hc : du = 2 ∧ ww = 44 := by omega
                         refine Or.inl ⟨rfl, by unfold pOk; omega, ?_, fun aaa haa => by repeat (first | rfl | refine hs_ne (by omega) ?_)⟩
                         simp only [pStep, if_neg (show ¬ du = 0 by omega), if_neg (show ¬ ww = 47 by omega), if_pos hc.2]
                         exact ⟨(by repeat (first | exact hs_eq _ _ _ | refine hs_ne (by omega) ?_ | assumption)), (by repeat (first | exact hs_eq _ _ _ | refine hs_ne (by omega) ?_ | assumption)), (by repeat (first | exact hs_eq _ _ _ | refine hs_ne (by omega) ?_ | assumption)), (by repeat (first | exact hs_eq _ _ _ | refine hs_ne (by omega) ?_ | assumption)), (by repeat (first | exact hs_eq _ _ _ | refine hs_ne (by omega) ?_ | assumption)), (by repeat (first | exact hs_eq _ _ _ | refine hs_ne (by omega) ?_ | assumption))⟩)
                      | (have hc : 48 ≤ ww := hl.1
                         refine Or.inl ⟨rfl, by unfold pOk; omega, ?_, hF1⟩
                         simp only [pStep, if_neg (show ¬ du = 0 by omega), if_neg (show ¬ ww = 47 by omega), if_neg (show ¬ ww = 44 by omega)]
                         exact hM1)
                      | exact Or.inr ⟨rfl, by unfold pOk; omega, ⟨_, _, _, hM1⟩, hF1⟩
                  · skip
                    refine k_zret C hr dX8_takes__103 (by omega) ?_
                    first
                      | (exfalso; omega)
                      | (have hd0 : du = 0 := by omega
                         first
                           | (refine Or.inl ⟨rfl, Or.inl ⟨hd0, hl⟩, ?_, hF1⟩
                              simp only [pStep, if_pos hd0]
                              exact hM1)
                           | exact Or.inr ⟨rfl, by unfold pOk; omega, ⟨_, _, _, hM1⟩, hF1⟩)
                      | (have hc : du = 1 ∧ ww = 47 := by omega
                         refine Or.inl ⟨rfl, by unfold pOk; omega, ?_, fun aaa haa => by repeat (first | rfl | refine hs_ne (by omega) ?_)⟩
                         simp only [pStep, if_neg (show ¬ du = 0 by omega), if_pos hc.2]
                         exact ⟨(by repeat (first | exact hs_eq _ _ _ | refine hs_ne (by omega) ?_ | assumption)), (by repeat (first | exact hs_eq _ _ _ | refine hs_ne (by omega) ?_ | assumption)), (by repeat (first | exact hs_eq _ _ _ | refine hs_ne (by omega) ?_ | assumption)), (by repeat (first | exact hs_eq _ _ _ | refine hs_ne (by omega) ?_ | assumption)), (by repeat (first | exact hs_eq _ _ _ | refine hs_ne (by omega) ?_ | assumption)), (by repeat (first | exact hs_eq _ _ _ | refine hs_ne (by omega) ?_ | assumption))⟩)
                      | (have hc : du = 2 ∧ ww = 44 := by omega
                         refine Or.inl ⟨rfl, by unfold pOk; omega, ?_, fun aaa haa => by repeat (first | rfl | refine hs_ne (by omega) ?_)⟩
                         simp only [pStep, if_neg (show ¬ du = 0 by omega), if_neg (show ¬ ww = 47 by omega), if_pos hc.2]
                         exact ⟨(by repeat (first | exact hs_eq _ _ _ | refine hs_ne (by omega) ?_ | assumption)), (by repeat (first | exact hs_eq _ _ _ | refine hs_ne (by omega) ?_ | assumption)), (by repeat (first | exact hs_eq _ _ _ | refine hs_ne (by omega) ?_ | assumption)), (by repeat (first | exact hs_eq _ _ _ | refine hs_ne (by omega) ?_ | assumption)), (by repeat (first | exact hs_eq _ _ _ | refine hs_ne (by omega) ?_ | assumption)), (by repeat (first | exact hs_eq _ _ _ | refine hs_ne (by omega) ?_ | assumption))⟩)
                      | (have hc : 48 ≤ ww := hl.1
                         refine Or.inl ⟨rfl, by unfold pOk; omega, ?_, hF1⟩
                         simp only [pStep, if_neg (show ¬ du = 0 by omega), if_neg (show ¬ ww = 47 by omega), if_neg (show ¬ ww = 44 by omega)]
                         exact hM1)
                      | exact Or.inr ⟨rfl, by unfold pOk; omega, ⟨_, _, _, hM1⟩, hF1⟩)
              · try (exfalso; omega)
                all_goals (
                  refine k_iload_n C dX8_takes__71 rfl ?_
                  refine k_bipush C dX8_takes__72 (by decide +kernel) ?_
                  refine k_icmp_ne (tgt := 98) C dX8_takes__74 (by decide) ⟨by omega, by omega⟩ ⟨by omega, by omega⟩ (fun c74 => ?_) (fun c74 => ?_)
                  · try (exfalso; omega)
                    all_goals (
                      refine k_aload_n C dX8_takes__98 rfl ?_
                      refine k_iload_n C dX8_takes__99 rfl ?_
                      refine k_callV C (n := 1) (as := [_]) (ct_X8_takesDigit l D tc base oo zrr hhi htx has hro st ln th re du hsh _ hM _ hw (by omega) (by omega) (hrk (by omega))) ml_X8_138 im_X8_takesDigit se_X8_takesDigit ini_X8 co_X8_takesDigit ⟨rfl, by decide, by decide, by decide +kernel⟩ rfl (ci := 8) rfl (by repeat (first | exact hs_eq _ _ _ | refine hs_ne (by omega) ?_ | assumption)) ⟨by decide, by decide⟩ rfl (Nat.le_of_ble_eq_true rfl) ⟨Nat.zero_le _, Nat.zero_le _⟩ dX8_takes__100 ?_
                      rintro _ _ (⟨rfl, hl, hM1, hF1⟩ | ⟨rfl, hl, hM1, hF1⟩)
                      · skip
                        refine k_zret C hr dX8_takes__103 (by omega) ?_
                        first
                          | (exfalso; omega)
                          | (have hd0 : du = 0 := by omega
                             first
                               | (refine Or.inl ⟨rfl, Or.inl ⟨hd0, hl⟩, ?_, hF1⟩
                                  simp only [pStep, if_pos hd0]
                                  exact hM1)
                               | exact Or.inr ⟨rfl, by unfold pOk; omega, ⟨_, _, _, hM1⟩, hF1⟩)
                          | (have hc : du = 1 ∧ ww = 47 := by omega
                             refine Or.inl ⟨rfl, by unfold pOk; omega, ?_, fun aaa haa => by repeat (first | rfl | refine hs_ne (by omega) ?_)⟩
                             simp only [pStep, if_neg (show ¬ du = 0 by omega), if_pos hc.2]
                             exact ⟨(by repeat (first | exact hs_eq _ _ _ | refine hs_ne (by omega) ?_ | assumption)), (by repeat (first | exact hs_eq _ _ _ | refine hs_ne (by omega) ?_ | assumption)), (by repeat (first | exact hs_eq _ _ _ | refine hs_ne (by omega) ?_ | assumption)), (by repeat (first | exact hs_eq _ _ _ | refine hs_ne (by omega) ?_ | assumption)), (by repeat (first | exact hs_eq _ _ _ | refine hs_ne (by omega) ?_ | assumption)), (by repeat (first | exact hs_eq _ _ _ | refine hs_ne (by omega) ?_ | assumption))⟩)
                          | (have hc : du = 2 ∧ ww = 44 := by omega
                             refine Or.inl ⟨rfl, by unfold pOk; omega, ?_, fun aaa haa => by repeat (first | rfl | refine hs_ne (by omega) ?_)⟩
                             simp only [pStep, if_neg (show ¬ du = 0 by omega), if_neg (show ¬ ww = 47 by omega), if_pos hc.2]
                             exact ⟨(by repeat (first | exact hs_eq _ _ _ | refine hs_ne (by omega) ?_ | assumption)), (by repeat (first | exact hs_eq _ _ _ | refine hs_ne (by omega) ?_ | assumption)), (by repeat (first | exact hs_eq _ _ _ | refine hs_ne (by omega) ?_ | assumption)), (by repeat (first | exact hs_eq _ _ _ | refine hs_ne (by omega) ?_ | assumption)), (by repeat (first | exact hs_eq _ _ _ | refine hs_ne (by omega) ?_ | assumption)), (by repeat (first | exact hs_eq _ _ _ | refine hs_ne (by omega) ?_ | assumption))⟩)
                          | (have hc : 48 ≤ ww := hl.1
                             refine Or.inl ⟨rfl, by unfold pOk; omega, ?_, hF1⟩
                             simp only [pStep, if_neg (show ¬ du = 0 by omega), if_neg (show ¬ ww = 47 by omega), if_neg (show ¬ ww = 44 by omega)]
                             exact hM1)
                          | exact Or.inr ⟨rfl, by unfold pOk; omega, ⟨_, _, _, hM1⟩, hF1⟩
                      · skip
                        refine k_zret C hr dX8_takes__103 (by omega) ?_
                        first
                          | (exfalso; omega)
                          | (have hd0 : du = 0 := by omega
                             first
                               | (refine Or.inl ⟨rfl, Or.inl ⟨hd0, hl⟩, ?_, hF1⟩
                                  simp only [pStep, if_pos hd0]
                                  exact hM1)
                               | exact Or.inr ⟨rfl, by unfold pOk; omega, ⟨_, _, _, hM1⟩, hF1⟩)
                          | (have hc : du = 1 ∧ ww = 47 := by omega
                             refine Or.inl ⟨rfl, by unfold pOk; omega, ?_, fun aaa haa => by repeat (first | rfl | refine hs_ne (by omega) ?_)⟩
                             simp only [pStep, if_neg (show ¬ du = 0 by omega), if_pos hc.2]
                             exact ⟨(by repeat (first | exact hs_eq _ _ _ | refine hs_ne (by omega) ?_ | assumption)), (by repeat (first | exact hs_eq _ _ _ | refine hs_ne (by omega) ?_ | assumption)), (by repeat (first | exact hs_eq _ _ _ | refine hs_ne (by omega) ?_ | assumption)), (by repeat (first | exact hs_eq _ _ _ | refine hs_ne (by omega) ?_ | assumption)), (by repeat (first | exact hs_eq _ _ _ | refine hs_ne (by omega) ?_ | assumption)), (by repeat (first | exact hs_eq _ _ _ | refine hs_ne (by omega) ?_ | assumption))⟩)
                          | (have hc : du = 2 ∧ ww = 44 := by omega
                             refine Or.inl ⟨rfl, by unfold pOk; omega, ?_, fun aaa haa => by repeat (first | rfl | refine hs_ne (by omega) ?_)⟩
                             simp only [pStep, if_neg (show ¬ du = 0 by omega), if_neg (show ¬ ww = 47 by omega), if_pos hc.2]
                             exact ⟨(by repeat (first | exact hs_eq _ _ _ | refine hs_ne (by omega) ?_ | assumption)), (by repeat (first | exact hs_eq _ _ _ | refine hs_ne (by omega) ?_ | assumption)), (by repeat (first | exact hs_eq _ _ _ | refine hs_ne (by omega) ?_ | assumption)), (by repeat (first | exact hs_eq _ _ _ | refine hs_ne (by omega) ?_ | assumption)), (by repeat (first | exact hs_eq _ _ _ | refine hs_ne (by omega) ?_ | assumption)), (by repeat (first | exact hs_eq _ _ _ | refine hs_ne (by omega) ?_ | assumption))⟩)
                          | (have hc : 48 ≤ ww := hl.1
                             refine Or.inl ⟨rfl, by unfold pOk; omega, ?_, hF1⟩
                             simp only [pStep, if_neg (show ¬ du = 0 by omega), if_neg (show ¬ ww = 47 by omega), if_neg (show ¬ ww = 44 by omega)]
                             exact hM1)
                          | exact Or.inr ⟨rfl, by unfold pOk; omega, ⟨_, _, _, hM1⟩, hF1⟩)
                  · try (exfalso; omega)
                    all_goals (
                      refine k_iload_n C dX8_takes__77 rfl ?_
                      refine k_if_eq (tgt := 98) C dX8_takes__78 (by decide) ⟨by omega, by omega⟩ (fun c78 => ?_) (fun c78 => ?_)
                      · try (exfalso; omega)
                        all_goals (
                          refine k_aload_n C dX8_takes__98 rfl ?_
                          refine k_iload_n C dX8_takes__99 rfl ?_
                          refine k_callV C (n := 1) (as := [_]) (ct_X8_takesDigit l D tc base oo zrr hhi htx has hro st ln th re du hsh _ hM _ hw (by omega) (by omega) (hrk (by omega))) ml_X8_138 im_X8_takesDigit se_X8_takesDigit ini_X8 co_X8_takesDigit ⟨rfl, by decide, by decide, by decide +kernel⟩ rfl (ci := 8) rfl (by repeat (first | exact hs_eq _ _ _ | refine hs_ne (by omega) ?_ | assumption)) ⟨by decide, by decide⟩ rfl (Nat.le_of_ble_eq_true rfl) ⟨Nat.zero_le _, Nat.zero_le _⟩ dX8_takes__100 ?_
                          rintro _ _ (⟨rfl, hl, hM1, hF1⟩ | ⟨rfl, hl, hM1, hF1⟩)
                          · skip
                            refine k_zret C hr dX8_takes__103 (by omega) ?_
                            first
                              | (exfalso; omega)
                              | (have hd0 : du = 0 := by omega
                                 first
                                   | (refine Or.inl ⟨rfl, Or.inl ⟨hd0, hl⟩, ?_, hF1⟩
                                      simp only [pStep, if_pos hd0]
                                      exact hM1)
                                   | exact Or.inr ⟨rfl, by unfold pOk; omega, ⟨_, _, _, hM1⟩, hF1⟩)
                              | (have hc : du = 1 ∧ ww = 47 := by omega
                                 refine Or.inl ⟨rfl, by unfold pOk; omega, ?_, fun aaa haa => by repeat (first | rfl | refine hs_ne (by omega) ?_)⟩
                                 simp only [pStep, if_neg (show ¬ du = 0 by omega), if_pos hc.2]
                                 exact ⟨(by repeat (first | exact hs_eq _ _ _ | refine hs_ne (by omega) ?_ | assumption)), (by repeat (first | exact hs_eq _ _ _ | refine hs_ne (by omega) ?_ | assumption)), (by repeat (first | exact hs_eq _ _ _ | refine hs_ne (by omega) ?_ | assumption)), (by repeat (first | exact hs_eq _ _ _ | refine hs_ne (by omega) ?_ | assumption)), (by repeat (first | exact hs_eq _ _ _ | refine hs_ne (by omega) ?_ | assumption)), (by repeat (first | exact hs_eq _ _ _ | refine hs_ne (by omega) ?_ | assumption))⟩)
                              | (have hc : du = 2 ∧ ww = 44 := by omega
                                 refine Or.inl ⟨rfl, by unfold pOk; omega, ?_, fun aaa haa => by repeat (first | rfl | refine hs_ne (by omega) ?_)⟩
                                 simp only [pStep, if_neg (show ¬ du = 0 by omega), if_neg (show ¬ ww = 47 by omega), if_pos hc.2]
                                 exact ⟨(by repeat (first | exact hs_eq _ _ _ | refine hs_ne (by omega) ?_ | assumption)), (by repeat (first | exact hs_eq _ _ _ | refine hs_ne (by omega) ?_ | assumption)), (by repeat (first | exact hs_eq _ _ _ | refine hs_ne (by omega) ?_ | assumption)), (by repeat (first | exact hs_eq _ _ _ | refine hs_ne (by omega) ?_ | assumption)), (by repeat (first | exact hs_eq _ _ _ | refine hs_ne (by omega) ?_ | assumption)), (by repeat (first | exact hs_eq _ _ _ | refine hs_ne (by omega) ?_ | assumption))⟩)
                              | (have hc : 48 ≤ ww := hl.1
                                 refine Or.inl ⟨rfl, by unfold pOk; omega, ?_, hF1⟩
                                 simp only [pStep, if_neg (show ¬ du = 0 by omega), if_neg (show ¬ ww = 47 by omega), if_neg (show ¬ ww = 44 by omega)]
                                 exact hM1)
                              | exact Or.inr ⟨rfl, by unfold pOk; omega, ⟨_, _, _, hM1⟩, hF1⟩
                          · skip
                            refine k_zret C hr dX8_takes__103 (by omega) ?_
                            first
                              | (exfalso; omega)
                              | (have hd0 : du = 0 := by omega
                                 first
                                   | (refine Or.inl ⟨rfl, Or.inl ⟨hd0, hl⟩, ?_, hF1⟩
                                      simp only [pStep, if_pos hd0]
                                      exact hM1)
                                   | exact Or.inr ⟨rfl, by unfold pOk; omega, ⟨_, _, _, hM1⟩, hF1⟩)
                              | (have hc : du = 1 ∧ ww = 47 := by omega
                                 refine Or.inl ⟨rfl, by unfold pOk; omega, ?_, fun aaa haa => by repeat (first | rfl | refine hs_ne (by omega) ?_)⟩
                                 simp only [pStep, if_neg (show ¬ du = 0 by omega), if_pos hc.2]
                                 exact ⟨(by repeat (first | exact hs_eq _ _ _ | refine hs_ne (by omega) ?_ | assumption)), (by repeat (first | exact hs_eq _ _ _ | refine hs_ne (by omega) ?_ | assumption)), (by repeat (first | exact hs_eq _ _ _ | refine hs_ne (by omega) ?_ | assumption)), (by repeat (first | exact hs_eq _ _ _ | refine hs_ne (by omega) ?_ | assumption)), (by repeat (first | exact hs_eq _ _ _ | refine hs_ne (by omega) ?_ | assumption)), (by repeat (first | exact hs_eq _ _ _ | refine hs_ne (by omega) ?_ | assumption))⟩)
                              | (have hc : du = 2 ∧ ww = 44 := by omega
                                 refine Or.inl ⟨rfl, by unfold pOk; omega, ?_, fun aaa haa => by repeat (first | rfl | refine hs_ne (by omega) ?_)⟩
                                 simp only [pStep, if_neg (show ¬ du = 0 by omega), if_neg (show ¬ ww = 47 by omega), if_pos hc.2]
                                 exact ⟨(by repeat (first | exact hs_eq _ _ _ | refine hs_ne (by omega) ?_ | assumption)), (by repeat (first | exact hs_eq _ _ _ | refine hs_ne (by omega) ?_ | assumption)), (by repeat (first | exact hs_eq _ _ _ | refine hs_ne (by omega) ?_ | assumption)), (by repeat (first | exact hs_eq _ _ _ | refine hs_ne (by omega) ?_ | assumption)), (by repeat (first | exact hs_eq _ _ _ | refine hs_ne (by omega) ?_ | assumption)), (by repeat (first | exact hs_eq _ _ _ | refine hs_ne (by omega) ?_ | assumption))⟩)
                              | (have hc : 48 ≤ ww := hl.1
                                 refine Or.inl ⟨rfl, by unfold pOk; omega, ?_, hF1⟩
                                 simp only [pStep, if_neg (show ¬ du = 0 by omega), if_neg (show ¬ ww = 47 by omega), if_neg (show ¬ ww = 44 by omega)]
                                 exact hM1)
                              | exact Or.inr ⟨rfl, by unfold pOk; omega, ⟨_, _, _, hM1⟩, hF1⟩)
                      · try (exfalso; omega)
                        all_goals (
                          refine k_aload_n C dX8_takes__81 rfl ?_
                          refine k_dup C dX8_takes__82 rfl ?_
                          refine k_get C (k := 8) inX8 (ci := 8) rfl (by decide) fl_X8_129 dX8_takes__83 (by repeat (first | exact hs_eq _ _ _ | refine hs_ne (by omega) ?_ | assumption)) rfl ?_
                          refine k_iconst C dX8_takes__86 ?_
                          refine k_iadd C dX8_takes__87 ?_
                          refine k_put C (k := 8) inX8 tyX8_ok nmX8 (ci := 8) rfl (by decide) fl_X8_129 rfl (Nat.le_of_ble_eq_true rfl) dX8_takes__88 (by repeat (first | exact hs_eq _ _ _ | refine hs_ne (by omega) ?_ | assumption)) ?_
                          refine k_aload_n C dX8_takes__91 rfl ?_
                          refine k_iconst C dX8_takes__92 ?_
                          refine k_put C (k := 9) inX8 tyX8_ok nmX8 (ci := 8) rfl (by decide) fl_X8_132 rfl (Nat.le_of_ble_eq_true rfl) dX8_takes__93 (by repeat (first | exact hs_eq _ _ _ | refine hs_ne (by omega) ?_ | assumption)) ?_
                          refine k_iconst C dX8_takes__96 ?_
                          refine k_zret C hr dX8_takes__97 (by omega) ?_
                          first
                            | (exfalso; omega)
                            | (have hd0 : du = 0 := by omega
                               first
                                 | (refine Or.inl ⟨rfl, Or.inl ⟨hd0, hl⟩, ?_, hF1⟩
                                    simp only [pStep, if_pos hd0]
                                    exact hM1)
                                 | exact Or.inr ⟨rfl, by unfold pOk; omega, ⟨_, _, _, hM1⟩, hF1⟩)
                            | (have hc : du = 1 ∧ ww = 47 := by omega
                               refine Or.inl ⟨rfl, by unfold pOk; omega, ?_, fun aaa haa => by repeat (first | rfl | refine hs_ne (by omega) ?_)⟩
                               simp only [pStep, if_neg (show ¬ du = 0 by omega), if_pos hc.2]
                               exact ⟨(by repeat (first | exact hs_eq _ _ _ | refine hs_ne (by omega) ?_ | assumption)), (by repeat (first | exact hs_eq _ _ _ | refine hs_ne (by omega) ?_ | assumption)), (by repeat (first | exact hs_eq _ _ _ | refine hs_ne (by omega) ?_ | assumption)), (by repeat (first | exact hs_eq _ _ _ | refine hs_ne (by omega) ?_ | assumption)), (by repeat (first | exact hs_eq _ _ _ | refine hs_ne (by omega) ?_ | assumption)), (by repeat (first | exact hs_eq _ _ _ | refine hs_ne (by omega) ?_ | assumption))⟩)
                            | (have hc : du = 2 ∧ ww = 44 := by omega
                               refine Or.inl ⟨rfl, by unfold pOk; omega, ?_, fun aaa haa => by repeat (first | rfl | refine hs_ne (by omega) ?_)⟩
                               simp only [pStep, if_neg (show ¬ du = 0 by omega), if_neg (show ¬ ww = 47 by omega), if_pos hc.2]
                               exact ⟨(by repeat (first | exact hs_eq _ _ _ | refine hs_ne (by omega) ?_ | assumption)), (by repeat (first | exact hs_eq _ _ _ | refine hs_ne (by omega) ?_ | assumption)), (by repeat (first | exact hs_eq _ _ _ | refine hs_ne (by omega) ?_ | assumption)), (by repeat (first | exact hs_eq _ _ _ | refine hs_ne (by omega) ?_ | assumption)), (by repeat (first | exact hs_eq _ _ _ | refine hs_ne (by omega) ?_ | assumption)), (by repeat (first | exact hs_eq _ _ _ | refine hs_ne (by omega) ?_ | assumption))⟩)
                            | (have hc : 48 ≤ ww := hl.1
                               refine Or.inl ⟨rfl, by unfold pOk; omega, ?_, hF1⟩
                               simp only [pStep, if_neg (show ¬ du = 0 by omega), if_neg (show ¬ ww = 47 by omega), if_neg (show ¬ ww = 44 by omega)]
                               exact hM1)
                            | exact Or.inr ⟨rfl, by unfold pOk; omega, ⟨_, _, _, hM1⟩, hF1⟩))))
          · try (exfalso; omega)
            all_goals (
              refine k_iload_n C dX8_takes__46 rfl ?_
              refine k_bipush C dX8_takes__47 (by decide +kernel) ?_
              refine k_icmp_ne (tgt := 63) C dX8_takes__49 (by decide) ⟨by omega, by omega⟩ ⟨by omega, by omega⟩ (fun c49 => ?_) (fun c49 => ?_)
              · try (exfalso; omega)
                all_goals (
                  refine k_aload_n C dX8_takes__63 rfl ?_
                  refine k_get C (k := 9) inX8 (ci := 8) rfl (by decide) fl_X8_132 dX8_takes__64 (by repeat (first | exact hs_eq _ _ _ | refine hs_ne (by omega) ?_ | assumption)) rfl ?_
                  refine k_iconst C dX8_takes__67 ?_
                  refine k_icmp_ne (tgt := 98) C dX8_takes__68 (by decide) ⟨by omega, by omega⟩ ⟨by omega, by omega⟩ (fun c68 => ?_) (fun c68 => ?_)
                  · try (exfalso; omega)
                    all_goals (
                      refine k_aload_n C dX8_takes__98 rfl ?_
                      refine k_iload_n C dX8_takes__99 rfl ?_
                      refine k_callV C (n := 1) (as := [_]) (ct_X8_takesDigit l D tc base oo zrr hhi htx has hro st ln th re du hsh _ hM _ hw (by omega) (by omega) (hrk (by omega))) ml_X8_138 im_X8_takesDigit se_X8_takesDigit ini_X8 co_X8_takesDigit ⟨rfl, by decide, by decide, by decide +kernel⟩ rfl (ci := 8) rfl (by repeat (first | exact hs_eq _ _ _ | refine hs_ne (by omega) ?_ | assumption)) ⟨by decide, by decide⟩ rfl (Nat.le_of_ble_eq_true rfl) ⟨Nat.zero_le _, Nat.zero_le _⟩ dX8_takes__100 ?_
                      rintro _ _ (⟨rfl, hl, hM1, hF1⟩ | ⟨rfl, hl, hM1, hF1⟩)
                      · skip
                        refine k_zret C hr dX8_takes__103 (by omega) ?_
                        first
                          | (exfalso; omega)
                          | (have hd0 : du = 0 := by omega
                             first
                               | (refine Or.inl ⟨rfl, Or.inl ⟨hd0, hl⟩, ?_, hF1⟩
                                  simp only [pStep, if_pos hd0]
                                  exact hM1)
                               | exact Or.inr ⟨rfl, by unfold pOk; omega, ⟨_, _, _, hM1⟩, hF1⟩)
                          | (have hc : du = 1 ∧ ww = 47 := by omega
                             refine Or.inl ⟨rfl, by unfold pOk; omega, ?_, fun aaa haa => by repeat (first | rfl | refine hs_ne (by omega) ?_)⟩
                             simp only [pStep, if_neg (show ¬ du = 0 by omega), if_pos hc.2]
                             exact ⟨(by repeat (first | exact hs_eq _ _ _ | refine hs_ne (by omega) ?_ | assumption)), (by repeat (first | exact hs_eq _ _ _ | refine hs_ne (by omega) ?_ | assumption)), (by repeat (first | exact hs_eq _ _ _ | refine hs_ne (by omega) ?_ | assumption)), (by repeat (first | exact hs_eq _ _ _ | refine hs_ne (by omega) ?_ | assumption)), (by repeat (first | exact hs_eq _ _ _ | refine hs_ne (by omega) ?_ | assumption)), (by repeat (first | exact hs_eq _ _ _ | refine hs_ne (by omega) ?_ | assumption))⟩)
                          | (have hc : du = 2 ∧ ww = 44 := by omega
                             refine Or.inl ⟨rfl, by unfold pOk; omega, ?_, fun aaa haa => by repeat (first | rfl | refine hs_ne (by omega) ?_)⟩
                             simp only [pStep, if_neg (show ¬ du = 0 by omega), if_neg (show ¬ ww = 47 by omega), if_pos hc.2]
                             exact ⟨(by repeat (first | exact hs_eq _ _ _ | refine hs_ne (by omega) ?_ | assumption)), (by repeat (first | exact hs_eq _ _ _ | refine hs_ne (by omega) ?_ | assumption)), (by repeat (first | exact hs_eq _ _ _ | refine hs_ne (by omega) ?_ | assumption)), (by repeat (first | exact hs_eq _ _ _ | refine hs_ne (by omega) ?_ | assumption)), (by repeat (first | exact hs_eq _ _ _ | refine hs_ne (by omega) ?_ | assumption)), (by repeat (first | exact hs_eq _ _ _ | refine hs_ne (by omega) ?_ | assumption))⟩)
                          | (have hc : 48 ≤ ww := hl.1
                             refine Or.inl ⟨rfl, by unfold pOk; omega, ?_, hF1⟩
                             simp only [pStep, if_neg (show ¬ du = 0 by omega), if_neg (show ¬ ww = 47 by omega), if_neg (show ¬ ww = 44 by omega)]
                             exact hM1)
                          | exact Or.inr ⟨rfl, by unfold pOk; omega, ⟨_, _, _, hM1⟩, hF1⟩
                      · skip
                        refine k_zret C hr dX8_takes__103 (by omega) ?_
                        first
                          | (exfalso; omega)
                          | (have hd0 : du = 0 := by omega
                             first
                               | (refine Or.inl ⟨rfl, Or.inl ⟨hd0, hl⟩, ?_, hF1⟩
                                  simp only [pStep, if_pos hd0]
                                  exact hM1)
                               | exact Or.inr ⟨rfl, by unfold pOk; omega, ⟨_, _, _, hM1⟩, hF1⟩)
                          | (have hc : du = 1 ∧ ww = 47 := by omega
                             refine Or.inl ⟨rfl, by unfold pOk; omega, ?_, fun aaa haa => by repeat (first | rfl | refine hs_ne (by omega) ?_)⟩
                             simp only [pStep, if_neg (show ¬ du = 0 by omega), if_pos hc.2]
                             exact ⟨(by repeat (first | exact hs_eq _ _ _ | refine hs_ne (by omega) ?_ | assumption)), (by repeat (first | exact hs_eq _ _ _ | refine hs_ne (by omega) ?_ | assumption)), (by repeat (first | exact hs_eq _ _ _ | refine hs_ne (by omega) ?_ | assumption)), (by repeat (first | exact hs_eq _ _ _ | refine hs_ne (by omega) ?_ | assumption)), (by repeat (first | exact hs_eq _ _ _ | refine hs_ne (by omega) ?_ | assumption)), (by repeat (first | exact hs_eq _ _ _ | refine hs_ne (by omega) ?_ | assumption))⟩)
                          | (have hc : du = 2 ∧ ww = 44 := by omega
                             refine Or.inl ⟨rfl, by unfold pOk; omega, ?_, fun aaa haa => by repeat (first | rfl | refine hs_ne (by omega) ?_)⟩
                             simp only [pStep, if_neg (show ¬ du = 0 by omega), if_neg (show ¬ ww = 47 by omega), if_pos hc.2]
                             exact ⟨(by repeat (first | exact hs_eq _ _ _ | refine hs_ne (by omega) ?_ | assumption)), (by repeat (first | exact hs_eq _ _ _ | refine hs_ne (by omega) ?_ | assumption)), (by repeat (first | exact hs_eq _ _ _ | refine hs_ne (by omega) ?_ | assumption)), (by repeat (first | exact hs_eq _ _ _ | refine hs_ne (by omega) ?_ | assumption)), (by repeat (first | exact hs_eq _ _ _ | refine hs_ne (by omega) ?_ | assumption)), (by repeat (first | exact hs_eq _ _ _ | refine hs_ne (by omega) ?_ | assumption))⟩)
                          | (have hc : 48 ≤ ww := hl.1
                             refine Or.inl ⟨rfl, by unfold pOk; omega, ?_, hF1⟩
                             simp only [pStep, if_neg (show ¬ du = 0 by omega), if_neg (show ¬ ww = 47 by omega), if_neg (show ¬ ww = 44 by omega)]
                             exact hM1)
                          | exact Or.inr ⟨rfl, by unfold pOk; omega, ⟨_, _, _, hM1⟩, hF1⟩)
                  · try (exfalso; omega)
                    all_goals (
                      refine k_iload_n C dX8_takes__71 rfl ?_
                      refine k_bipush C dX8_takes__72 (by decide +kernel) ?_
                      refine k_icmp_ne (tgt := 98) C dX8_takes__74 (by decide) ⟨by omega, by omega⟩ ⟨by omega, by omega⟩ (fun c74 => ?_) (fun c74 => ?_)
                      · try (exfalso; omega)
                        all_goals (
                          refine k_aload_n C dX8_takes__98 rfl ?_
                          refine k_iload_n C dX8_takes__99 rfl ?_
                          refine k_callV C (n := 1) (as := [_]) (ct_X8_takesDigit l D tc base oo zrr hhi htx has hro st ln th re du hsh _ hM _ hw (by omega) (by omega) (hrk (by omega))) ml_X8_138 im_X8_takesDigit se_X8_takesDigit ini_X8 co_X8_takesDigit ⟨rfl, by decide, by decide, by decide +kernel⟩ rfl (ci := 8) rfl (by repeat (first | exact hs_eq _ _ _ | refine hs_ne (by omega) ?_ | assumption)) ⟨by decide, by decide⟩ rfl (Nat.le_of_ble_eq_true rfl) ⟨Nat.zero_le _, Nat.zero_le _⟩ dX8_takes__100 ?_
                          rintro _ _ (⟨rfl, hl, hM1, hF1⟩ | ⟨rfl, hl, hM1, hF1⟩)
                          · skip
                            refine k_zret C hr dX8_takes__103 (by omega) ?_
                            first
                              | (exfalso; omega)
                              | (have hd0 : du = 0 := by omega
                                 first
                                   | (refine Or.inl ⟨rfl, Or.inl ⟨hd0, hl⟩, ?_, hF1⟩
                                      simp only [pStep, if_pos hd0]
                                      exact hM1)
                                   | exact Or.inr ⟨rfl, by unfold pOk; omega, ⟨_, _, _, hM1⟩, hF1⟩)
                              | (have hc : du = 1 ∧ ww = 47 := by omega
                                 refine Or.inl ⟨rfl, by unfold pOk; omega, ?_, fun aaa haa => by repeat (first | rfl | refine hs_ne (by omega) ?_)⟩
                                 simp only [pStep, if_neg (show ¬ du = 0 by omega), if_pos hc.2]
                                 exact ⟨(by repeat (first | exact hs_eq _ _ _ | refine hs_ne (by omega) ?_ | assumption)), (by repeat (first | exact hs_eq _ _ _ | refine hs_ne (by omega) ?_ | assumption)), (by repeat (first | exact hs_eq _ _ _ | refine hs_ne (by omega) ?_ | assumption)), (by repeat (first | exact hs_eq _ _ _ | refine hs_ne (by omega) ?_ | assumption)), (by repeat (first | exact hs_eq _ _ _ | refine hs_ne (by omega) ?_ | assumption)), (by repeat (first | exact hs_eq _ _ _ | refine hs_ne (by omega) ?_ | assumption))⟩)
                              | (have hc : du = 2 ∧ ww = 44 := by omega
                                 refine Or.inl ⟨rfl, by unfold pOk; omega, ?_, fun aaa haa => by repeat (first | rfl | refine hs_ne (by omega) ?_)⟩
                                 simp only [pStep, if_neg (show ¬ du = 0 by omega), if_neg (show ¬ ww = 47 by omega), if_pos hc.2]
                                 exact ⟨(by repeat (first | exact hs_eq _ _ _ | refine hs_ne (by omega) ?_ | assumption)), (by repeat (first | exact hs_eq _ _ _ | refine hs_ne (by omega) ?_ | assumption)), (by repeat (first | exact hs_eq _ _ _ | refine hs_ne (by omega) ?_ | assumption)), (by repeat (first | exact hs_eq _ _ _ | refine hs_ne (by omega) ?_ | assumption)), (by repeat (first | exact hs_eq _ _ _ | refine hs_ne (by omega) ?_ | assumption)), (by repeat (first | exact hs_eq _ _ _ | refine hs_ne (by omega) ?_ | assumption))⟩)
                              | (have hc : 48 ≤ ww := hl.1
                                 refine Or.inl ⟨rfl, by unfold pOk; omega, ?_, hF1⟩
                                 simp only [pStep, if_neg (show ¬ du = 0 by omega), if_neg (show ¬ ww = 47 by omega), if_neg (show ¬ ww = 44 by omega)]
                                 exact hM1)
                              | exact Or.inr ⟨rfl, by unfold pOk; omega, ⟨_, _, _, hM1⟩, hF1⟩
                          · skip
                            refine k_zret C hr dX8_takes__103 (by omega) ?_
                            first
                              | (exfalso; omega)
                              | (have hd0 : du = 0 := by omega
                                 first
                                   | (refine Or.inl ⟨rfl, Or.inl ⟨hd0, hl⟩, ?_, hF1⟩
                                      simp only [pStep, if_pos hd0]
                                      exact hM1)
                                   | exact Or.inr ⟨rfl, by unfold pOk; omega, ⟨_, _, _, hM1⟩, hF1⟩)
                              | (have hc : du = 1 ∧ ww = 47 := by omega
                                 refine Or.inl ⟨rfl, by unfold pOk; omega, ?_, fun aaa haa => by repeat (first | rfl | refine hs_ne (by omega) ?_)⟩
                                 simp only [pStep, if_neg (show ¬ du = 0 by omega), if_pos hc.2]
                                 exact ⟨(by repeat (first | exact hs_eq _ _ _ | refine hs_ne (by omega) ?_ | assumption)), (by repeat (first | exact hs_eq _ _ _ | refine hs_ne (by omega) ?_ | assumption)), (by repeat (first | exact hs_eq _ _ _ | refine hs_ne (by omega) ?_ | assumption)), (by repeat (first | exact hs_eq _ _ _ | refine hs_ne (by omega) ?_ | assumption)), (by repeat (first | exact hs_eq _ _ _ | refine hs_ne (by omega) ?_ | assumption)), (by repeat (first | exact hs_eq _ _ _ | refine hs_ne (by omega) ?_ | assumption))⟩)
                              | (have hc : du = 2 ∧ ww = 44 := by omega
                                 refine Or.inl ⟨rfl, by unfold pOk; omega, ?_, fun aaa haa => by repeat (first | rfl | refine hs_ne (by omega) ?_)⟩
                                 simp only [pStep, if_neg (show ¬ du = 0 by omega), if_neg (show ¬ ww = 47 by omega), if_pos hc.2]
                                 exact ⟨(by repeat (first | exact hs_eq _ _ _ | refine hs_ne (by omega) ?_ | assumption)), (by repeat (first | exact hs_eq _ _ _ | refine hs_ne (by omega) ?_ | assumption)), (by repeat (first | exact hs_eq _ _ _ | refine hs_ne (by omega) ?_ | assumption)), (by repeat (first | exact hs_eq _ _ _ | refine hs_ne (by omega) ?_ | assumption)), (by repeat (first | exact hs_eq _ _ _ | refine hs_ne (by omega) ?_ | assumption)), (by repeat (first | exact hs_eq _ _ _ | refine hs_ne (by omega) ?_ | assumption))⟩)
                              | (have hc : 48 ≤ ww := hl.1
                                 refine Or.inl ⟨rfl, by unfold pOk; omega, ?_, hF1⟩
                                 simp only [pStep, if_neg (show ¬ du = 0 by omega), if_neg (show ¬ ww = 47 by omega), if_neg (show ¬ ww = 44 by omega)]
                                 exact hM1)
                              | exact Or.inr ⟨rfl, by unfold pOk; omega, ⟨_, _, _, hM1⟩, hF1⟩)
                      · try (exfalso; omega)
                        all_goals (
                          refine k_iload_n C dX8_takes__77 rfl ?_
                          refine k_if_eq (tgt := 98) C dX8_takes__78 (by decide) ⟨by omega, by omega⟩ (fun c78 => ?_) (fun c78 => ?_)
                          · try (exfalso; omega)
                            all_goals (
                              refine k_aload_n C dX8_takes__98 rfl ?_
                              refine k_iload_n C dX8_takes__99 rfl ?_
                              refine k_callV C (n := 1) (as := [_]) (ct_X8_takesDigit l D tc base oo zrr hhi htx has hro st ln th re du hsh _ hM _ hw (by omega) (by omega) (hrk (by omega))) ml_X8_138 im_X8_takesDigit se_X8_takesDigit ini_X8 co_X8_takesDigit ⟨rfl, by decide, by decide, by decide +kernel⟩ rfl (ci := 8) rfl (by repeat (first | exact hs_eq _ _ _ | refine hs_ne (by omega) ?_ | assumption)) ⟨by decide, by decide⟩ rfl (Nat.le_of_ble_eq_true rfl) ⟨Nat.zero_le _, Nat.zero_le _⟩ dX8_takes__100 ?_
                              rintro _ _ (⟨rfl, hl, hM1, hF1⟩ | ⟨rfl, hl, hM1, hF1⟩)
                              · skip
                                refine k_zret C hr dX8_takes__103 (by omega) ?_
                                first
                                  | (exfalso; omega)
                                  | (have hd0 : du = 0 := by omega
                                     first
                                       | (refine Or.inl ⟨rfl, Or.inl ⟨hd0, hl⟩, ?_, hF1⟩
                                          simp only [pStep, if_pos hd0]
                                          exact hM1)
                                       | exact Or.inr ⟨rfl, by unfold pOk; omega, ⟨_, _, _, hM1⟩, hF1⟩)
                                  | (have hc : du = 1 ∧ ww = 47 := by omega
                                     refine Or.inl ⟨rfl, by unfold pOk; omega, ?_, fun aaa haa => by repeat (first | rfl | refine hs_ne (by omega) ?_)⟩
                                     simp only [pStep, if_neg (show ¬ du = 0 by omega), if_pos hc.2]
                                     exact ⟨(by repeat (first | exact hs_eq _ _ _ | refine hs_ne (by omega) ?_ | assumption)), (by repeat (first | exact hs_eq _ _ _ | refine hs_ne (by omega) ?_ | assumption)), (by repeat (first | exact hs_eq _ _ _ | refine hs_ne (by omega) ?_ | assumption)), (by repeat (first | exact hs_eq _ _ _ | refine hs_ne (by omega) ?_ | assumption)), (by repeat (first | exact hs_eq _ _ _ | refine hs_ne (by omega) ?_ | assumption)), (by repeat (first | exact hs_eq _ _ _ | refine hs_ne (by omega) ?_ | assumption))⟩)
                                  | (have hc : du = 2 ∧ ww = 44 := by omega
                                     refine Or.inl ⟨rfl, by unfold pOk; omega, ?_, fun aaa haa => by repeat (first | rfl | refine hs_ne (by omega) ?_)⟩
                                     simp only [pStep, if_neg (show ¬ du = 0 by omega), if_neg (show ¬ ww = 47 by omega), if_pos hc.2]
                                     exact ⟨(by repeat (first | exact hs_eq _ _ _ | refine hs_ne (by omega) ?_ | assumption)), (by repeat (first | exact hs_eq _ _ _ | refine hs_ne (by omega) ?_ | assumption)), (by repeat (first | exact hs_eq _ _ _ | refine hs_ne (by omega) ?_ | assumption)), (by repeat (first | exact hs_eq _ _ _ | refine hs_ne (by omega) ?_ | assumption)), (by repeat (first | exact hs_eq _ _ _ | refine hs_ne (by omega) ?_ | assumption)), (by repeat (first | exact hs_eq _ _ _ | refine hs_ne (by omega) ?_ | assumption))⟩)
                                  | (have hc : 48 ≤ ww := hl.1
                                     refine Or.inl ⟨rfl, by unfold pOk; omega, ?_, hF1⟩
                                     simp only [pStep, if_neg (show ¬ du = 0 by omega), if_neg (show ¬ ww = 47 by omega), if_neg (show ¬ ww = 44 by omega)]
                                     exact hM1)
                                  | exact Or.inr ⟨rfl, by unfold pOk; omega, ⟨_, _, _, hM1⟩, hF1⟩
                              · skip
                                refine k_zret C hr dX8_takes__103 (by omega) ?_
                                first
                                  | (exfalso; omega)
                                  | (have hd0 : du = 0 := by omega
                                     first
                                       | (refine Or.inl ⟨rfl, Or.inl ⟨hd0, hl⟩, ?_, hF1⟩
                                          simp only [pStep, if_pos hd0]
                                          exact hM1)
                                       | exact Or.inr ⟨rfl, by unfold pOk; omega, ⟨_, _, _, hM1⟩, hF1⟩)
                                  | (have hc : du = 1 ∧ ww = 47 := by omega
                                     refine Or.inl ⟨rfl, by unfold pOk; omega, ?_, fun aaa haa => by repeat (first | rfl | refine hs_ne (by omega) ?_)⟩
                                     simp only [pStep, if_neg (show ¬ du = 0 by omega), if_pos hc.2]
                                     exact ⟨(by repeat (first | exact hs_eq _ _ _ | refine hs_ne (by omega) ?_ | assumption)), (by repeat (first | exact hs_eq _ _ _ | refine hs_ne (by omega) ?_ | assumption)), (by repeat (first | exact hs_eq _ _ _ | refine hs_ne (by omega) ?_ | assumption)), (by repeat (first | exact hs_eq _ _ _ | refine hs_ne (by omega) ?_ | assumption)), (by repeat (first | exact hs_eq _ _ _ | refine hs_ne (by omega) ?_ | assumption)), (by repeat (first | exact hs_eq _ _ _ | refine hs_ne (by omega) ?_ | assumption))⟩)
                                  | (have hc : du = 2 ∧ ww = 44 := by omega
                                     refine Or.inl ⟨rfl, by unfold pOk; omega, ?_, fun aaa haa => by repeat (first | rfl | refine hs_ne (by omega) ?_)⟩
                                     simp only [pStep, if_neg (show ¬ du = 0 by omega), if_neg (show ¬ ww = 47 by omega), if_pos hc.2]
                                     exact ⟨(by repeat (first | exact hs_eq _ _ _ | refine hs_ne (by omega) ?_ | assumption)), (by repeat (first | exact hs_eq _ _ _ | refine hs_ne (by omega) ?_ | assumption)), (by repeat (first | exact hs_eq _ _ _ | refine hs_ne (by omega) ?_ | assumption)), (by repeat (first | exact hs_eq _ _ _ | refine hs_ne (by omega) ?_ | assumption)), (by repeat (first | exact hs_eq _ _ _ | refine hs_ne (by omega) ?_ | assumption)), (by repeat (first | exact hs_eq _ _ _ | refine hs_ne (by omega) ?_ | assumption))⟩)
                                  | (have hc : 48 ≤ ww := hl.1
                                     refine Or.inl ⟨rfl, by unfold pOk; omega, ?_, hF1⟩
                                     simp only [pStep, if_neg (show ¬ du = 0 by omega), if_neg (show ¬ ww = 47 by omega), if_neg (show ¬ ww = 44 by omega)]
                                     exact hM1)
                                  | exact Or.inr ⟨rfl, by unfold pOk; omega, ⟨_, _, _, hM1⟩, hF1⟩)
                          · try (exfalso; omega)
                            all_goals (
                              refine k_aload_n C dX8_takes__81 rfl ?_
                              refine k_dup C dX8_takes__82 rfl ?_
                              refine k_get C (k := 8) inX8 (ci := 8) rfl (by decide) fl_X8_129 dX8_takes__83 (by repeat (first | exact hs_eq _ _ _ | refine hs_ne (by omega) ?_ | assumption)) rfl ?_
                              refine k_iconst C dX8_takes__86 ?_
                              refine k_iadd C dX8_takes__87 ?_
                              refine k_put C (k := 8) inX8 tyX8_ok nmX8 (ci := 8) rfl (by decide) fl_X8_129 rfl (Nat.le_of_ble_eq_true rfl) dX8_takes__88 (by repeat (first | exact hs_eq _ _ _ | refine hs_ne (by omega) ?_ | assumption)) ?_
                              refine k_aload_n C dX8_takes__91 rfl ?_
                              refine k_iconst C dX8_takes__92 ?_
                              refine k_put C (k := 9) inX8 tyX8_ok nmX8 (ci := 8) rfl (by decide) fl_X8_132 rfl (Nat.le_of_ble_eq_true rfl) dX8_takes__93 (by repeat (first | exact hs_eq _ _ _ | refine hs_ne (by omega) ?_ | assumption)) ?_
                              refine k_iconst C dX8_takes__96 ?_
                              refine k_zret C hr dX8_takes__97 (by omega) ?_
                              first
                                | (exfalso; omega)
                                | (have hd0 : du = 0 := by omega
                                   first
                                     | (refine Or.inl ⟨rfl, Or.inl ⟨hd0, hl⟩, ?_, hF1⟩
                                        simp only [pStep, if_pos hd0]
                                        exact hM1)
                                     | exact Or.inr ⟨rfl, by unfold pOk; omega, ⟨_, _, _, hM1⟩, hF1⟩)
                                | (have hc : du = 1 ∧ ww = 47 := by omega
                                   refine Or.inl ⟨rfl, by unfold pOk; omega, ?_, fun aaa haa => by repeat (first | rfl | refine hs_ne (by omega) ?_)⟩
                                   simp only [pStep, if_neg (show ¬ du = 0 by omega), if_pos hc.2]
                                   exact ⟨(by repeat (first | exact hs_eq _ _ _ | refine hs_ne (by omega) ?_ | assumption)), (by repeat (first | exact hs_eq _ _ _ | refine hs_ne (by omega) ?_ | assumption)), (by repeat (first | exact hs_eq _ _ _ | refine hs_ne (by omega) ?_ | assumption)), (by repeat (first | exact hs_eq _ _ _ | refine hs_ne (by omega) ?_ | assumption)), (by repeat (first | exact hs_eq _ _ _ | refine hs_ne (by omega) ?_ | assumption)), (by repeat (first | exact hs_eq _ _ _ | refine hs_ne (by omega) ?_ | assumption))⟩)
                                | (have hc : du = 2 ∧ ww = 44 := by omega
                                   refine Or.inl ⟨rfl, by unfold pOk; omega, ?_, fun aaa haa => by repeat (first | rfl | refine hs_ne (by omega) ?_)⟩
                                   simp only [pStep, if_neg (show ¬ du = 0 by omega), if_neg (show ¬ ww = 47 by omega), if_pos hc.2]
                                   exact ⟨(by repeat (first | exact hs_eq _ _ _ | refine hs_ne (by omega) ?_ | assumption)), (by repeat (first | exact hs_eq _ _ _ | refine hs_ne (by omega) ?_ | assumption)), (by repeat (first | exact hs_eq _ _ _ | refine hs_ne (by omega) ?_ | assumption)), (by repeat (first | exact hs_eq _ _ _ | refine hs_ne (by omega) ?_ | assumption)), (by repeat (first | exact hs_eq _ _ _ | refine hs_ne (by omega) ?_ | assumption)), (by repeat (first | exact hs_eq _ _ _ | refine hs_ne (by omega) ?_ | assumption))⟩)
                                | (have hc : 48 ≤ ww := hl.1
                                   refine Or.inl ⟨rfl, by unfold pOk; omega, ?_, hF1⟩
                                   simp only [pStep, if_neg (show ¬ du = 0 by omega), if_neg (show ¬ ww = 47 by omega), if_neg (show ¬ ww = 44 by omega)]
                                   exact hM1)
                                | exact Or.inr ⟨rfl, by unfold pOk; omega, ⟨_, _, _, hM1⟩, hF1⟩))))
              · try (exfalso; omega)
                all_goals (
                  refine k_iload_n C dX8_takes__52 rfl ?_
                  refine k_if_eq (tgt := 63) C dX8_takes__53 (by decide) ⟨by omega, by omega⟩ (fun c53 => ?_) (fun c53 => ?_)
                  · try (exfalso; omega)
                    all_goals (
                      refine k_aload_n C dX8_takes__63 rfl ?_
                      refine k_get C (k := 9) inX8 (ci := 8) rfl (by decide) fl_X8_132 dX8_takes__64 (by repeat (first | exact hs_eq _ _ _ | refine hs_ne (by omega) ?_ | assumption)) rfl ?_
                      refine k_iconst C dX8_takes__67 ?_
                      refine k_icmp_ne (tgt := 98) C dX8_takes__68 (by decide) ⟨by omega, by omega⟩ ⟨by omega, by omega⟩ (fun c68 => ?_) (fun c68 => ?_)
                      · try (exfalso; omega)
                        all_goals (
                          refine k_aload_n C dX8_takes__98 rfl ?_
                          refine k_iload_n C dX8_takes__99 rfl ?_
                          refine k_callV C (n := 1) (as := [_]) (ct_X8_takesDigit l D tc base oo zrr hhi htx has hro st ln th re du hsh _ hM _ hw (by omega) (by omega) (hrk (by omega))) ml_X8_138 im_X8_takesDigit se_X8_takesDigit ini_X8 co_X8_takesDigit ⟨rfl, by decide, by decide, by decide +kernel⟩ rfl (ci := 8) rfl (by repeat (first | exact hs_eq _ _ _ | refine hs_ne (by omega) ?_ | assumption)) ⟨by decide, by decide⟩ rfl (Nat.le_of_ble_eq_true rfl) ⟨Nat.zero_le _, Nat.zero_le _⟩ dX8_takes__100 ?_
                          rintro _ _ (⟨rfl, hl, hM1, hF1⟩ | ⟨rfl, hl, hM1, hF1⟩)
                          · skip
                            refine k_zret C hr dX8_takes__103 (by omega) ?_
                            first
                              | (exfalso; omega)
                              | (have hd0 : du = 0 := by omega
                                 first
                                   | (refine Or.inl ⟨rfl, Or.inl ⟨hd0, hl⟩, ?_, hF1⟩
                                      simp only [pStep, if_pos hd0]
                                      exact hM1)
                                   | exact Or.inr ⟨rfl, by unfold pOk; omega, ⟨_, _, _, hM1⟩, hF1⟩)
                              | (have hc : du = 1 ∧ ww = 47 := by omega
                                 refine Or.inl ⟨rfl, by unfold pOk; omega, ?_, fun aaa haa => by repeat (first | rfl | refine hs_ne (by omega) ?_)⟩
                                 simp only [pStep, if_neg (show ¬ du = 0 by omega), if_pos hc.2]
                                 exact ⟨(by repeat (first | exact hs_eq _ _ _ | refine hs_ne (by omega) ?_ | assumption)), (by repeat (first | exact hs_eq _ _ _ | refine hs_ne (by omega) ?_ | assumption)), (by repeat (first | exact hs_eq _ _ _ | refine hs_ne (by omega) ?_ | assumption)), (by repeat (first | exact hs_eq _ _ _ | refine hs_ne (by omega) ?_ | assumption)), (by repeat (first | exact hs_eq _ _ _ | refine hs_ne (by omega) ?_ | assumption)), (by repeat (first | exact hs_eq _ _ _ | refine hs_ne (by omega) ?_ | assumption))⟩)
                              | (have hc : du = 2 ∧ ww = 44 := by omega
                                 refine Or.inl ⟨rfl, by unfold pOk; omega, ?_, fun aaa haa => by repeat (first | rfl | refine hs_ne (by omega) ?_)⟩
                                 simp only [pStep, if_neg (show ¬ du = 0 by omega), if_neg (show ¬ ww = 47 by omega), if_pos hc.2]
                                 exact ⟨(by repeat (first | exact hs_eq _ _ _ | refine hs_ne (by omega) ?_ | assumption)), (by repeat (first | exact hs_eq _ _ _ | refine hs_ne (by omega) ?_ | assumption)), (by repeat (first | exact hs_eq _ _ _ | refine hs_ne (by omega) ?_ | assumption)), (by repeat (first | exact hs_eq _ _ _ | refine hs_ne (by omega) ?_ | assumption)), (by repeat (first | exact hs_eq _ _ _ | refine hs_ne (by omega) ?_ | assumption)), (by repeat (first | exact hs_eq _ _ _ | refine hs_ne (by omega) ?_ | assumption))⟩)
                              | (have hc : 48 ≤ ww := hl.1
                                 refine Or.inl ⟨rfl, by unfold pOk; omega, ?_, hF1⟩
                                 simp only [pStep, if_neg (show ¬ du = 0 by omega), if_neg (show ¬ ww = 47 by omega), if_neg (show ¬ ww = 44 by omega)]
                                 exact hM1)
                              | exact Or.inr ⟨rfl, by unfold pOk; omega, ⟨_, _, _, hM1⟩, hF1⟩
                          · skip
                            refine k_zret C hr dX8_takes__103 (by omega) ?_
                            first
                              | (exfalso; omega)
                              | (have hd0 : du = 0 := by omega
                                 first
                                   | (refine Or.inl ⟨rfl, Or.inl ⟨hd0, hl⟩, ?_, hF1⟩
                                      simp only [pStep, if_pos hd0]
                                      exact hM1)
                                   | exact Or.inr ⟨rfl, by unfold pOk; omega, ⟨_, _, _, hM1⟩, hF1⟩)
                              | (have hc : du = 1 ∧ ww = 47 := by omega
                                 refine Or.inl ⟨rfl, by unfold pOk; omega, ?_, fun aaa haa => by repeat (first | rfl | refine hs_ne (by omega) ?_)⟩
                                 simp only [pStep, if_neg (show ¬ du = 0 by omega), if_pos hc.2]
                                 exact ⟨(by repeat (first | exact hs_eq _ _ _ | refine hs_ne (by omega) ?_ | assumption)), (by repeat (first | exact hs_eq _ _ _ | refine hs_ne (by omega) ?_ | assumption)), (by repeat (first | exact hs_eq _ _ _ | refine hs_ne (by omega) ?_ | assumption)), (by repeat (first | exact hs_eq _ _ _ | refine hs_ne (by omega) ?_ | assumption)), (by repeat (first | exact hs_eq _ _ _ | refine hs_ne (by omega) ?_ | assumption)), (by repeat (first | exact hs_eq _ _ _ | refine hs_ne (by omega) ?_ | assumption))⟩)
                              | (have hc : du = 2 ∧ ww = 44 := by omega
                                 refine Or.inl ⟨rfl, by unfold pOk; omega, ?_, fun aaa haa => by repeat (first | rfl | refine hs_ne (by omega) ?_)⟩
                                 simp only [pStep, if_neg (show ¬ du = 0 by omega), if_neg (show ¬ ww = 47 by omega), if_pos hc.2]
                                 exact ⟨(by repeat (first | exact hs_eq _ _ _ | refine hs_ne (by omega) ?_ | assumption)), (by repeat (first | exact hs_eq _ _ _ | refine hs_ne (by omega) ?_ | assumption)), (by repeat (first | exact hs_eq _ _ _ | refine hs_ne (by omega) ?_ | assumption)), (by repeat (first | exact hs_eq _ _ _ | refine hs_ne (by omega) ?_ | assumption)), (by repeat (first | exact hs_eq _ _ _ | refine hs_ne (by omega) ?_ | assumption)), (by repeat (first | exact hs_eq _ _ _ | refine hs_ne (by omega) ?_ | assumption))⟩)
                              | (have hc : 48 ≤ ww := hl.1
                                 refine Or.inl ⟨rfl, by unfold pOk; omega, ?_, hF1⟩
                                 simp only [pStep, if_neg (show ¬ du = 0 by omega), if_neg (show ¬ ww = 47 by omega), if_neg (show ¬ ww = 44 by omega)]
                                 exact hM1)
                              | exact Or.inr ⟨rfl, by unfold pOk; omega, ⟨_, _, _, hM1⟩, hF1⟩)
                      · try (exfalso; omega)
                        all_goals (
                          refine k_iload_n C dX8_takes__71 rfl ?_
                          refine k_bipush C dX8_takes__72 (by decide +kernel) ?_
                          refine k_icmp_ne (tgt := 98) C dX8_takes__74 (by decide) ⟨by omega, by omega⟩ ⟨by omega, by omega⟩ (fun c74 => ?_) (fun c74 => ?_)
                          · try (exfalso; omega)
                            all_goals (
                              refine k_aload_n C dX8_takes__98 rfl ?_
                              refine k_iload_n C dX8_takes__99 rfl ?_
                              refine k_callV C (n := 1) (as := [_]) (ct_X8_takesDigit l D tc base oo zrr hhi htx has hro st ln th re du hsh _ hM _ hw (by omega) (by omega) (hrk (by omega))) ml_X8_138 im_X8_takesDigit se_X8_takesDigit ini_X8 co_X8_takesDigit ⟨rfl, by decide, by decide, by decide +kernel⟩ rfl (ci := 8) rfl (by repeat (first | exact hs_eq _ _ _ | refine hs_ne (by omega) ?_ | assumption)) ⟨by decide, by decide⟩ rfl (Nat.le_of_ble_eq_true rfl) ⟨Nat.zero_le _, Nat.zero_le _⟩ dX8_takes__100 ?_
                              rintro _ _ (⟨rfl, hl, hM1, hF1⟩ | ⟨rfl, hl, hM1, hF1⟩)
                              · skip
                                refine k_zret C hr dX8_takes__103 (by omega) ?_
                                first
                                  | (exfalso; omega)
                                  | (have hd0 : du = 0 := by omega
                                     first
                                       | (refine Or.inl ⟨rfl, Or.inl ⟨hd0, hl⟩, ?_, hF1⟩
                                          simp only [pStep, if_pos hd0]
                                          exact hM1)
                                       | exact Or.inr ⟨rfl, by unfold pOk; omega, ⟨_, _, _, hM1⟩, hF1⟩)
                                  | (have hc : du = 1 ∧ ww = 47 := by omega
                                     refine Or.inl ⟨rfl, by unfold pOk; omega, ?_, fun aaa haa => by repeat (first | rfl | refine hs_ne (by omega) ?_)⟩
                                     simp only [pStep, if_neg (show ¬ du = 0 by omega), if_pos hc.2]
                                     exact ⟨(by repeat (first | exact hs_eq _ _ _ | refine hs_ne (by omega) ?_ | assumption)), (by repeat (first | exact hs_eq _ _ _ | refine hs_ne (by omega) ?_ | assumption)), (by repeat (first | exact hs_eq _ _ _ | refine hs_ne (by omega) ?_ | assumption)), (by repeat (first | exact hs_eq _ _ _ | refine hs_ne (by omega) ?_ | assumption)), (by repeat (first | exact hs_eq _ _ _ | refine hs_ne (by omega) ?_ | assumption)), (by repeat (first | exact hs_eq _ _ _ | refine hs_ne (by omega) ?_ | assumption))⟩)
                                  | (have hc : du = 2 ∧ ww = 44 := by omega
                                     refine Or.inl ⟨rfl, by unfold pOk; omega, ?_, fun aaa haa => by repeat (first | rfl | refine hs_ne (by omega) ?_)⟩
                                     simp only [pStep, if_neg (show ¬ du = 0 by omega), if_neg (show ¬ ww = 47 by omega), if_pos hc.2]
                                     exact ⟨(by repeat (first | exact hs_eq _ _ _ | refine hs_ne (by omega) ?_ | assumption)), (by repeat (first | exact hs_eq _ _ _ | refine hs_ne (by omega) ?_ | assumption)), (by repeat (first | exact hs_eq _ _ _ | refine hs_ne (by omega) ?_ | assumption)), (by repeat (first | exact hs_eq _ _ _ | refine hs_ne (by omega) ?_ | assumption)), (by repeat (first | exact hs_eq _ _ _ | refine hs_ne (by omega) ?_ | assumption)), (by repeat (first | exact hs_eq _ _ _ | refine hs_ne (by omega) ?_ | assumption))⟩)
                                  | (have hc : 48 ≤ ww := hl.1
                                     refine Or.inl ⟨rfl, by unfold pOk; omega, ?_, hF1⟩
                                     simp only [pStep, if_neg (show ¬ du = 0 by omega), if_neg (show ¬ ww = 47 by omega), if_neg (show ¬ ww = 44 by omega)]
                                     exact hM1)
                                  | exact Or.inr ⟨rfl, by unfold pOk; omega, ⟨_, _, _, hM1⟩, hF1⟩
                              · skip
                                refine k_zret C hr dX8_takes__103 (by omega) ?_
                                first
                                  | (exfalso; omega)
                                  | (have hd0 : du = 0 := by omega
                                     first
                                       | (refine Or.inl ⟨rfl, Or.inl ⟨hd0, hl⟩, ?_, hF1⟩
                                          simp only [pStep, if_pos hd0]
                                          exact hM1)
                                       | exact Or.inr ⟨rfl, by unfold pOk; omega, ⟨_, _, _, hM1⟩, hF1⟩)
                                  | (have hc : du = 1 ∧ ww = 47 := by omega
                                     refine Or.inl ⟨rfl, by unfold pOk; omega, ?_, fun aaa haa => by repeat (first | rfl | refine hs_ne (by omega) ?_)⟩
                                     simp only [pStep, if_neg (show ¬ du = 0 by omega), if_pos hc.2]
                                     exact ⟨(by repeat (first | exact hs_eq _ _ _ | refine hs_ne (by omega) ?_ | assumption)), (by repeat (first | exact hs_eq _ _ _ | refine hs_ne (by omega) ?_ | assumption)), (by repeat (first | exact hs_eq _ _ _ | refine hs_ne (by omega) ?_ | assumption)), (by repeat (first | exact hs_eq _ _ _ | refine hs_ne (by omega) ?_ | assumption)), (by repeat (first | exact hs_eq _ _ _ | refine hs_ne (by omega) ?_ | assumption)), (by repeat (first | exact hs_eq _ _ _ | refine hs_ne (by omega) ?_ | assumption))⟩)
                                  | (have hc : du = 2 ∧ ww = 44 := by omega
                                     refine Or.inl ⟨rfl, by unfold pOk; omega, ?_, fun aaa haa => by repeat (first | rfl | refine hs_ne (by omega) ?_)⟩
                                     simp only [pStep, if_neg (show ¬ du = 0 by omega), if_neg (show ¬ ww = 47 by omega), if_pos hc.2]
                                     exact ⟨(by repeat (first | exact hs_eq _ _ _ | refine hs_ne (by omega) ?_ | assumption)), (by repeat (first | exact hs_eq _ _ _ | refine hs_ne (by omega) ?_ | assumption)), (by repeat (first | exact hs_eq _ _ _ | refine hs_ne (by omega) ?_ | assumption)), (by repeat (first | exact hs_eq _ _ _ | refine hs_ne (by omega) ?_ | assumption)), (by repeat (first | exact hs_eq _ _ _ | refine hs_ne (by omega) ?_ | assumption)), (by repeat (first | exact hs_eq _ _ _ | refine hs_ne (by omega) ?_ | assumption))⟩)
                                  | (have hc : 48 ≤ ww := hl.1
                                     refine Or.inl ⟨rfl, by unfold pOk; omega, ?_, hF1⟩
                                     simp only [pStep, if_neg (show ¬ du = 0 by omega), if_neg (show ¬ ww = 47 by omega), if_neg (show ¬ ww = 44 by omega)]
                                     exact hM1)
                                  | exact Or.inr ⟨rfl, by unfold pOk; omega, ⟨_, _, _, hM1⟩, hF1⟩)
                          · try (exfalso; omega)
                            all_goals (
                              refine k_iload_n C dX8_takes__77 rfl ?_
                              refine k_if_eq (tgt := 98) C dX8_takes__78 (by decide) ⟨by omega, by omega⟩ (fun c78 => ?_) (fun c78 => ?_)
                              · try (exfalso; omega)
                                all_goals (
                                  refine k_aload_n C dX8_takes__98 rfl ?_
                                  refine k_iload_n C dX8_takes__99 rfl ?_
                                  refine k_callV C (n := 1) (as := [_]) (ct_X8_takesDigit l D tc base oo zrr hhi htx has hro st ln th re du hsh _ hM _ hw (by omega) (by omega) (hrk (by omega))) ml_X8_138 im_X8_takesDigit se_X8_takesDigit ini_X8 co_X8_takesDigit ⟨rfl, by decide, by decide, by decide +kernel⟩ rfl (ci := 8) rfl (by repeat (first | exact hs_eq _ _ _ | refine hs_ne (by omega) ?_ | assumption)) ⟨by decide, by decide⟩ rfl (Nat.le_of_ble_eq_true rfl) ⟨Nat.zero_le _, Nat.zero_le _⟩ dX8_takes__100 ?_
                                  rintro _ _ (⟨rfl, hl, hM1, hF1⟩ | ⟨rfl, hl, hM1, hF1⟩)
                                  · skip
                                    refine k_zret C hr dX8_takes__103 (by omega) ?_
                                    first
                                      | (exfalso; omega)
                                      | (have hd0 : du = 0 := by omega
                                         first
                                           | (refine Or.inl ⟨rfl, Or.inl ⟨hd0, hl⟩, ?_, hF1⟩
                                              simp only [pStep, if_pos hd0]
                                              exact hM1)
                                           | exact Or.inr ⟨rfl, by unfold pOk; omega, ⟨_, _, _, hM1⟩, hF1⟩)
                                      | (have hc : du = 1 ∧ ww = 47 := by omega
                                         refine Or.inl ⟨rfl, by unfold pOk; omega, ?_, fun aaa haa => by repeat (first | rfl | refine hs_ne (by omega) ?_)⟩
                                         simp only [pStep, if_neg (show ¬ du = 0 by omega), if_pos hc.2]
                                         exact ⟨(by repeat (first | exact hs_eq _ _ _ | refine hs_ne (by omega) ?_ | assumption)), (by repeat (first | exact hs_eq _ _ _ | refine hs_ne (by omega) ?_ | assumption)), (by repeat (first | exact hs_eq _ _ _ | refine hs_ne (by omega) ?_ | assumption)), (by repeat (first | exact hs_eq _ _ _ | refine hs_ne (by omega) ?_ | assumption)), (by repeat (first | exact hs_eq _ _ _ | refine hs_ne (by omega) ?_ | assumption)), (by repeat (first | exact hs_eq _ _ _ | refine hs_ne (by omega) ?_ | assumption))⟩)
                                      | (have hc : du = 2 ∧ ww = 44 := by omega
                                         refine Or.inl ⟨rfl, by unfold pOk; omega, ?_, fun aaa haa => by repeat (first | rfl | refine hs_ne (by omega) ?_)⟩
                                         simp only [pStep, if_neg (show ¬ du = 0 by omega), if_neg (show ¬ ww = 47 by omega), if_pos hc.2]
                                         exact ⟨(by repeat (first | exact hs_eq _ _ _ | refine hs_ne (by omega) ?_ | assumption)), (by repeat (first | exact hs_eq _ _ _ | refine hs_ne (by omega) ?_ | assumption)), (by repeat (first | exact hs_eq _ _ _ | refine hs_ne (by omega) ?_ | assumption)), (by repeat (first | exact hs_eq _ _ _ | refine hs_ne (by omega) ?_ | assumption)), (by repeat (first | exact hs_eq _ _ _ | refine hs_ne (by omega) ?_ | assumption)), (by repeat (first | exact hs_eq _ _ _ | refine hs_ne (by omega) ?_ | assumption))⟩)
                                      | (have hc : 48 ≤ ww := hl.1
                                         refine Or.inl ⟨rfl, by unfold pOk; omega, ?_, hF1⟩
                                         simp only [pStep, if_neg (show ¬ du = 0 by omega), if_neg (show ¬ ww = 47 by omega), if_neg (show ¬ ww = 44 by omega)]
                                         exact hM1)
                                      | exact Or.inr ⟨rfl, by unfold pOk; omega, ⟨_, _, _, hM1⟩, hF1⟩
                                  · skip
                                    refine k_zret C hr dX8_takes__103 (by omega) ?_
                                    first
                                      | (exfalso; omega)
                                      | (have hd0 : du = 0 := by omega
                                         first
                                           | (refine Or.inl ⟨rfl, Or.inl ⟨hd0, hl⟩, ?_, hF1⟩
                                              simp only [pStep, if_pos hd0]
                                              exact hM1)
                                           | exact Or.inr ⟨rfl, by unfold pOk; omega, ⟨_, _, _, hM1⟩, hF1⟩)
                                      | (have hc : du = 1 ∧ ww = 47 := by omega
                                         refine Or.inl ⟨rfl, by unfold pOk; omega, ?_, fun aaa haa => by repeat (first | rfl | refine hs_ne (by omega) ?_)⟩
                                         simp only [pStep, if_neg (show ¬ du = 0 by omega), if_pos hc.2]
                                         exact ⟨(by repeat (first | exact hs_eq _ _ _ | refine hs_ne (by omega) ?_ | assumption)), (by repeat (first | exact hs_eq _ _ _ | refine hs_ne (by omega) ?_ | assumption)), (by repeat (first | exact hs_eq _ _ _ | refine hs_ne (by omega) ?_ | assumption)), (by repeat (first | exact hs_eq _ _ _ | refine hs_ne (by omega) ?_ | assumption)), (by repeat (first | exact hs_eq _ _ _ | refine hs_ne (by omega) ?_ | assumption)), (by repeat (first | exact hs_eq _ _ _ | refine hs_ne (by omega) ?_ | assumption))⟩)
                                      | (have hc : du = 2 ∧ ww = 44 := by omega
                                         refine Or.inl ⟨rfl, by unfold pOk; omega, ?_, fun aaa haa => by repeat (first | rfl | refine hs_ne (by omega) ?_)⟩
                                         simp only [pStep, if_neg (show ¬ du = 0 by omega), if_neg (show ¬ ww = 47 by omega), if_pos hc.2]
                                         exact ⟨(by repeat (first | exact hs_eq _ _ _ | refine hs_ne (by omega) ?_ | assumption)), (by repeat (first | exact hs_eq _ _ _ | refine hs_ne (by omega) ?_ | assumption)), (by repeat (first | exact hs_eq _ _ _ | refine hs_ne (by omega) ?_ | assumption)), (by repeat (first | exact hs_eq _ _ _ | refine hs_ne (by omega) ?_ | assumption)), (by repeat (first | exact hs_eq _ _ _ | refine hs_ne (by omega) ?_ | assumption)), (by repeat (first | exact hs_eq _ _ _ | refine hs_ne (by omega) ?_ | assumption))⟩)
                                      | (have hc : 48 ≤ ww := hl.1
                                         refine Or.inl ⟨rfl, by unfold pOk; omega, ?_, hF1⟩
                                         simp only [pStep, if_neg (show ¬ du = 0 by omega), if_neg (show ¬ ww = 47 by omega), if_neg (show ¬ ww = 44 by omega)]
                                         exact hM1)
                                      | exact Or.inr ⟨rfl, by unfold pOk; omega, ⟨_, _, _, hM1⟩, hF1⟩)
                              · try (exfalso; omega)
                                all_goals (
                                  refine k_aload_n C dX8_takes__81 rfl ?_
                                  refine k_dup C dX8_takes__82 rfl ?_
                                  refine k_get C (k := 8) inX8 (ci := 8) rfl (by decide) fl_X8_129 dX8_takes__83 (by repeat (first | exact hs_eq _ _ _ | refine hs_ne (by omega) ?_ | assumption)) rfl ?_
                                  refine k_iconst C dX8_takes__86 ?_
                                  refine k_iadd C dX8_takes__87 ?_
                                  refine k_put C (k := 8) inX8 tyX8_ok nmX8 (ci := 8) rfl (by decide) fl_X8_129 rfl (Nat.le_of_ble_eq_true rfl) dX8_takes__88 (by repeat (first | exact hs_eq _ _ _ | refine hs_ne (by omega) ?_ | assumption)) ?_
                                  refine k_aload_n C dX8_takes__91 rfl ?_
                                  refine k_iconst C dX8_takes__92 ?_
                                  refine k_put C (k := 9) inX8 tyX8_ok nmX8 (ci := 8) rfl (by decide) fl_X8_132 rfl (Nat.le_of_ble_eq_true rfl) dX8_takes__93 (by repeat (first | exact hs_eq _ _ _ | refine hs_ne (by omega) ?_ | assumption)) ?_
                                  refine k_iconst C dX8_takes__96 ?_
                                  refine k_zret C hr dX8_takes__97 (by omega) ?_
                                  first
                                    | (exfalso; omega)
                                    | (have hd0 : du = 0 := by omega
                                       first
                                         | (refine Or.inl ⟨rfl, Or.inl ⟨hd0, hl⟩, ?_, hF1⟩
                                            simp only [pStep, if_pos hd0]
                                            exact hM1)
                                         | exact Or.inr ⟨rfl, by unfold pOk; omega, ⟨_, _, _, hM1⟩, hF1⟩)
                                    | (have hc : du = 1 ∧ ww = 47 := by omega
                                       refine Or.inl ⟨rfl, by unfold pOk; omega, ?_, fun aaa haa => by repeat (first | rfl | refine hs_ne (by omega) ?_)⟩
                                       simp only [pStep, if_neg (show ¬ du = 0 by omega), if_pos hc.2]
                                       exact ⟨(by repeat (first | exact hs_eq _ _ _ | refine hs_ne (by omega) ?_ | assumption)), (by repeat (first | exact hs_eq _ _ _ | refine hs_ne (by omega) ?_ | assumption)), (by repeat (first | exact hs_eq _ _ _ | refine hs_ne (by omega) ?_ | assumption)), (by repeat (first | exact hs_eq _ _ _ | refine hs_ne (by omega) ?_ | assumption)), (by repeat (first | exact hs_eq _ _ _ | refine hs_ne (by omega) ?_ | assumption)), (by repeat (first | exact hs_eq _ _ _ | refine hs_ne (by omega) ?_ | assumption))⟩)
                                    | (have hc : du = 2 ∧ ww = 44 := by omega
                                       refine Or.inl ⟨rfl, by unfold pOk; omega, ?_, fun aaa haa => by repeat (first | rfl | refine hs_ne (by omega) ?_)⟩
                                       simp only [pStep, if_neg (show ¬ du = 0 by omega), if_neg (show ¬ ww = 47 by omega), if_pos hc.2]
                                       exact ⟨(by repeat (first | exact hs_eq _ _ _ | refine hs_ne (by omega) ?_ | assumption)), (by repeat (first | exact hs_eq _ _ _ | refine hs_ne (by omega) ?_ | assumption)), (by repeat (first | exact hs_eq _ _ _ | refine hs_ne (by omega) ?_ | assumption)), (by repeat (first | exact hs_eq _ _ _ | refine hs_ne (by omega) ?_ | assumption)), (by repeat (first | exact hs_eq _ _ _ | refine hs_ne (by omega) ?_ | assumption)), (by repeat (first | exact hs_eq _ _ _ | refine hs_ne (by omega) ?_ | assumption))⟩)
                                    | (have hc : 48 ≤ ww := hl.1
                                       refine Or.inl ⟨rfl, by unfold pOk; omega, ?_, hF1⟩
                                       simp only [pStep, if_neg (show ¬ du = 0 by omega), if_neg (show ¬ ww = 47 by omega), if_neg (show ¬ ww = 44 by omega)]
                                       exact hM1)
                                    | exact Or.inr ⟨rfl, by unfold pOk; omega, ⟨_, _, _, hM1⟩, hF1⟩))))
                  · try (exfalso; omega)
                    all_goals (
                      refine k_aload_n C dX8_takes__56 rfl ?_
                      refine k_iconst C dX8_takes__57 ?_
                      refine k_put C (k := 9) inX8 tyX8_ok nmX8 (ci := 8) rfl (by decide) fl_X8_132 rfl (Nat.le_of_ble_eq_true rfl) dX8_takes__58 (by repeat (first | exact hs_eq _ _ _ | refine hs_ne (by omega) ?_ | assumption)) ?_
                      refine k_iconst C dX8_takes__61 ?_
                      refine k_zret C hr dX8_takes__62 (by omega) ?_
                      first
                        | (exfalso; omega)
                        | (have hd0 : du = 0 := by omega
                           first
                             | (refine Or.inl ⟨rfl, Or.inl ⟨hd0, hl⟩, ?_, hF1⟩
                                simp only [pStep, if_pos hd0]
                                exact hM1)
                             | exact Or.inr ⟨rfl, by unfold pOk; omega, ⟨_, _, _, hM1⟩, hF1⟩)
                        | (have hc : du = 1 ∧ ww = 47 := by omega
                           refine Or.inl ⟨rfl, by unfold pOk; omega, ?_, fun aaa haa => by repeat (first | rfl | refine hs_ne (by omega) ?_)⟩
                           simp only [pStep, if_neg (show ¬ du = 0 by omega), if_pos hc.2]
                           exact ⟨(by repeat (first | exact hs_eq _ _ _ | refine hs_ne (by omega) ?_ | assumption)), (by repeat (first | exact hs_eq _ _ _ | refine hs_ne (by omega) ?_ | assumption)), (by repeat (first | exact hs_eq _ _ _ | refine hs_ne (by omega) ?_ | assumption)), (by repeat (first | exact hs_eq _ _ _ | refine hs_ne (by omega) ?_ | assumption)), (by repeat (first | exact hs_eq _ _ _ | refine hs_ne (by omega) ?_ | assumption)), (by repeat (first | exact hs_eq _ _ _ | refine hs_ne (by omega) ?_ | assumption))⟩)
                        | (have hc : du = 2 ∧ ww = 44 := by omega
                           refine Or.inl ⟨rfl, by unfold pOk; omega, ?_, fun aaa haa => by repeat (first | rfl | refine hs_ne (by omega) ?_)⟩
                           simp only [pStep, if_neg (show ¬ du = 0 by omega), if_neg (show ¬ ww = 47 by omega), if_pos hc.2]
                           exact ⟨(by repeat (first | exact hs_eq _ _ _ | refine hs_ne (by omega) ?_ | assumption)), (by repeat (first | exact hs_eq _ _ _ | refine hs_ne (by omega) ?_ | assumption)), (by repeat (first | exact hs_eq _ _ _ | refine hs_ne (by omega) ?_ | assumption)), (by repeat (first | exact hs_eq _ _ _ | refine hs_ne (by omega) ?_ | assumption)), (by repeat (first | exact hs_eq _ _ _ | refine hs_ne (by omega) ?_ | assumption)), (by repeat (first | exact hs_eq _ _ _ | refine hs_ne (by omega) ?_ | assumption))⟩)
                        | (have hc : 48 ≤ ww := hl.1
                           refine Or.inl ⟨rfl, by unfold pOk; omega, ?_, hF1⟩
                           simp only [pStep, if_neg (show ¬ du = 0 by omega), if_neg (show ¬ ww = 47 by omega), if_neg (show ¬ ww = 44 by omega)]
                           exact hM1)
                        | exact Or.inr ⟨rfl, by unfold pOk; omega, ⟨_, _, _, hM1⟩, hF1⟩))))
      · try (exfalso; omega)
        all_goals (
          refine k_iconst C dX8_takes__32 ?_
          refine k_goto (tgt := 37) C dX8_takes__33 (by decide) ?_
          refine k_istore_n C dX8_takes__37 (by decide) rfl ?_
          refine k_aload_n C dX8_takes__38 rfl ?_
          refine k_get C (k := 9) inX8 (ci := 8) rfl (by decide) fl_X8_132 dX8_takes__39 (by repeat (first | exact hs_eq _ _ _ | refine hs_ne (by omega) ?_ | assumption)) rfl ?_
          refine k_iconst C dX8_takes__42 ?_
          refine k_icmp_ne (tgt := 63) C dX8_takes__43 (by decide) ⟨by omega, by omega⟩ ⟨by omega, by omega⟩ (fun c43 => ?_) (fun c43 => ?_)
          · try (exfalso; omega)
            all_goals (
              refine k_aload_n C dX8_takes__63 rfl ?_
              refine k_get C (k := 9) inX8 (ci := 8) rfl (by decide) fl_X8_132 dX8_takes__64 (by repeat (first | exact hs_eq _ _ _ | refine hs_ne (by omega) ?_ | assumption)) rfl ?_
              refine k_iconst C dX8_takes__67 ?_
              refine k_icmp_ne (tgt := 98) C dX8_takes__68 (by decide) ⟨by omega, by omega⟩ ⟨by omega, by omega⟩ (fun c68 => ?_) (fun c68 => ?_)
              · try (exfalso; omega)
                all_goals (
                  refine k_aload_n C dX8_takes__98 rfl ?_
                  refine k_iload_n C dX8_takes__99 rfl ?_
                  refine k_callV C (n := 1) (as := [_]) (ct_X8_takesDigit l D tc base oo zrr hhi htx has hro st ln th re du hsh _ hM _ hw (by omega) (by omega) (hrk (by omega))) ml_X8_138 im_X8_takesDigit se_X8_takesDigit ini_X8 co_X8_takesDigit ⟨rfl, by decide, by decide, by decide +kernel⟩ rfl (ci := 8) rfl (by repeat (first | exact hs_eq _ _ _ | refine hs_ne (by omega) ?_ | assumption)) ⟨by decide, by decide⟩ rfl (Nat.le_of_ble_eq_true rfl) ⟨Nat.zero_le _, Nat.zero_le _⟩ dX8_takes__100 ?_
                  rintro _ _ (⟨rfl, hl, hM1, hF1⟩ | ⟨rfl, hl, hM1, hF1⟩)
                  · skip
                    refine k_zret C hr dX8_takes__103 (by omega) ?_
                    first
                      | (exfalso; omega)
                      | (have hd0 : du = 0 := by omega
                         first
                           | (refine Or.inl ⟨rfl, Or.inl ⟨hd0, hl⟩, ?_, hF1⟩
                              simp only [pStep, if_pos hd0]
                              exact hM1)
                           | exact Or.inr ⟨rfl, by unfold pOk; omega, ⟨_, _, _, hM1⟩, hF1⟩)
                      | (have hc : du = 1 ∧ ww = 47 := by omega
                         refine Or.inl ⟨rfl, by unfold pOk; omega, ?_, fun aaa haa => by repeat (first | rfl | refine hs_ne (by omega) ?_)⟩
                         simp only [pStep, if_neg (show ¬ du = 0 by omega), if_pos hc.2]
                         exact ⟨(by repeat (first | exact hs_eq _ _ _ | refine hs_ne (by omega) ?_ | assumption)), (by repeat (first | exact hs_eq _ _ _ | refine hs_ne (by omega) ?_ | assumption)), (by repeat (first | exact hs_eq _ _ _ | refine hs_ne (by omega) ?_ | assumption)), (by repeat (first | exact hs_eq _ _ _ | refine hs_ne (by omega) ?_ | assumption)), (by repeat (first | exact hs_eq _ _ _ | refine hs_ne (by omega) ?_ | assumption)), (by repeat (first | exact hs_eq _ _ _ | refine hs_ne (by omega) ?_ | assumption))⟩)
                      | (have hc : du = 2 ∧ ww = 44 := by omega
                         refine Or.inl ⟨rfl, by unfold pOk; omega, ?_, fun aaa haa => by repeat (first | rfl | refine hs_ne (by omega) ?_)⟩
                         simp only [pStep, if_neg (show ¬ du = 0 by omega), if_neg (show ¬ ww = 47 by omega), if_pos hc.2]
                         exact ⟨(by repeat (first | exact hs_eq _ _ _ | refine hs_ne (by omega) ?_ | assumption)), (by repeat (first | exact hs_eq _ _ _ | refine hs_ne (by omega) ?_ | assumption)), (by repeat (first | exact hs_eq _ _ _ | refine hs_ne (by omega) ?_ | assumption)), (by repeat (first | exact hs_eq _ _ _ | refine hs_ne (by omega) ?_ | assumption)), (by repeat (first | exact hs_eq _ _ _ | refine hs_ne (by omega) ?_ | assumption)), (by repeat (first | exact hs_eq _ _ _ | refine hs_ne (by omega) ?_ | assumption))⟩)
                      | (have hc : 48 ≤ ww := hl.1
                         refine Or.inl ⟨rfl, by unfold pOk; omega, ?_, hF1⟩
                         simp only [pStep, if_neg (show ¬ du = 0 by omega), if_neg (show ¬ ww = 47 by omega), if_neg (show ¬ ww = 44 by omega)]
                         exact hM1)
                      | exact Or.inr ⟨rfl, by unfold pOk; omega, ⟨_, _, _, hM1⟩, hF1⟩
                  · skip
                    refine k_zret C hr dX8_takes__103 (by omega) ?_
                    first
                      | (exfalso; omega)
                      | (have hd0 : du = 0 := by omega
                         first
                           | (refine Or.inl ⟨rfl, Or.inl ⟨hd0, hl⟩, ?_, hF1⟩
                              simp only [pStep, if_pos hd0]
                              exact hM1)
                           | exact Or.inr ⟨rfl, by unfold pOk; omega, ⟨_, _, _, hM1⟩, hF1⟩)
                      | (have hc : du = 1 ∧ ww = 47 := by omega
                         refine Or.inl ⟨rfl, by unfold pOk; omega, ?_, fun aaa haa => by repeat (first | rfl | refine hs_ne (by omega) ?_)⟩
                         simp only [pStep, if_neg (show ¬ du = 0 by omega), if_pos hc.2]
                         exact ⟨(by repeat (first | exact hs_eq _ _ _ | refine hs_ne (by omega) ?_ | assumption)), (by repeat (first | exact hs_eq _ _ _ | refine hs_ne (by omega) ?_ | assumption)), (by repeat (first | exact hs_eq _ _ _ | refine hs_ne (by omega) ?_ | assumption)), (by repeat (first | exact hs_eq _ _ _ | refine hs_ne (by omega) ?_ | assumption)), (by repeat (first | exact hs_eq _ _ _ | refine hs_ne (by omega) ?_ | assumption)), (by repeat (first | exact hs_eq _ _ _ | refine hs_ne (by omega) ?_ | assumption))⟩)
                      | (have hc : du = 2 ∧ ww = 44 := by omega
                         refine Or.inl ⟨rfl, by unfold pOk; omega, ?_, fun aaa haa => by repeat (first | rfl | refine hs_ne (by omega) ?_)⟩
                         simp only [pStep, if_neg (show ¬ du = 0 by omega), if_neg (show ¬ ww = 47 by omega), if_pos hc.2]
                         exact ⟨(by repeat (first | exact hs_eq _ _ _ | refine hs_ne (by omega) ?_ | assumption)), (by repeat (first | exact hs_eq _ _ _ | refine hs_ne (by omega) ?_ | assumption)), (by repeat (first | exact hs_eq _ _ _ | refine hs_ne (by omega) ?_ | assumption)), (by repeat (first | exact hs_eq _ _ _ | refine hs_ne (by omega) ?_ | assumption)), (by repeat (first | exact hs_eq _ _ _ | refine hs_ne (by omega) ?_ | assumption)), (by repeat (first | exact hs_eq _ _ _ | refine hs_ne (by omega) ?_ | assumption))⟩)
                      | (have hc : 48 ≤ ww := hl.1
                         refine Or.inl ⟨rfl, by unfold pOk; omega, ?_, hF1⟩
                         simp only [pStep, if_neg (show ¬ du = 0 by omega), if_neg (show ¬ ww = 47 by omega), if_neg (show ¬ ww = 44 by omega)]
                         exact hM1)
                      | exact Or.inr ⟨rfl, by unfold pOk; omega, ⟨_, _, _, hM1⟩, hF1⟩)
              · try (exfalso; omega)
                all_goals (
                  refine k_iload_n C dX8_takes__71 rfl ?_
                  refine k_bipush C dX8_takes__72 (by decide +kernel) ?_
                  refine k_icmp_ne (tgt := 98) C dX8_takes__74 (by decide) ⟨by omega, by omega⟩ ⟨by omega, by omega⟩ (fun c74 => ?_) (fun c74 => ?_)
                  · try (exfalso; omega)
                    all_goals (
                      refine k_aload_n C dX8_takes__98 rfl ?_
                      refine k_iload_n C dX8_takes__99 rfl ?_
                      refine k_callV C (n := 1) (as := [_]) (ct_X8_takesDigit l D tc base oo zrr hhi htx has hro st ln th re du hsh _ hM _ hw (by omega) (by omega) (hrk (by omega))) ml_X8_138 im_X8_takesDigit se_X8_takesDigit ini_X8 co_X8_takesDigit ⟨rfl, by decide, by decide, by decide +kernel⟩ rfl (ci := 8) rfl (by repeat (first | exact hs_eq _ _ _ | refine hs_ne (by omega) ?_ | assumption)) ⟨by decide, by decide⟩ rfl (Nat.le_of_ble_eq_true rfl) ⟨Nat.zero_le _, Nat.zero_le _⟩ dX8_takes__100 ?_
                      rintro _ _ (⟨rfl, hl, hM1, hF1⟩ | ⟨rfl, hl, hM1, hF1⟩)
                      · skip
                        refine k_zret C hr dX8_takes__103 (by omega) ?_
                        first
                          | (exfalso; omega)
                          | (have hd0 : du = 0 := by omega
                             first
                               | (refine Or.inl ⟨rfl, Or.inl ⟨hd0, hl⟩, ?_, hF1⟩
                                  simp only [pStep, if_pos hd0]
                                  exact hM1)
                               | exact Or.inr ⟨rfl, by unfold pOk; omega, ⟨_, _, _, hM1⟩, hF1⟩)
                          | (have hc : du = 1 ∧ ww = 47 := by omega
                             refine Or.inl ⟨rfl, by unfold pOk; omega, ?_, fun aaa haa => by repeat (first | rfl | refine hs_ne (by omega) ?_)⟩
                             simp only [pStep, if_neg (show ¬ du = 0 by omega), if_pos hc.2]
                             exact ⟨(by repeat (first | exact hs_eq _ _ _ | refine hs_ne (by omega) ?_ | assumption)), (by repeat (first | exact hs_eq _ _ _ | refine hs_ne (by omega) ?_ | assumption)), (by repeat (first | exact hs_eq _ _ _ | refine hs_ne (by omega) ?_ | assumption)), (by repeat (first | exact hs_eq _ _ _ | refine hs_ne (by omega) ?_ | assumption)), (by repeat (first | exact hs_eq _ _ _ | refine hs_ne (by omega) ?_ | assumption)), (by repeat (first | exact hs_eq _ _ _ | refine hs_ne (by omega) ?_ | assumption))⟩)
                          | (have hc : du = 2 ∧ ww = 44 := by omega
                             refine Or.inl ⟨rfl, by unfold pOk; omega, ?_, fun aaa haa => by repeat (first | rfl | refine hs_ne (by omega) ?_)⟩
                             simp only [pStep, if_neg (show ¬ du = 0 by omega), if_neg (show ¬ ww = 47 by omega), if_pos hc.2]
                             exact ⟨(by repeat (first | exact hs_eq _ _ _ | refine hs_ne (by omega) ?_ | assumption)), (by repeat (first | exact hs_eq _ _ _ | refine hs_ne (by omega) ?_ | assumption)), (by repeat (first | exact hs_eq _ _ _ | refine hs_ne (by omega) ?_ | assumption)), (by repeat (first | exact hs_eq _ _ _ | refine hs_ne (by omega) ?_ | assumption)), (by repeat (first | exact hs_eq _ _ _ | refine hs_ne (by omega) ?_ | assumption)), (by repeat (first | exact hs_eq _ _ _ | refine hs_ne (by omega) ?_ | assumption))⟩)
                          | (have hc : 48 ≤ ww := hl.1
                             refine Or.inl ⟨rfl, by unfold pOk; omega, ?_, hF1⟩
                             simp only [pStep, if_neg (show ¬ du = 0 by omega), if_neg (show ¬ ww = 47 by omega), if_neg (show ¬ ww = 44 by omega)]
                             exact hM1)
                          | exact Or.inr ⟨rfl, by unfold pOk; omega, ⟨_, _, _, hM1⟩, hF1⟩
                      · skip
                        refine k_zret C hr dX8_takes__103 (by omega) ?_
                        first
                          | (exfalso; omega)
                          | (have hd0 : du = 0 := by omega
                             first
                               | (refine Or.inl ⟨rfl, Or.inl ⟨hd0, hl⟩, ?_, hF1⟩
                                  simp only [pStep, if_pos hd0]
                                  exact hM1)
                               | exact Or.inr ⟨rfl, by unfold pOk; omega, ⟨_, _, _, hM1⟩, hF1⟩)
                          | (have hc : du = 1 ∧ ww = 47 := by omega
                             refine Or.inl ⟨rfl, by unfold pOk; omega, ?_, fun aaa haa => by repeat (first | rfl | refine hs_ne (by omega) ?_)⟩
                             simp only [pStep, if_neg (show ¬ du = 0 by omega), if_pos hc.2]
                             exact ⟨(by repeat (first | exact hs_eq _ _ _ | refine hs_ne (by omega) ?_ | assumption)), (by repeat (first | exact hs_eq _ _ _ | refine hs_ne (by omega) ?_ | assumption)), (by repeat (first | exact hs_eq _ _ _ | refine hs_ne (by omega) ?_ | assumption)), (by repeat (first | exact hs_eq _ _ _ | refine hs_ne (by omega) ?_ | assumption)), (by repeat (first | exact hs_eq _ _ _ | refine hs_ne (by omega) ?_ | assumption)), (by repeat (first | exact hs_eq _ _ _ | refine hs_ne (by omega) ?_ | assumption))⟩)
                          | (have hc : du = 2 ∧ ww = 44 := by omega
                             refine Or.inl ⟨rfl, by unfold pOk; omega, ?_, fun aaa haa => by repeat (first | rfl | refine hs_ne (by omega) ?_)⟩
                             simp only [pStep, if_neg (show ¬ du = 0 by omega), if_neg (show ¬ ww = 47 by omega), if_pos hc.2]
                             exact ⟨(by repeat (first | exact hs_eq _ _ _ | refine hs_ne (by omega) ?_ | assumption)), (by repeat (first | exact hs_eq _ _ _ | refine hs_ne (by omega) ?_ | assumption)), (by repeat (first | exact hs_eq _ _ _ | refine hs_ne (by omega) ?_ | assumption)), (by repeat (first | exact hs_eq _ _ _ | refine hs_ne (by omega) ?_ | assumption)), (by repeat (first | exact hs_eq _ _ _ | refine hs_ne (by omega) ?_ | assumption)), (by repeat (first | exact hs_eq _ _ _ | refine hs_ne (by omega) ?_ | assumption))⟩)
                          | (have hc : 48 ≤ ww := hl.1
                             refine Or.inl ⟨rfl, by unfold pOk; omega, ?_, hF1⟩
                             simp only [pStep, if_neg (show ¬ du = 0 by omega), if_neg (show ¬ ww = 47 by omega), if_neg (show ¬ ww = 44 by omega)]
                             exact hM1)
                          | exact Or.inr ⟨rfl, by unfold pOk; omega, ⟨_, _, _, hM1⟩, hF1⟩)
                  · try (exfalso; omega)
                    all_goals (
                      refine k_iload_n C dX8_takes__77 rfl ?_
                      refine k_if_eq (tgt := 98) C dX8_takes__78 (by decide) ⟨by omega, by omega⟩ (fun c78 => ?_) (fun c78 => ?_)
                      · try (exfalso; omega)
                        all_goals (
                          refine k_aload_n C dX8_takes__98 rfl ?_
                          refine k_iload_n C dX8_takes__99 rfl ?_
                          refine k_callV C (n := 1) (as := [_]) (ct_X8_takesDigit l D tc base oo zrr hhi htx has hro st ln th re du hsh _ hM _ hw (by omega) (by omega) (hrk (by omega))) ml_X8_138 im_X8_takesDigit se_X8_takesDigit ini_X8 co_X8_takesDigit ⟨rfl, by decide, by decide, by decide +kernel⟩ rfl (ci := 8) rfl (by repeat (first | exact hs_eq _ _ _ | refine hs_ne (by omega) ?_ | assumption)) ⟨by decide, by decide⟩ rfl (Nat.le_of_ble_eq_true rfl) ⟨Nat.zero_le _, Nat.zero_le _⟩ dX8_takes__100 ?_
                          rintro _ _ (⟨rfl, hl, hM1, hF1⟩ | ⟨rfl, hl, hM1, hF1⟩)
                          · skip
                            refine k_zret C hr dX8_takes__103 (by omega) ?_
                            first
                              | (exfalso; omega)
                              | (have hd0 : du = 0 := by omega
                                 first
                                   | (refine Or.inl ⟨rfl, Or.inl ⟨hd0, hl⟩, ?_, hF1⟩
                                      simp only [pStep, if_pos hd0]
                                      exact hM1)
                                   | exact Or.inr ⟨rfl, by unfold pOk; omega, ⟨_, _, _, hM1⟩, hF1⟩)
                              | (have hc : du = 1 ∧ ww = 47 := by omega
                                 refine Or.inl ⟨rfl, by unfold pOk; omega, ?_, fun aaa haa => by repeat (first | rfl | refine hs_ne (by omega) ?_)⟩
                                 simp only [pStep, if_neg (show ¬ du = 0 by omega), if_pos hc.2]
                                 exact ⟨(by repeat (first | exact hs_eq _ _ _ | refine hs_ne (by omega) ?_ | assumption)), (by repeat (first | exact hs_eq _ _ _ | refine hs_ne (by omega) ?_ | assumption)), (by repeat (first | exact hs_eq _ _ _ | refine hs_ne (by omega) ?_ | assumption)), (by repeat (first | exact hs_eq _ _ _ | refine hs_ne (by omega) ?_ | assumption)), (by repeat (first | exact hs_eq _ _ _ | refine hs_ne (by omega) ?_ | assumption)), (by repeat (first | exact hs_eq _ _ _ | refine hs_ne (by omega) ?_ | assumption))⟩)
                              | (have hc : du = 2 ∧ ww = 44 := by omega
                                 refine Or.inl ⟨rfl, by unfold pOk; omega, ?_, fun aaa haa => by repeat (first | rfl | refine hs_ne (by omega) ?_)⟩
                                 simp only [pStep, if_neg (show ¬ du = 0 by omega), if_neg (show ¬ ww = 47 by omega), if_pos hc.2]
                                 exact ⟨(by repeat (first | exact hs_eq _ _ _ | refine hs_ne (by omega) ?_ | assumption)), (by repeat (first | exact hs_eq _ _ _ | refine hs_ne (by omega) ?_ | assumption)), (by repeat (first | exact hs_eq _ _ _ | refine hs_ne (by omega) ?_ | assumption)), (by repeat (first | exact hs_eq _ _ _ | refine hs_ne (by omega) ?_ | assumption)), (by repeat (first | exact hs_eq _ _ _ | refine hs_ne (by omega) ?_ | assumption)), (by repeat (first | exact hs_eq _ _ _ | refine hs_ne (by omega) ?_ | assumption))⟩)
                              | (have hc : 48 ≤ ww := hl.1
                                 refine Or.inl ⟨rfl, by unfold pOk; omega, ?_, hF1⟩
                                 simp only [pStep, if_neg (show ¬ du = 0 by omega), if_neg (show ¬ ww = 47 by omega), if_neg (show ¬ ww = 44 by omega)]
                                 exact hM1)
                              | exact Or.inr ⟨rfl, by unfold pOk; omega, ⟨_, _, _, hM1⟩, hF1⟩
                          · skip
                            refine k_zret C hr dX8_takes__103 (by omega) ?_
                            first
                              | (exfalso; omega)
                              | (have hd0 : du = 0 := by omega
                                 first
                                   | (refine Or.inl ⟨rfl, Or.inl ⟨hd0, hl⟩, ?_, hF1⟩
                                      simp only [pStep, if_pos hd0]
                                      exact hM1)
                                   | exact Or.inr ⟨rfl, by unfold pOk; omega, ⟨_, _, _, hM1⟩, hF1⟩)
                              | (have hc : du = 1 ∧ ww = 47 := by omega
                                 refine Or.inl ⟨rfl, by unfold pOk; omega, ?_, fun aaa haa => by repeat (first | rfl | refine hs_ne (by omega) ?_)⟩
                                 simp only [pStep, if_neg (show ¬ du = 0 by omega), if_pos hc.2]
                                 exact ⟨(by repeat (first | exact hs_eq _ _ _ | refine hs_ne (by omega) ?_ | assumption)), (by repeat (first | exact hs_eq _ _ _ | refine hs_ne (by omega) ?_ | assumption)), (by repeat (first | exact hs_eq _ _ _ | refine hs_ne (by omega) ?_ | assumption)), (by repeat (first | exact hs_eq _ _ _ | refine hs_ne (by omega) ?_ | assumption)), (by repeat (first | exact hs_eq _ _ _ | refine hs_ne (by omega) ?_ | assumption)), (by repeat (first | exact hs_eq _ _ _ | refine hs_ne (by omega) ?_ | assumption))⟩)
                              | (have hc : du = 2 ∧ ww = 44 := by omega
                                 refine Or.inl ⟨rfl, by unfold pOk; omega, ?_, fun aaa haa => by repeat (first | rfl | refine hs_ne (by omega) ?_)⟩
                                 simp only [pStep, if_neg (show ¬ du = 0 by omega), if_neg (show ¬ ww = 47 by omega), if_pos hc.2]
                                 exact ⟨(by repeat (first | exact hs_eq _ _ _ | refine hs_ne (by omega) ?_ | assumption)), (by repeat (first | exact hs_eq _ _ _ | refine hs_ne (by omega) ?_ | assumption)), (by repeat (first | exact hs_eq _ _ _ | refine hs_ne (by omega) ?_ | assumption)), (by repeat (first | exact hs_eq _ _ _ | refine hs_ne (by omega) ?_ | assumption)), (by repeat (first | exact hs_eq _ _ _ | refine hs_ne (by omega) ?_ | assumption)), (by repeat (first | exact hs_eq _ _ _ | refine hs_ne (by omega) ?_ | assumption))⟩)
                              | (have hc : 48 ≤ ww := hl.1
                                 refine Or.inl ⟨rfl, by unfold pOk; omega, ?_, hF1⟩
                                 simp only [pStep, if_neg (show ¬ du = 0 by omega), if_neg (show ¬ ww = 47 by omega), if_neg (show ¬ ww = 44 by omega)]
                                 exact hM1)
                              | exact Or.inr ⟨rfl, by unfold pOk; omega, ⟨_, _, _, hM1⟩, hF1⟩)
                      · try (exfalso; omega)
                        all_goals (
                          refine k_aload_n C dX8_takes__81 rfl ?_
                          refine k_dup C dX8_takes__82 rfl ?_
                          refine k_get C (k := 8) inX8 (ci := 8) rfl (by decide) fl_X8_129 dX8_takes__83 (by repeat (first | exact hs_eq _ _ _ | refine hs_ne (by omega) ?_ | assumption)) rfl ?_
                          refine k_iconst C dX8_takes__86 ?_
                          refine k_iadd C dX8_takes__87 ?_
                          refine k_put C (k := 8) inX8 tyX8_ok nmX8 (ci := 8) rfl (by decide) fl_X8_129 rfl (Nat.le_of_ble_eq_true rfl) dX8_takes__88 (by repeat (first | exact hs_eq _ _ _ | refine hs_ne (by omega) ?_ | assumption)) ?_
                          refine k_aload_n C dX8_takes__91 rfl ?_
                          refine k_iconst C dX8_takes__92 ?_
                          refine k_put C (k := 9) inX8 tyX8_ok nmX8 (ci := 8) rfl (by decide) fl_X8_132 rfl (Nat.le_of_ble_eq_true rfl) dX8_takes__93 (by repeat (first | exact hs_eq _ _ _ | refine hs_ne (by omega) ?_ | assumption)) ?_
                          refine k_iconst C dX8_takes__96 ?_
                          refine k_zret C hr dX8_takes__97 (by omega) ?_
                          first
                            | (exfalso; omega)
                            | (have hd0 : du = 0 := by omega
                               first
                                 | (refine Or.inl ⟨rfl, Or.inl ⟨hd0, hl⟩, ?_, hF1⟩
                                    simp only [pStep, if_pos hd0]
                                    exact hM1)
                                 | exact Or.inr ⟨rfl, by unfold pOk; omega, ⟨_, _, _, hM1⟩, hF1⟩)
                            | (have hc : du = 1 ∧ ww = 47 := by omega
                               refine Or.inl ⟨rfl, by unfold pOk; omega, ?_, fun aaa haa => by repeat (first | rfl | refine hs_ne (by omega) ?_)⟩
                               simp only [pStep, if_neg (show ¬ du = 0 by omega), if_pos hc.2]
                               exact ⟨(by repeat (first | exact hs_eq _ _ _ | refine hs_ne (by omega) ?_ | assumption)), (by repeat (first | exact hs_eq _ _ _ | refine hs_ne (by omega) ?_ | assumption)), (by repeat (first | exact hs_eq _ _ _ | refine hs_ne (by omega) ?_ | assumption)), (by repeat (first | exact hs_eq _ _ _ | refine hs_ne (by omega) ?_ | assumption)), (by repeat (first | exact hs_eq _ _ _ | refine hs_ne (by omega) ?_ | assumption)), (by repeat (first | exact hs_eq _ _ _ | refine hs_ne (by omega) ?_ | assumption))⟩)
                            | (have hc : du = 2 ∧ ww = 44 := by omega
                               refine Or.inl ⟨rfl, by unfold pOk; omega, ?_, fun aaa haa => by repeat (first | rfl | refine hs_ne (by omega) ?_)⟩
                               simp only [pStep, if_neg (show ¬ du = 0 by omega), if_neg (show ¬ ww = 47 by omega), if_pos hc.2]
                               exact ⟨(by repeat (first | exact hs_eq _ _ _ | refine hs_ne (by omega) ?_ | assumption)), (by repeat (first | exact hs_eq _ _ _ | refine hs_ne (by omega) ?_ | assumption)), (by repeat (first | exact hs_eq _ _ _ | refine hs_ne (by omega) ?_ | assumption)), (by repeat (first | exact hs_eq _ _ _ | refine hs_ne (by omega) ?_ | assumption)), (by repeat (first | exact hs_eq _ _ _ | refine hs_ne (by omega) ?_ | assumption)), (by repeat (first | exact hs_eq _ _ _ | refine hs_ne (by omega) ?_ | assumption))⟩)
                            | (have hc : 48 ≤ ww := hl.1
                               refine Or.inl ⟨rfl, by unfold pOk; omega, ?_, hF1⟩
                               simp only [pStep, if_neg (show ¬ du = 0 by omega), if_neg (show ¬ ww = 47 by omega), if_neg (show ¬ ww = 44 by omega)]
                               exact hM1)
                            | exact Or.inr ⟨rfl, by unfold pOk; omega, ⟨_, _, _, hM1⟩, hF1⟩))))
          · try (exfalso; omega)
            all_goals (
              refine k_iload_n C dX8_takes__46 rfl ?_
              refine k_bipush C dX8_takes__47 (by decide +kernel) ?_
              refine k_icmp_ne (tgt := 63) C dX8_takes__49 (by decide) ⟨by omega, by omega⟩ ⟨by omega, by omega⟩ (fun c49 => ?_) (fun c49 => ?_)
              · try (exfalso; omega)
                all_goals (
                  refine k_aload_n C dX8_takes__63 rfl ?_
                  refine k_get C (k := 9) inX8 (ci := 8) rfl (by decide) fl_X8_132 dX8_takes__64 (by repeat (first | exact hs_eq _ _ _ | refine hs_ne (by omega) ?_ | assumption)) rfl ?_
                  refine k_iconst C dX8_takes__67 ?_
                  refine k_icmp_ne (tgt := 98) C dX8_takes__68 (by decide) ⟨by omega, by omega⟩ ⟨by omega, by omega⟩ (fun c68 => ?_) (fun c68 => ?_)
                  · try (exfalso; omega)
                    all_goals (
                      refine k_aload_n C dX8_takes__98 rfl ?_
                      refine k_iload_n C dX8_takes__99 rfl ?_
                      refine k_callV C (n := 1) (as := [_]) (ct_X8_takesDigit l D tc base oo zrr hhi htx has hro st ln th re du hsh _ hM _ hw (by omega) (by omega) (hrk (by omega))) ml_X8_138 im_X8_takesDigit se_X8_takesDigit ini_X8 co_X8_takesDigit ⟨rfl, by decide, by decide, by decide +kernel⟩ rfl (ci := 8) rfl (by repeat (first | exact hs_eq _ _ _ | refine hs_ne (by omega) ?_ | assumption)) ⟨by decide, by decide⟩ rfl (Nat.le_of_ble_eq_true rfl) ⟨Nat.zero_le _, Nat.zero_le _⟩ dX8_takes__100 ?_
                      rintro _ _ (⟨rfl, hl, hM1, hF1⟩ | ⟨rfl, hl, hM1, hF1⟩)
                      · skip
                        refine k_zret C hr dX8_takes__103 (by omega) ?_
                        first
                          | (exfalso; omega)
                          | (have hd0 : du = 0 := by omega
                             first
                               | (refine Or.inl ⟨rfl, Or.inl ⟨hd0, hl⟩, ?_, hF1⟩
                                  simp only [pStep, if_pos hd0]
                                  exact hM1)
                               | exact Or.inr ⟨rfl, by unfold pOk; omega, ⟨_, _, _, hM1⟩, hF1⟩)
                          | (have hc : du = 1 ∧ ww = 47 := by omega
                             refine Or.inl ⟨rfl, by unfold pOk; omega, ?_, fun aaa haa => by repeat (first | rfl | refine hs_ne (by omega) ?_)⟩
                             simp only [pStep, if_neg (show ¬ du = 0 by omega), if_pos hc.2]
                             exact ⟨(by repeat (first | exact hs_eq _ _ _ | refine hs_ne (by omega) ?_ | assumption)), (by repeat (first | exact hs_eq _ _ _ | refine hs_ne (by omega) ?_ | assumption)), (by repeat (first | exact hs_eq _ _ _ | refine hs_ne (by omega) ?_ | assumption)), (by repeat (first | exact hs_eq _ _ _ | refine hs_ne (by omega) ?_ | assumption)), (by repeat (first | exact hs_eq _ _ _ | refine hs_ne (by omega) ?_ | assumption)), (by repeat (first | exact hs_eq _ _ _ | refine hs_ne (by omega) ?_ | assumption))⟩)
                          | (have hc : du = 2 ∧ ww = 44 := by omega
                             refine Or.inl ⟨rfl, by unfold pOk; omega, ?_, fun aaa haa => by repeat (first | rfl | refine hs_ne (by omega) ?_)⟩
                             simp only [pStep, if_neg (show ¬ du = 0 by omega), if_neg (show ¬ ww = 47 by omega), if_pos hc.2]
                             exact ⟨(by repeat (first | exact hs_eq _ _ _ | refine hs_ne (by omega) ?_ | assumption)), (by repeat (first | exact hs_eq _ _ _ | refine hs_ne (by omega) ?_ | assumption)), (by repeat (first | exact hs_eq _ _ _ | refine hs_ne (by omega) ?_ | assumption)), (by repeat (first | exact hs_eq _ _ _ | refine hs_ne (by omega) ?_ | assumption)), (by repeat (first | exact hs_eq _ _ _ | refine hs_ne (by omega) ?_ | assumption)), (by repeat (first | exact hs_eq _ _ _ | refine hs_ne (by omega) ?_ | assumption))⟩)
                          | (have hc : 48 ≤ ww := hl.1
                             refine Or.inl ⟨rfl, by unfold pOk; omega, ?_, hF1⟩
                             simp only [pStep, if_neg (show ¬ du = 0 by omega), if_neg (show ¬ ww = 47 by omega), if_neg (show ¬ ww = 44 by omega)]
                             exact hM1)
                          | exact Or.inr ⟨rfl, by unfold pOk; omega, ⟨_, _, _, hM1⟩, hF1⟩
                      · skip
                        refine k_zret C hr dX8_takes__103 (by omega) ?_
                        first
                          | (exfalso; omega)
                          | (have hd0 : du = 0 := by omega
                             first
                               | (refine Or.inl ⟨rfl, Or.inl ⟨hd0, hl⟩, ?_, hF1⟩
                                  simp only [pStep, if_pos hd0]
                                  exact hM1)
                               | exact Or.inr ⟨rfl, by unfold pOk; omega, ⟨_, _, _, hM1⟩, hF1⟩)
                          | (have hc : du = 1 ∧ ww = 47 := by omega
                             refine Or.inl ⟨rfl, by unfold pOk; omega, ?_, fun aaa haa => by repeat (first | rfl | refine hs_ne (by omega) ?_)⟩
                             simp only [pStep, if_neg (show ¬ du = 0 by omega), if_pos hc.2]
                             exact ⟨(by repeat (first | exact hs_eq _ _ _ | refine hs_ne (by omega) ?_ | assumption)), (by repeat (first | exact hs_eq _ _ _ | refine hs_ne (by omega) ?_ | assumption)), (by repeat (first | exact hs_eq _ _ _ | refine hs_ne (by omega) ?_ | assumption)), (by repeat (first | exact hs_eq _ _ _ | refine hs_ne (by omega) ?_ | assumption)), (by repeat (first | exact hs_eq _ _ _ | refine hs_ne (by omega) ?_ | assumption)), (by repeat (first | exact hs_eq _ _ _ | refine hs_ne (by omega) ?_ | assumption))⟩)
                          | (have hc : du = 2 ∧ ww = 44 := by omega
                             refine Or.inl ⟨rfl, by unfold pOk; omega, ?_, fun aaa haa => by repeat (first | rfl | refine hs_ne (by omega) ?_)⟩
                             simp only [pStep, if_neg (show ¬ du = 0 by omega), if_neg (show ¬ ww = 47 by omega), if_pos hc.2]
                             exact ⟨(by repeat (first | exact hs_eq _ _ _ | refine hs_ne (by omega) ?_ | assumption)), (by repeat (first | exact hs_eq _ _ _ | refine hs_ne (by omega) ?_ | assumption)), (by repeat (first | exact hs_eq _ _ _ | refine hs_ne (by omega) ?_ | assumption)), (by repeat (first | exact hs_eq _ _ _ | refine hs_ne (by omega) ?_ | assumption)), (by repeat (first | exact hs_eq _ _ _ | refine hs_ne (by omega) ?_ | assumption)), (by repeat (first | exact hs_eq _ _ _ | refine hs_ne (by omega) ?_ | assumption))⟩)
                          | (have hc : 48 ≤ ww := hl.1
                             refine Or.inl ⟨rfl, by unfold pOk; omega, ?_, hF1⟩
                             simp only [pStep, if_neg (show ¬ du = 0 by omega), if_neg (show ¬ ww = 47 by omega), if_neg (show ¬ ww = 44 by omega)]
                             exact hM1)
                          | exact Or.inr ⟨rfl, by unfold pOk; omega, ⟨_, _, _, hM1⟩, hF1⟩)
                  · try (exfalso; omega)
                    all_goals (
                      refine k_iload_n C dX8_takes__71 rfl ?_
                      refine k_bipush C dX8_takes__72 (by decide +kernel) ?_
                      refine k_icmp_ne (tgt := 98) C dX8_takes__74 (by decide) ⟨by omega, by omega⟩ ⟨by omega, by omega⟩ (fun c74 => ?_) (fun c74 => ?_)
                      · try (exfalso; omega)
                        all_goals (
                          refine k_aload_n C dX8_takes__98 rfl ?_
                          refine k_iload_n C dX8_takes__99 rfl ?_
                          refine k_callV C (n := 1) (as := [_]) (ct_X8_takesDigit l D tc base oo zrr hhi htx has hro st ln th re du hsh _ hM _ hw (by omega) (by omega) (hrk (by omega))) ml_X8_138 im_X8_takesDigit se_X8_takesDigit ini_X8 co_X8_takesDigit ⟨rfl, by decide, by decide, by decide +kernel⟩ rfl (ci := 8) rfl (by repeat (first | exact hs_eq _ _ _ | refine hs_ne (by omega) ?_ | assumption)) ⟨by decide, by decide⟩ rfl (Nat.le_of_ble_eq_true rfl) ⟨Nat.zero_le _, Nat.zero_le _⟩ dX8_takes__100 ?_
                          rintro _ _ (⟨rfl, hl, hM1, hF1⟩ | ⟨rfl, hl, hM1, hF1⟩)
                          · skip
                            refine k_zret C hr dX8_takes__103 (by omega) ?_
                            first
                              | (exfalso; omega)
                              | (have hd0 : du = 0 := by omega
                                 first
                                   | (refine Or.inl ⟨rfl, Or.inl ⟨hd0, hl⟩, ?_, hF1⟩
                                      simp only [pStep, if_pos hd0]
                                      exact hM1)
                                   | exact Or.inr ⟨rfl, by unfold pOk; omega, ⟨_, _, _, hM1⟩, hF1⟩)
                              | (have hc : du = 1 ∧ ww = 47 := by omega
                                 refine Or.inl ⟨rfl, by unfold pOk; omega, ?_, fun aaa haa => by repeat (first | rfl | refine hs_ne (by omega) ?_)⟩
                                 simp only [pStep, if_neg (show ¬ du = 0 by omega), if_pos hc.2]
                                 exact ⟨(by repeat (first | exact hs_eq _ _ _ | refine hs_ne (by omega) ?_ | assumption)), (by repeat (first | exact hs_eq _ _ _ | refine hs_ne (by omega) ?_ | assumption)), (by repeat (first | exact hs_eq _ _ _ | refine hs_ne (by omega) ?_ | assumption)), (by repeat (first | exact hs_eq _ _ _ | refine hs_ne (by omega) ?_ | assumption)), (by repeat (first | exact hs_eq _ _ _ | refine hs_ne (by omega) ?_ | assumption)), (by repeat (first | exact hs_eq _ _ _ | refine hs_ne (by omega) ?_ | assumption))⟩)
                              | (have hc : du = 2 ∧ ww = 44 := by omega
                                 refine Or.inl ⟨rfl, by unfold pOk; omega, ?_, fun aaa haa => by repeat (first | rfl | refine hs_ne (by omega) ?_)⟩
                                 simp only [pStep, if_neg (show ¬ du = 0 by omega), if_neg (show ¬ ww = 47 by omega), if_pos hc.2]
                                 exact ⟨(by repeat (first | exact hs_eq _ _ _ | refine hs_ne (by omega) ?_ | assumption)), (by repeat (first | exact hs_eq _ _ _ | refine hs_ne (by omega) ?_ | assumption)), (by repeat (first | exact hs_eq _ _ _ | refine hs_ne (by omega) ?_ | assumption)), (by repeat (first | exact hs_eq _ _ _ | refine hs_ne (by omega) ?_ | assumption)), (by repeat (first | exact hs_eq _ _ _ | refine hs_ne (by omega) ?_ | assumption)), (by repeat (first | exact hs_eq _ _ _ | refine hs_ne (by omega) ?_ | assumption))⟩)
                              | (have hc : 48 ≤ ww := hl.1
                                 refine Or.inl ⟨rfl, by unfold pOk; omega, ?_, hF1⟩
                                 simp only [pStep, if_neg (show ¬ du = 0 by omega), if_neg (show ¬ ww = 47 by omega), if_neg (show ¬ ww = 44 by omega)]
                                 exact hM1)
                              | exact Or.inr ⟨rfl, by unfold pOk; omega, ⟨_, _, _, hM1⟩, hF1⟩
                          · skip
                            refine k_zret C hr dX8_takes__103 (by omega) ?_
                            first
                              | (exfalso; omega)
                              | (have hd0 : du = 0 := by omega
                                 first
                                   | (refine Or.inl ⟨rfl, Or.inl ⟨hd0, hl⟩, ?_, hF1⟩
                                      simp only [pStep, if_pos hd0]
                                      exact hM1)
                                   | exact Or.inr ⟨rfl, by unfold pOk; omega, ⟨_, _, _, hM1⟩, hF1⟩)
                              | (have hc : du = 1 ∧ ww = 47 := by omega
                                 refine Or.inl ⟨rfl, by unfold pOk; omega, ?_, fun aaa haa => by repeat (first | rfl | refine hs_ne (by omega) ?_)⟩
                                 simp only [pStep, if_neg (show ¬ du = 0 by omega), if_pos hc.2]
                                 exact ⟨(by repeat (first | exact hs_eq _ _ _ | refine hs_ne (by omega) ?_ | assumption)), (by repeat (first | exact hs_eq _ _ _ | refine hs_ne (by omega) ?_ | assumption)), (by repeat (first | exact hs_eq _ _ _ | refine hs_ne (by omega) ?_ | assumption)), (by repeat (first | exact hs_eq _ _ _ | refine hs_ne (by omega) ?_ | assumption)), (by repeat (first | exact hs_eq _ _ _ | refine hs_ne (by omega) ?_ | assumption)), (by repeat (first | exact hs_eq _ _ _ | refine hs_ne (by omega) ?_ | assumption))⟩)
                              | (have hc : du = 2 ∧ ww = 44 := by omega
                                 refine Or.inl ⟨rfl, by unfold pOk; omega, ?_, fun aaa haa => by repeat (first | rfl | refine hs_ne (by omega) ?_)⟩
                                 simp only [pStep, if_neg (show ¬ du = 0 by omega), if_neg (show ¬ ww = 47 by omega), if_pos hc.2]
                                 exact ⟨(by repeat (first | exact hs_eq _ _ _ | refine hs_ne (by omega) ?_ | assumption)), (by repeat (first | exact hs_eq _ _ _ | refine hs_ne (by omega) ?_ | assumption)), (by repeat (first | exact hs_eq _ _ _ | refine hs_ne (by omega) ?_ | assumption)), (by repeat (first | exact hs_eq _ _ _ | refine hs_ne (by omega) ?_ | assumption)), (by repeat (first | exact hs_eq _ _ _ | refine hs_ne (by omega) ?_ | assumption)), (by repeat (first | exact hs_eq _ _ _ | refine hs_ne (by omega) ?_ | assumption))⟩)
                              | (have hc : 48 ≤ ww := hl.1
                                 refine Or.inl ⟨rfl, by unfold pOk; omega, ?_, hF1⟩
                                 simp only [pStep, if_neg (show ¬ du = 0 by omega), if_neg (show ¬ ww = 47 by omega), if_neg (show ¬ ww = 44 by omega)]
                                 exact hM1)
                              | exact Or.inr ⟨rfl, by unfold pOk; omega, ⟨_, _, _, hM1⟩, hF1⟩)
                      · try (exfalso; omega)
                        all_goals (
                          refine k_iload_n C dX8_takes__77 rfl ?_
                          refine k_if_eq (tgt := 98) C dX8_takes__78 (by decide) ⟨by omega, by omega⟩ (fun c78 => ?_) (fun c78 => ?_)
                          · try (exfalso; omega)
                            all_goals (
                              refine k_aload_n C dX8_takes__98 rfl ?_
                              refine k_iload_n C dX8_takes__99 rfl ?_
                              refine k_callV C (n := 1) (as := [_]) (ct_X8_takesDigit l D tc base oo zrr hhi htx has hro st ln th re du hsh _ hM _ hw (by omega) (by omega) (hrk (by omega))) ml_X8_138 im_X8_takesDigit se_X8_takesDigit ini_X8 co_X8_takesDigit ⟨rfl, by decide, by decide, by decide +kernel⟩ rfl (ci := 8) rfl (by repeat (first | exact hs_eq _ _ _ | refine hs_ne (by omega) ?_ | assumption)) ⟨by decide, by decide⟩ rfl (Nat.le_of_ble_eq_true rfl) ⟨Nat.zero_le _, Nat.zero_le _⟩ dX8_takes__100 ?_
                              rintro _ _ (⟨rfl, hl, hM1, hF1⟩ | ⟨rfl, hl, hM1, hF1⟩)
                              · skip
                                refine k_zret C hr dX8_takes__103 (by omega) ?_
                                first
                                  | (exfalso; omega)
                                  | (have hd0 : du = 0 := by omega
                                     first
                                       | (refine Or.inl ⟨rfl, Or.inl ⟨hd0, hl⟩, ?_, hF1⟩
                                          simp only [pStep, if_pos hd0]
                                          exact hM1)
                                       | exact Or.inr ⟨rfl, by unfold pOk; omega, ⟨_, _, _, hM1⟩, hF1⟩)
                                  | (have hc : du = 1 ∧ ww = 47 := by omega
                                     refine Or.inl ⟨rfl, by unfold pOk; omega, ?_, fun aaa haa => by repeat (first | rfl | refine hs_ne (by omega) ?_)⟩
                                     simp only [pStep, if_neg (show ¬ du = 0 by omega), if_pos hc.2]
                                     exact ⟨(by repeat (first | exact hs_eq _ _ _ | refine hs_ne (by omega) ?_ | assumption)), (by repeat (first | exact hs_eq _ _ _ | refine hs_ne (by omega) ?_ | assumption)), (by repeat (first | exact hs_eq _ _ _ | refine hs_ne (by omega) ?_ | assumption)), (by repeat (first | exact hs_eq _ _ _ | refine hs_ne (by omega) ?_ | assumption)), (by repeat (first | exact hs_eq _ _ _ | refine hs_ne (by omega) ?_ | assumption)), (by repeat (first | exact hs_eq _ _ _ | refine hs_ne (by omega) ?_ | assumption))⟩)
                                  | (have hc : du = 2 ∧ ww = 44 := by omega
                                     refine Or.inl ⟨rfl, by unfold pOk; omega, ?_, fun aaa haa => by repeat (first | rfl | refine hs_ne (by omega) ?_)⟩
                                     simp only [pStep, if_neg (show ¬ du = 0 by omega), if_neg (show ¬ ww = 47 by omega), if_pos hc.2]
                                     exact ⟨(by repeat (first | exact hs_eq _ _ _ | refine hs_ne (by omega) ?_ | assumption)), (by repeat (first | exact hs_eq _ _ _ | refine hs_ne (by omega) ?_ | assumption)), (by repeat (first | exact hs_eq _ _ _ | refine hs_ne (by omega) ?_ | assumption)), (by repeat (first | exact hs_eq _ _ _ | refine hs_ne (by omega) ?_ | assumption)), (by repeat (first | exact hs_eq _ _ _ | refine hs_ne (by omega) ?_ | assumption)), (by repeat (first | exact hs_eq _ _ _ | refine hs_ne (by omega) ?_ | assumption))⟩)
                                  | (have hc : 48 ≤ ww := hl.1
                                     refine Or.inl ⟨rfl, by unfold pOk; omega, ?_, hF1⟩
                                     simp only [pStep, if_neg (show ¬ du = 0 by omega), if_neg (show ¬ ww = 47 by omega), if_neg (show ¬ ww = 44 by omega)]
                                     exact hM1)
                                  | exact Or.inr ⟨rfl, by unfold pOk; omega, ⟨_, _, _, hM1⟩, hF1⟩
                              · skip
                                refine k_zret C hr dX8_takes__103 (by omega) ?_
                                first
                                  | (exfalso; omega)
                                  | (have hd0 : du = 0 := by omega
                                     first
                                       | (refine Or.inl ⟨rfl, Or.inl ⟨hd0, hl⟩, ?_, hF1⟩
                                          simp only [pStep, if_pos hd0]
                                          exact hM1)
                                       | exact Or.inr ⟨rfl, by unfold pOk; omega, ⟨_, _, _, hM1⟩, hF1⟩)
                                  | (have hc : du = 1 ∧ ww = 47 := by omega
                                     refine Or.inl ⟨rfl, by unfold pOk; omega, ?_, fun aaa haa => by repeat (first | rfl | refine hs_ne (by omega) ?_)⟩
                                     simp only [pStep, if_neg (show ¬ du = 0 by omega), if_pos hc.2]
                                     exact ⟨(by repeat (first | exact hs_eq _ _ _ | refine hs_ne (by omega) ?_ | assumption)), (by repeat (first | exact hs_eq _ _ _ | refine hs_ne (by omega) ?_ | assumption)), (by repeat (first | exact hs_eq _ _ _ | refine hs_ne (by omega) ?_ | assumption)), (by repeat (first | exact hs_eq _ _ _ | refine hs_ne (by omega) ?_ | assumption)), (by repeat (first | exact hs_eq _ _ _ | refine hs_ne (by omega) ?_ | assumption)), (by repeat (first | exact hs_eq _ _ _ | refine hs_ne (by omega) ?_ | assumption))⟩)
                                  | (have hc : du = 2 ∧ ww = 44 := by omega
                                     refine Or.inl ⟨rfl, by unfold pOk; omega, ?_, fun aaa haa => by repeat (first | rfl | refine hs_ne (by omega) ?_)⟩
                                     simp only [pStep, if_neg (show ¬ du = 0 by omega), if_neg (show ¬ ww = 47 by omega), if_pos hc.2]
                                     exact ⟨(by repeat (first | exact hs_eq _ _ _ | refine hs_ne (by omega) ?_ | assumption)), (by repeat (first | exact hs_eq _ _ _ | refine hs_ne (by omega) ?_ | assumption)), (by repeat (first | exact hs_eq _ _ _ | refine hs_ne (by omega) ?_ | assumption)), (by repeat (first | exact hs_eq _ _ _ | refine hs_ne (by omega) ?_ | assumption)), (by repeat (first | exact hs_eq _ _ _ | refine hs_ne (by omega) ?_ | assumption)), (by repeat (first | exact hs_eq _ _ _ | refine hs_ne (by omega) ?_ | assumption))⟩)
                                  | (have hc : 48 ≤ ww := hl.1
                                     refine Or.inl ⟨rfl, by unfold pOk; omega, ?_, hF1⟩
                                     simp only [pStep, if_neg (show ¬ du = 0 by omega), if_neg (show ¬ ww = 47 by omega), if_neg (show ¬ ww = 44 by omega)]
                                     exact hM1)
                                  | exact Or.inr ⟨rfl, by unfold pOk; omega, ⟨_, _, _, hM1⟩, hF1⟩)
                          · try (exfalso; omega)
                            all_goals (
                              refine k_aload_n C dX8_takes__81 rfl ?_
                              refine k_dup C dX8_takes__82 rfl ?_
                              refine k_get C (k := 8) inX8 (ci := 8) rfl (by decide) fl_X8_129 dX8_takes__83 (by repeat (first | exact hs_eq _ _ _ | refine hs_ne (by omega) ?_ | assumption)) rfl ?_
                              refine k_iconst C dX8_takes__86 ?_
                              refine k_iadd C dX8_takes__87 ?_
                              refine k_put C (k := 8) inX8 tyX8_ok nmX8 (ci := 8) rfl (by decide) fl_X8_129 rfl (Nat.le_of_ble_eq_true rfl) dX8_takes__88 (by repeat (first | exact hs_eq _ _ _ | refine hs_ne (by omega) ?_ | assumption)) ?_
                              refine k_aload_n C dX8_takes__91 rfl ?_
                              refine k_iconst C dX8_takes__92 ?_
                              refine k_put C (k := 9) inX8 tyX8_ok nmX8 (ci := 8) rfl (by decide) fl_X8_132 rfl (Nat.le_of_ble_eq_true rfl) dX8_takes__93 (by repeat (first | exact hs_eq _ _ _ | refine hs_ne (by omega) ?_ | assumption)) ?_
                              refine k_iconst C dX8_takes__96 ?_
                              refine k_zret C hr dX8_takes__97 (by omega) ?_
                              first
                                | (exfalso; omega)
                                | (have hd0 : du = 0 := by omega
                                   first
                                     | (refine Or.inl ⟨rfl, Or.inl ⟨hd0, hl⟩, ?_, hF1⟩
                                        simp only [pStep, if_pos hd0]
                                        exact hM1)
                                     | exact Or.inr ⟨rfl, by unfold pOk; omega, ⟨_, _, _, hM1⟩, hF1⟩)
                                | (have hc : du = 1 ∧ ww = 47 := by omega
                                   refine Or.inl ⟨rfl, by unfold pOk; omega, ?_, fun aaa haa => by repeat (first | rfl | refine hs_ne (by omega) ?_)⟩
                                   simp only [pStep, if_neg (show ¬ du = 0 by omega), if_pos hc.2]
                                   exact ⟨(by repeat (first | exact hs_eq _ _ _ | refine hs_ne (by omega) ?_ | assumption)), (by repeat (first | exact hs_eq _ _ _ | refine hs_ne (by omega) ?_ | assumption)), (by repeat (first | exact hs_eq _ _ _ | refine hs_ne (by omega) ?_ | assumption)), (by repeat (first | exact hs_eq _ _ _ | refine hs_ne (by omega) ?_ | assumption)), (by repeat (first | exact hs_eq _ _ _ | refine hs_ne (by omega) ?_ | assumption)), (by repeat (first | exact hs_eq _ _ _ | refine hs_ne (by omega) ?_ | assumption))⟩)
                                | (have hc : du = 2 ∧ ww = 44 := by omega
                                   refine Or.inl ⟨rfl, by unfold pOk; omega, ?_, fun aaa haa => by repeat (first | rfl | refine hs_ne (by omega) ?_)⟩
                                   simp only [pStep, if_neg (show ¬ du = 0 by omega), if_neg (show ¬ ww = 47 by omega), if_pos hc.2]
                                   exact ⟨(by repeat (first | exact hs_eq _ _ _ | refine hs_ne (by omega) ?_ | assumption)), (by repeat (first | exact hs_eq _ _ _ | refine hs_ne (by omega) ?_ | assumption)), (by repeat (first | exact hs_eq _ _ _ | refine hs_ne (by omega) ?_ | assumption)), (by repeat (first | exact hs_eq _ _ _ | refine hs_ne (by omega) ?_ | assumption)), (by repeat (first | exact hs_eq _ _ _ | refine hs_ne (by omega) ?_ | assumption)), (by repeat (first | exact hs_eq _ _ _ | refine hs_ne (by omega) ?_ | assumption))⟩)
                                | (have hc : 48 ≤ ww := hl.1
                                   refine Or.inl ⟨rfl, by unfold pOk; omega, ?_, hF1⟩
                                   simp only [pStep, if_neg (show ¬ du = 0 by omega), if_neg (show ¬ ww = 47 by omega), if_neg (show ¬ ww = 44 by omega)]
                                   exact hM1)
                                | exact Or.inr ⟨rfl, by unfold pOk; omega, ⟨_, _, _, hM1⟩, hF1⟩))))
              · try (exfalso; omega)
                all_goals (
                  refine k_iload_n C dX8_takes__52 rfl ?_
                  refine k_if_eq (tgt := 63) C dX8_takes__53 (by decide) ⟨by omega, by omega⟩ (fun c53 => ?_) (fun c53 => ?_)
                  · try (exfalso; omega)
                    all_goals (
                      refine k_aload_n C dX8_takes__63 rfl ?_
                      refine k_get C (k := 9) inX8 (ci := 8) rfl (by decide) fl_X8_132 dX8_takes__64 (by repeat (first | exact hs_eq _ _ _ | refine hs_ne (by omega) ?_ | assumption)) rfl ?_
                      refine k_iconst C dX8_takes__67 ?_
                      refine k_icmp_ne (tgt := 98) C dX8_takes__68 (by decide) ⟨by omega, by omega⟩ ⟨by omega, by omega⟩ (fun c68 => ?_) (fun c68 => ?_)
                      · try (exfalso; omega)
                        all_goals (
                          refine k_aload_n C dX8_takes__98 rfl ?_
                          refine k_iload_n C dX8_takes__99 rfl ?_
                          refine k_callV C (n := 1) (as := [_]) (ct_X8_takesDigit l D tc base oo zrr hhi htx has hro st ln th re du hsh _ hM _ hw (by omega) (by omega) (hrk (by omega))) ml_X8_138 im_X8_takesDigit se_X8_takesDigit ini_X8 co_X8_takesDigit ⟨rfl, by decide, by decide, by decide +kernel⟩ rfl (ci := 8) rfl (by repeat (first | exact hs_eq _ _ _ | refine hs_ne (by omega) ?_ | assumption)) ⟨by decide, by decide⟩ rfl (Nat.le_of_ble_eq_true rfl) ⟨Nat.zero_le _, Nat.zero_le _⟩ dX8_takes__100 ?_
                          rintro _ _ (⟨rfl, hl, hM1, hF1⟩ | ⟨rfl, hl, hM1, hF1⟩)
                          · skip
                            refine k_zret C hr dX8_takes__103 (by omega) ?_
                            first
                              | (exfalso; omega)
                              | (have hd0 : du = 0 := by omega
                                 first
                                   | (refine Or.inl ⟨rfl, Or.inl ⟨hd0, hl⟩, ?_, hF1⟩
                                      simp only [pStep, if_pos hd0]
                                      exact hM1)
                                   | exact Or.inr ⟨rfl, by unfold pOk; omega, ⟨_, _, _, hM1⟩, hF1⟩)
                              | (have hc : du = 1 ∧ ww = 47 := by omega
                                 refine Or.inl ⟨rfl, by unfold pOk; omega, ?_, fun aaa haa => by repeat (first | rfl | refine hs_ne (by omega) ?_)⟩
                                 simp only [pStep, if_neg (show ¬ du = 0 by omega), if_pos hc.2]
                                 exact ⟨(by repeat (first | exact hs_eq _ _ _ | refine hs_ne (by omega) ?_ | assumption)), (by repeat (first | exact hs_eq _ _ _ | refine hs_ne (by omega) ?_ | assumption)), (by repeat (first | exact hs_eq _ _ _ | refine hs_ne (by omega) ?_ | assumption)), (by repeat (first | exact hs_eq _ _ _ | refine hs_ne (by omega) ?_ | assumption)), (by repeat (first | exact hs_eq _ _ _ | refine hs_ne (by omega) ?_ | assumption)), (by repeat (first | exact hs_eq _ _ _ | refine hs_ne (by omega) ?_ | assumption))⟩)
                              | (have hc : du = 2 ∧ ww = 44 := by omega
                                 refine Or.inl ⟨rfl, by unfold pOk; omega, ?_, fun aaa haa => by repeat (first | rfl | refine hs_ne (by omega) ?_)⟩
                                 simp only [pStep, if_neg (show ¬ du = 0 by omega), if_neg (show ¬ ww = 47 by omega), if_pos hc.2]
                                 exact ⟨(by repeat (first | exact hs_eq _ _ _ | refine hs_ne (by omega) ?_ | assumption)), (by repeat (first | exact hs_eq _ _ _ | refine hs_ne (by omega) ?_ | assumption)), (by repeat (first | exact hs_eq _ _ _ | refine hs_ne (by omega) ?_ | assumption)), (by repeat (first | exact hs_eq _ _ _ | refine hs_ne (by omega) ?_ | assumption)), (by repeat (first | exact hs_eq _ _ _ | refine hs_ne (by omega) ?_ | assumption)), (by repeat (first | exact hs_eq _ _ _ | refine hs_ne (by omega) ?_ | assumption))⟩)
                              | (have hc : 48 ≤ ww := hl.1
                                 refine Or.inl ⟨rfl, by unfold pOk; omega, ?_, hF1⟩
                                 simp only [pStep, if_neg (show ¬ du = 0 by omega), if_neg (show ¬ ww = 47 by omega), if_neg (show ¬ ww = 44 by omega)]
                                 exact hM1)
                              | exact Or.inr ⟨rfl, by unfold pOk; omega, ⟨_, _, _, hM1⟩, hF1⟩
                          · skip
                            refine k_zret C hr dX8_takes__103 (by omega) ?_
                            first
                              | (exfalso; omega)
                              | (have hd0 : du = 0 := by omega
                                 first
                                   | (refine Or.inl ⟨rfl, Or.inl ⟨hd0, hl⟩, ?_, hF1⟩
                                      simp only [pStep, if_pos hd0]
                                      exact hM1)
                                   | exact Or.inr ⟨rfl, by unfold pOk; omega, ⟨_, _, _, hM1⟩, hF1⟩)
                              | (have hc : du = 1 ∧ ww = 47 := by omega
                                 refine Or.inl ⟨rfl, by unfold pOk; omega, ?_, fun aaa haa => by repeat (first | rfl | refine hs_ne (by omega) ?_)⟩
                                 simp only [pStep, if_neg (show ¬ du = 0 by omega), if_pos hc.2]
                                 exact ⟨(by repeat (first | exact hs_eq _ _ _ | refine hs_ne (by omega) ?_ | assumption)), (by repeat (first | exact hs_eq _ _ _ | refine hs_ne (by omega) ?_ | assumption)), (by repeat (first | exact hs_eq _ _ _ | refine hs_ne (by omega) ?_ | assumption)), (by repeat (first | exact hs_eq _ _ _ | refine hs_ne (by omega) ?_ | assumption)), (by repeat (first | exact hs_eq _ _ _ | refine hs_ne (by omega) ?_ | assumption)), (by repeat (first | exact hs_eq _ _ _ | refine hs_ne (by omega) ?_ | assumption))⟩)
                              | (have hc : du = 2 ∧ ww = 44 := by omega
                                 refine Or.inl ⟨rfl, by unfold pOk; omega, ?_, fun aaa haa => by repeat (first | rfl | refine hs_ne (by omega) ?_)⟩
                                 simp only [pStep, if_neg (show ¬ du = 0 by omega), if_neg (show ¬ ww = 47 by omega), if_pos hc.2]
                                 exact ⟨(by repeat (first | exact hs_eq _ _ _ | refine hs_ne (by omega) ?_ | assumption)), (by repeat (first | exact hs_eq _ _ _ | refine hs_ne (by omega) ?_ | assumption)), (by repeat (first | exact hs_eq _ _ _ | refine hs_ne (by omega) ?_ | assumption)), (by repeat (first | exact hs_eq _ _ _ | refine hs_ne (by omega) ?_ | assumption)), (by repeat (first | exact hs_eq _ _ _ | refine hs_ne (by omega) ?_ | assumption)), (by repeat (first | exact hs_eq _ _ _ | refine hs_ne (by omega) ?_ | assumption))⟩)
                              | (have hc : 48 ≤ ww := hl.1
                                 refine Or.inl ⟨rfl, by unfold pOk; omega, ?_, hF1⟩
                                 simp only [pStep, if_neg (show ¬ du = 0 by omega), if_neg (show ¬ ww = 47 by omega), if_neg (show ¬ ww = 44 by omega)]
                                 exact hM1)
                              | exact Or.inr ⟨rfl, by unfold pOk; omega, ⟨_, _, _, hM1⟩, hF1⟩)
                      · try (exfalso; omega)
                        all_goals (
                          refine k_iload_n C dX8_takes__71 rfl ?_
                          refine k_bipush C dX8_takes__72 (by decide +kernel) ?_
                          refine k_icmp_ne (tgt := 98) C dX8_takes__74 (by decide) ⟨by omega, by omega⟩ ⟨by omega, by omega⟩ (fun c74 => ?_) (fun c74 => ?_)
                          · try (exfalso; omega)
                            all_goals (
                              refine k_aload_n C dX8_takes__98 rfl ?_
                              refine k_iload_n C dX8_takes__99 rfl ?_
                              refine k_callV C (n := 1) (as := [_]) (ct_X8_takesDigit l D tc base oo zrr hhi htx has hro st ln th re du hsh _ hM _ hw (by omega) (by omega) (hrk (by omega))) ml_X8_138 im_X8_takesDigit se_X8_takesDigit ini_X8 co_X8_takesDigit ⟨rfl, by decide, by decide, by decide +kernel⟩ rfl (ci := 8) rfl (by repeat (first | exact hs_eq _ _ _ | refine hs_ne (by omega) ?_ | assumption)) ⟨by decide, by decide⟩ rfl (Nat.le_of_ble_eq_true rfl) ⟨Nat.zero_le _, Nat.zero_le _⟩ dX8_takes__100 ?_
                              rintro _ _ (⟨rfl, hl, hM1, hF1⟩ | ⟨rfl, hl, hM1, hF1⟩)
                              · skip
                                refine k_zret C hr dX8_takes__103 (by omega) ?_
                                first
                                  | (exfalso; omega)
                                  | (have hd0 : du = 0 := by omega
                                     first
                                       | (refine Or.inl ⟨rfl, Or.inl ⟨hd0, hl⟩, ?_, hF1⟩
                                          simp only [pStep, if_pos hd0]
                                          exact hM1)
                                       | exact Or.inr ⟨rfl, by unfold pOk; omega, ⟨_, _, _, hM1⟩, hF1⟩)
                                  | (have hc : du = 1 ∧ ww = 47 := by omega
                                     refine Or.inl ⟨rfl, by unfold pOk; omega, ?_, fun aaa haa => by repeat (first | rfl | refine hs_ne (by omega) ?_)⟩
                                     simp only [pStep, if_neg (show ¬ du = 0 by omega), if_pos hc.2]
                                     exact ⟨(by repeat (first | exact hs_eq _ _ _ | refine hs_ne (by omega) ?_ | assumption)), (by repeat (first | exact hs_eq _ _ _ | refine hs_ne (by omega) ?_ | assumption)), (by repeat (first | exact hs_eq _ _ _ | refine hs_ne (by omega) ?_ | assumption)), (by repeat (first | exact hs_eq _ _ _ | refine hs_ne (by omega) ?_ | assumption)), (by repeat (first | exact hs_eq _ _ _ | refine hs_ne (by omega) ?_ | assumption)), (by repeat (first | exact hs_eq _ _ _ | refine hs_ne (by omega) ?_ | assumption))⟩)
                                  | (have hc : du = 2 ∧ ww = 44 := by omega
                                     refine Or.inl ⟨rfl, by unfold pOk; omega, ?_, fun aaa haa => by repeat (first | rfl | refine hs_ne (by omega) ?_)⟩
                                     simp only [pStep, if_neg (show ¬ du = 0 by omega), if_neg (show ¬ ww = 47 by omega), if_pos hc.2]
                                     exact ⟨(by repeat (first | exact hs_eq _ _ _ | refine hs_ne (by omega) ?_ | assumption)), (by repeat (first | exact hs_eq _ _ _ | refine hs_ne (by omega) ?_ | assumption)), (by repeat (first | exact hs_eq _ _ _ | refine hs_ne (by omega) ?_ | assumption)), (by repeat (first | exact hs_eq _ _ _ | refine hs_ne (by omega) ?_ | assumption)), (by repeat (first | exact hs_eq _ _ _ | refine hs_ne (by omega) ?_ | assumption)), (by repeat (first | exact hs_eq _ _ _ | refine hs_ne (by omega) ?_ | assumption))⟩)
                                  | (have hc : 48 ≤ ww := hl.1
                                     refine Or.inl ⟨rfl, by unfold pOk; omega, ?_, hF1⟩
                                     simp only [pStep, if_neg (show ¬ du = 0 by omega), if_neg (show ¬ ww = 47 by omega), if_neg (show ¬ ww = 44 by omega)]
                                     exact hM1)
                                  | exact Or.inr ⟨rfl, by unfold pOk; omega, ⟨_, _, _, hM1⟩, hF1⟩
                              · skip
                                refine k_zret C hr dX8_takes__103 (by omega) ?_
                                first
                                  | (exfalso; omega)
                                  | (have hd0 : du = 0 := by omega
                                     first
                                       | (refine Or.inl ⟨rfl, Or.inl ⟨hd0, hl⟩, ?_, hF1⟩
                                          simp only [pStep, if_pos hd0]
                                          exact hM1)
                                       | exact Or.inr ⟨rfl, by unfold pOk; omega, ⟨_, _, _, hM1⟩, hF1⟩)
                                  | (have hc : du = 1 ∧ ww = 47 := by omega
                                     refine Or.inl ⟨rfl, by unfold pOk; omega, ?_, fun aaa haa => by repeat (first | rfl | refine hs_ne (by omega) ?_)⟩
                                     simp only [pStep, if_neg (show ¬ du = 0 by omega), if_pos hc.2]
                                     exact ⟨(by repeat (first | exact hs_eq _ _ _ | refine hs_ne (by omega) ?_ | assumption)), (by repeat (first | exact hs_eq _ _ _ | refine hs_ne (by omega) ?_ | assumption)), (by repeat (first | exact hs_eq _ _ _ | refine hs_ne (by omega) ?_ | assumption)), (by repeat (first | exact hs_eq _ _ _ | refine hs_ne (by omega) ?_ | assumption)), (by repeat (first | exact hs_eq _ _ _ | refine hs_ne (by omega) ?_ | assumption)), (by repeat (first | exact hs_eq _ _ _ | refine hs_ne (by omega) ?_ | assumption))⟩)
                                  | (have hc : du = 2 ∧ ww = 44 := by omega
                                     refine Or.inl ⟨rfl, by unfold pOk; omega, ?_, fun aaa haa => by repeat (first | rfl | refine hs_ne (by omega) ?_)⟩
                                     simp only [pStep, if_neg (show ¬ du = 0 by omega), if_neg (show ¬ ww = 47 by omega), if_pos hc.2]
                                     exact ⟨(by repeat (first | exact hs_eq _ _ _ | refine hs_ne (by omega) ?_ | assumption)), (by repeat (first | exact hs_eq _ _ _ | refine hs_ne (by omega) ?_ | assumption)), (by repeat (first | exact hs_eq _ _ _ | refine hs_ne (by omega) ?_ | assumption)), (by repeat (first | exact hs_eq _ _ _ | refine hs_ne (by omega) ?_ | assumption)), (by repeat (first | exact hs_eq _ _ _ | refine hs_ne (by omega) ?_ | assumption)), (by repeat (first | exact hs_eq _ _ _ | refine hs_ne (by omega) ?_ | assumption))⟩)
                                  | (have hc : 48 ≤ ww := hl.1
                                     refine Or.inl ⟨rfl, by unfold pOk; omega, ?_, hF1⟩
                                     simp only [pStep, if_neg (show ¬ du = 0 by omega), if_neg (show ¬ ww = 47 by omega), if_neg (show ¬ ww = 44 by omega)]
                                     exact hM1)
                                  | exact Or.inr ⟨rfl, by unfold pOk; omega, ⟨_, _, _, hM1⟩, hF1⟩)
                          · try (exfalso; omega)
                            all_goals (
                              refine k_iload_n C dX8_takes__77 rfl ?_
                              refine k_if_eq (tgt := 98) C dX8_takes__78 (by decide) ⟨by omega, by omega⟩ (fun c78 => ?_) (fun c78 => ?_)
                              · try (exfalso; omega)
                                all_goals (
                                  refine k_aload_n C dX8_takes__98 rfl ?_
                                  refine k_iload_n C dX8_takes__99 rfl ?_
                                  refine k_callV C (n := 1) (as := [_]) (ct_X8_takesDigit l D tc base oo zrr hhi htx has hro st ln th re du hsh _ hM _ hw (by omega) (by omega) (hrk (by omega))) ml_X8_138 im_X8_takesDigit se_X8_takesDigit ini_X8 co_X8_takesDigit ⟨rfl, by decide, by decide, by decide +kernel⟩ rfl (ci := 8) rfl (by repeat (first | exact hs_eq _ _ _ | refine hs_ne (by omega) ?_ | assumption)) ⟨by decide, by decide⟩ rfl (Nat.le_of_ble_eq_true rfl) ⟨Nat.zero_le _, Nat.zero_le _⟩ dX8_takes__100 ?_
                                  rintro _ _ (⟨rfl, hl, hM1, hF1⟩ | ⟨rfl, hl, hM1, hF1⟩)
                                  · skip
                                    refine k_zret C hr dX8_takes__103 (by omega) ?_
                                    first
                                      | (exfalso; omega)
                                      | (have hd0 : du = 0 := by omega
                                         first
                                           | (refine Or.inl ⟨rfl, Or.inl ⟨hd0, hl⟩, ?_, hF1⟩
                                              simp only [pStep, if_pos hd0]
                                              exact hM1)
                                           | exact Or.inr ⟨rfl, by unfold pOk; omega, ⟨_, _, _, hM1⟩, hF1⟩)
                                      | (have hc : du = 1 ∧ ww = 47 := by omega
                                         refine Or.inl ⟨rfl, by unfold pOk; omega, ?_, fun aaa haa => by repeat (first | rfl | refine hs_ne (by omega) ?_)⟩
                                         simp only [pStep, if_neg (show ¬ du = 0 by omega), if_pos hc.2]
                                         exact ⟨(by repeat (first | exact hs_eq _ _ _ | refine hs_ne (by omega) ?_ | assumption)), (by repeat (first | exact hs_eq _ _ _ | refine hs_ne (by omega) ?_ | assumption)), (by repeat (first | exact hs_eq _ _ _ | refine hs_ne (by omega) ?_ | assumption)), (by repeat (first | exact hs_eq _ _ _ | refine hs_ne (by omega) ?_ | assumption)), (by repeat (first | exact hs_eq _ _ _ | refine hs_ne (by omega) ?_ | assumption)), (by repeat (first | exact hs_eq _ _ _ | refine hs_ne (by omega) ?_ | assumption))⟩)
                                      | (have hc : du = 2 ∧ ww = 44 := by omega
                                         refine Or.inl ⟨rfl, by unfold pOk; omega, ?_, fun aaa haa => by repeat (first | rfl | refine hs_ne (by omega) ?_)⟩
                                         simp only [pStep, if_neg (show ¬ du = 0 by omega), if_neg (show ¬ ww = 47 by omega), if_pos hc.2]
                                         exact ⟨(by repeat (first | exact hs_eq _ _ _ | refine hs_ne (by omega) ?_ | assumption)), (by repeat (first | exact hs_eq _ _ _ | refine hs_ne (by omega) ?_ | assumption)), (by repeat (first | exact hs_eq _ _ _ | refine hs_ne (by omega) ?_ | assumption)), (by repeat (first | exact hs_eq _ _ _ | refine hs_ne (by omega) ?_ | assumption)), (by repeat (first | exact hs_eq _ _ _ | refine hs_ne (by omega) ?_ | assumption)), (by repeat (first | exact hs_eq _ _ _ | refine hs_ne (by omega) ?_ | assumption))⟩)
                                      | (have hc : 48 ≤ ww := hl.1
                                         refine Or.inl ⟨rfl, by unfold pOk; omega, ?_, hF1⟩
                                         simp only [pStep, if_neg (show ¬ du = 0 by omega), if_neg (show ¬ ww = 47 by omega), if_neg (show ¬ ww = 44 by omega)]
                                         exact hM1)
                                      | exact Or.inr ⟨rfl, by unfold pOk; omega, ⟨_, _, _, hM1⟩, hF1⟩
                                  · skip
                                    refine k_zret C hr dX8_takes__103 (by omega) ?_
                                    first
                                      | (exfalso; omega)
                                      | (have hd0 : du = 0 := by omega
                                         first
                                           | (refine Or.inl ⟨rfl, Or.inl ⟨hd0, hl⟩, ?_, hF1⟩
                                              simp only [pStep, if_pos hd0]
                                              exact hM1)
                                           | exact Or.inr ⟨rfl, by unfold pOk; omega, ⟨_, _, _, hM1⟩, hF1⟩)
                                      | (have hc : du = 1 ∧ ww = 47 := by omega
                                         refine Or.inl ⟨rfl, by unfold pOk; omega, ?_, fun aaa haa => by repeat (first | rfl | refine hs_ne (by omega) ?_)⟩
                                         simp only [pStep, if_neg (show ¬ du = 0 by omega), if_pos hc.2]
                                         exact ⟨(by repeat (first | exact hs_eq _ _ _ | refine hs_ne (by omega) ?_ | assumption)), (by repeat (first | exact hs_eq _ _ _ | refine hs_ne (by omega) ?_ | assumption)), (by repeat (first | exact hs_eq _ _ _ | refine hs_ne (by omega) ?_ | assumption)), (by repeat (first | exact hs_eq _ _ _ | refine hs_ne (by omega) ?_ | assumption)), (by repeat (first | exact hs_eq _ _ _ | refine hs_ne (by omega) ?_ | assumption)), (by repeat (first | exact hs_eq _ _ _ | refine hs_ne (by omega) ?_ | assumption))⟩)
                                      | (have hc : du = 2 ∧ ww = 44 := by omega
                                         refine Or.inl ⟨rfl, by unfold pOk; omega, ?_, fun aaa haa => by repeat (first | rfl | refine hs_ne (by omega) ?_)⟩
                                         simp only [pStep, if_neg (show ¬ du = 0 by omega), if_neg (show ¬ ww = 47 by omega), if_pos hc.2]
                                         exact ⟨(by repeat (first | exact hs_eq _ _ _ | refine hs_ne (by omega) ?_ | assumption)), (by repeat (first | exact hs_eq _ _ _ | refine hs_ne (by omega) ?_ | assumption)), (by repeat (first | exact hs_eq _ _ _ | refine hs_ne (by omega) ?_ | assumption)), (by repeat (first | exact hs_eq _ _ _ | refine hs_ne (by omega) ?_ | assumption)), (by repeat (first | exact hs_eq _ _ _ | refine hs_ne (by omega) ?_ | assumption)), (by repeat (first | exact hs_eq _ _ _ | refine hs_ne (by omega) ?_ | assumption))⟩)
                                      | (have hc : 48 ≤ ww := hl.1
                                         refine Or.inl ⟨rfl, by unfold pOk; omega, ?_, hF1⟩
                                         simp only [pStep, if_neg (show ¬ du = 0 by omega), if_neg (show ¬ ww = 47 by omega), if_neg (show ¬ ww = 44 by omega)]
                                         exact hM1)
                                      | exact Or.inr ⟨rfl, by unfold pOk; omega, ⟨_, _, _, hM1⟩, hF1⟩)
                              · try (exfalso; omega)
                                all_goals (
                                  refine k_aload_n C dX8_takes__81 rfl ?_
                                  refine k_dup C dX8_takes__82 rfl ?_
                                  refine k_get C (k := 8) inX8 (ci := 8) rfl (by decide) fl_X8_129 dX8_takes__83 (by repeat (first | exact hs_eq _ _ _ | refine hs_ne (by omega) ?_ | assumption)) rfl ?_
                                  refine k_iconst C dX8_takes__86 ?_
                                  refine k_iadd C dX8_takes__87 ?_
                                  refine k_put C (k := 8) inX8 tyX8_ok nmX8 (ci := 8) rfl (by decide) fl_X8_129 rfl (Nat.le_of_ble_eq_true rfl) dX8_takes__88 (by repeat (first | exact hs_eq _ _ _ | refine hs_ne (by omega) ?_ | assumption)) ?_
                                  refine k_aload_n C dX8_takes__91 rfl ?_
                                  refine k_iconst C dX8_takes__92 ?_
                                  refine k_put C (k := 9) inX8 tyX8_ok nmX8 (ci := 8) rfl (by decide) fl_X8_132 rfl (Nat.le_of_ble_eq_true rfl) dX8_takes__93 (by repeat (first | exact hs_eq _ _ _ | refine hs_ne (by omega) ?_ | assumption)) ?_
                                  refine k_iconst C dX8_takes__96 ?_
                                  refine k_zret C hr dX8_takes__97 (by omega) ?_
                                  first
                                    | (exfalso; omega)
                                    | (have hd0 : du = 0 := by omega
                                       first
                                         | (refine Or.inl ⟨rfl, Or.inl ⟨hd0, hl⟩, ?_, hF1⟩
                                            simp only [pStep, if_pos hd0]
                                            exact hM1)
                                         | exact Or.inr ⟨rfl, by unfold pOk; omega, ⟨_, _, _, hM1⟩, hF1⟩)
                                    | (have hc : du = 1 ∧ ww = 47 := by omega
                                       refine Or.inl ⟨rfl, by unfold pOk; omega, ?_, fun aaa haa => by repeat (first | rfl | refine hs_ne (by omega) ?_)⟩
                                       simp only [pStep, if_neg (show ¬ du = 0 by omega), if_pos hc.2]
                                       exact ⟨(by repeat (first | exact hs_eq _ _ _ | refine hs_ne (by omega) ?_ | assumption)), (by repeat (first | exact hs_eq _ _ _ | refine hs_ne (by omega) ?_ | assumption)), (by repeat (first | exact hs_eq _ _ _ | refine hs_ne (by omega) ?_ | assumption)), (by repeat (first | exact hs_eq _ _ _ | refine hs_ne (by omega) ?_ | assumption)), (by repeat (first | exact hs_eq _ _ _ | refine hs_ne (by omega) ?_ | assumption)), (by repeat (first | exact hs_eq _ _ _ | refine hs_ne (by omega) ?_ | assumption))⟩)
                                    | (have hc : du = 2 ∧ ww = 44 := by omega
                                       refine Or.inl ⟨rfl, by unfold pOk; omega, ?_, fun aaa haa => by repeat (first | rfl | refine hs_ne (by omega) ?_)⟩
                                       simp only [pStep, if_neg (show ¬ du = 0 by omega), if_neg (show ¬ ww = 47 by omega), if_pos hc.2]
                                       exact ⟨(by repeat (first | exact hs_eq _ _ _ | refine hs_ne (by omega) ?_ | assumption)), (by repeat (first | exact hs_eq _ _ _ | refine hs_ne (by omega) ?_ | assumption)), (by repeat (first | exact hs_eq _ _ _ | refine hs_ne (by omega) ?_ | assumption)), (by repeat (first | exact hs_eq _ _ _ | refine hs_ne (by omega) ?_ | assumption)), (by repeat (first | exact hs_eq _ _ _ | refine hs_ne (by omega) ?_ | assumption)), (by repeat (first | exact hs_eq _ _ _ | refine hs_ne (by omega) ?_ | assumption))⟩)
                                    | (have hc : 48 ≤ ww := hl.1
                                       refine Or.inl ⟨rfl, by unfold pOk; omega, ?_, hF1⟩
                                       simp only [pStep, if_neg (show ¬ du = 0 by omega), if_neg (show ¬ ww = 47 by omega), if_neg (show ¬ ww = 44 by omega)]
                                       exact hM1)
                                    | exact Or.inr ⟨rfl, by unfold pOk; omega, ⟨_, _, _, hM1⟩, hF1⟩))))
                  · try (exfalso; omega)
                    all_goals (
                      refine k_aload_n C dX8_takes__56 rfl ?_
                      refine k_iconst C dX8_takes__57 ?_
                      refine k_put C (k := 9) inX8 tyX8_ok nmX8 (ci := 8) rfl (by decide) fl_X8_132 rfl (Nat.le_of_ble_eq_true rfl) dX8_takes__58 (by repeat (first | exact hs_eq _ _ _ | refine hs_ne (by omega) ?_ | assumption)) ?_
                      refine k_iconst C dX8_takes__61 ?_
                      refine k_zret C hr dX8_takes__62 (by omega) ?_
                      first
                        | (exfalso; omega)
                        | (have hd0 : du = 0 := by omega
                           first
                             | (refine Or.inl ⟨rfl, Or.inl ⟨hd0, hl⟩, ?_, hF1⟩
                                simp only [pStep, if_pos hd0]
                                exact hM1)
                             | exact Or.inr ⟨rfl, by unfold pOk; omega, ⟨_, _, _, hM1⟩, hF1⟩)
                        | (have hc : du = 1 ∧ ww = 47 := by omega
                           refine Or.inl ⟨rfl, by unfold pOk; omega, ?_, fun aaa haa => by repeat (first | rfl | refine hs_ne (by omega) ?_)⟩
                           simp only [pStep, if_neg (show ¬ du = 0 by omega), if_pos hc.2]
                           exact ⟨(by repeat (first | exact hs_eq _ _ _ | refine hs_ne (by omega) ?_ | assumption)), (by repeat (first | exact hs_eq _ _ _ | refine hs_ne (by omega) ?_ | assumption)), (by repeat (first | exact hs_eq _ _ _ | refine hs_ne (by omega) ?_ | assumption)), (by repeat (first | exact hs_eq _ _ _ | refine hs_ne (by omega) ?_ | assumption)), (by repeat (first | exact hs_eq _ _ _ | refine hs_ne (by omega) ?_ | assumption)), (by repeat (first | exact hs_eq _ _ _ | refine hs_ne (by omega) ?_ | assumption))⟩)
                        | (have hc : du = 2 ∧ ww = 44 := by omega
                           refine Or.inl ⟨rfl, by unfold pOk; omega, ?_, fun aaa haa => by repeat (first | rfl | refine hs_ne (by omega) ?_)⟩
                           simp only [pStep, if_neg (show ¬ du = 0 by omega), if_neg (show ¬ ww = 47 by omega), if_pos hc.2]
                           exact ⟨(by repeat (first | exact hs_eq _ _ _ | refine hs_ne (by omega) ?_ | assumption)), (by repeat (first | exact hs_eq _ _ _ | refine hs_ne (by omega) ?_ | assumption)), (by repeat (first | exact hs_eq _ _ _ | refine hs_ne (by omega) ?_ | assumption)), (by repeat (first | exact hs_eq _ _ _ | refine hs_ne (by omega) ?_ | assumption)), (by repeat (first | exact hs_eq _ _ _ | refine hs_ne (by omega) ?_ | assumption)), (by repeat (first | exact hs_eq _ _ _ | refine hs_ne (by omega) ?_ | assumption))⟩)
                        | (have hc : 48 ≤ ww := hl.1
                           refine Or.inl ⟨rfl, by unfold pOk; omega, ?_, hF1⟩
                           simp only [pStep, if_neg (show ¬ du = 0 by omega), if_neg (show ¬ ww = 47 by omega), if_neg (show ¬ ww = 44 by omega)]
                           exact hM1)
                        | exact Or.inr ⟨rfl, by unfold pOk; omega, ⟨_, _, _, hM1⟩, hF1⟩)))))
  · try (exfalso; omega)
    all_goals (
      refine k_aload_n C dX8_takes__7 rfl ?_
      refine k_iload_n C dX8_takes__8 rfl ?_
      refine k_callV C (n := 1) (as := [_]) (ct_X8_takesLetter l D tc base oo zrr hhi htx has hro st ln th re du hsh _ hM _ ⟨by omega, by omega⟩ (by omega)) ml_X8_135 im_X8_takesLetter se_X8_takesLetter ini_X8 co_X8_takesLetter ⟨rfl, by decide, by decide, by decide +kernel⟩ rfl (ci := 8) rfl (by repeat (first | exact hs_eq _ _ _ | refine hs_ne (by omega) ?_ | assumption)) ⟨by decide, by decide⟩ rfl (Nat.le_of_ble_eq_true rfl) ⟨Nat.zero_le _, Nat.zero_le _⟩ dX8_takes__9 ?_
      rintro _ _ (⟨rfl, hl, hM1, hF1⟩ | ⟨rfl, hl, hM1, hF1⟩)
      · skip
        refine k_zret C hr dX8_takes__12 (by omega) ?_
        first
          | (exfalso; omega)
          | (have hd0 : du = 0 := by omega
             first
               | (refine Or.inl ⟨rfl, Or.inl ⟨hd0, hl⟩, ?_, hF1⟩
                  simp only [pStep, if_pos hd0]
                  exact hM1)
               | exact Or.inr ⟨rfl, by unfold pOk; omega, ⟨_, _, _, hM1⟩, hF1⟩)
          | (have hc : du = 1 ∧ ww = 47 := by omega
             refine Or.inl ⟨rfl, by unfold pOk; omega, ?_, fun aaa haa => by repeat (first | rfl | refine hs_ne (by omega) ?_)⟩
             simp only [pStep, if_neg (show ¬ du = 0 by omega), if_pos hc.2]
             exact ⟨(by repeat (first | exact hs_eq _ _ _ | refine hs_ne (by omega) ?_ | assumption)), (by repeat (first | exact hs_eq _ _ _ | refine hs_ne (by omega) ?_ | assumption)), (by repeat (first | exact hs_eq _ _ _ | refine hs_ne (by omega) ?_ | assumption)), (by repeat (first | exact hs_eq _ _ _ | refine hs_ne (by omega) ?_ | assumption)), (by repeat (first | exact hs_eq _ _ _ | refine hs_ne (by omega) ?_ | assumption)), (by repeat (first | exact hs_eq _ _ _ | refine hs_ne (by omega) ?_ | assumption))⟩)
          | (have hc : du = 2 ∧ ww = 44 := by omega
             refine Or.inl ⟨rfl, by unfold pOk; omega, ?_, fun aaa haa => by repeat (first | rfl | refine hs_ne (by omega) ?_)⟩
             simp only [pStep, if_neg (show ¬ du = 0 by omega), if_neg (show ¬ ww = 47 by omega), if_pos hc.2]
             exact ⟨(by repeat (first | exact hs_eq _ _ _ | refine hs_ne (by omega) ?_ | assumption)), (by repeat (first | exact hs_eq _ _ _ | refine hs_ne (by omega) ?_ | assumption)), (by repeat (first | exact hs_eq _ _ _ | refine hs_ne (by omega) ?_ | assumption)), (by repeat (first | exact hs_eq _ _ _ | refine hs_ne (by omega) ?_ | assumption)), (by repeat (first | exact hs_eq _ _ _ | refine hs_ne (by omega) ?_ | assumption)), (by repeat (first | exact hs_eq _ _ _ | refine hs_ne (by omega) ?_ | assumption))⟩)
          | (have hc : 48 ≤ ww := hl.1
             refine Or.inl ⟨rfl, by unfold pOk; omega, ?_, hF1⟩
             simp only [pStep, if_neg (show ¬ du = 0 by omega), if_neg (show ¬ ww = 47 by omega), if_neg (show ¬ ww = 44 by omega)]
             exact hM1)
          | exact Or.inr ⟨rfl, by unfold pOk; omega, ⟨_, _, _, hM1⟩, hF1⟩
      · skip
        refine k_zret C hr dX8_takes__12 (by omega) ?_
        first
          | (exfalso; omega)
          | (have hd0 : du = 0 := by omega
             first
               | (refine Or.inl ⟨rfl, Or.inl ⟨hd0, hl⟩, ?_, hF1⟩
                  simp only [pStep, if_pos hd0]
                  exact hM1)
               | exact Or.inr ⟨rfl, by unfold pOk; omega, ⟨_, _, _, hM1⟩, hF1⟩)
          | (have hc : du = 1 ∧ ww = 47 := by omega
             refine Or.inl ⟨rfl, by unfold pOk; omega, ?_, fun aaa haa => by repeat (first | rfl | refine hs_ne (by omega) ?_)⟩
             simp only [pStep, if_neg (show ¬ du = 0 by omega), if_pos hc.2]
             exact ⟨(by repeat (first | exact hs_eq _ _ _ | refine hs_ne (by omega) ?_ | assumption)), (by repeat (first | exact hs_eq _ _ _ | refine hs_ne (by omega) ?_ | assumption)), (by repeat (first | exact hs_eq _ _ _ | refine hs_ne (by omega) ?_ | assumption)), (by repeat (first | exact hs_eq _ _ _ | refine hs_ne (by omega) ?_ | assumption)), (by repeat (first | exact hs_eq _ _ _ | refine hs_ne (by omega) ?_ | assumption)), (by repeat (first | exact hs_eq _ _ _ | refine hs_ne (by omega) ?_ | assumption))⟩)
          | (have hc : du = 2 ∧ ww = 44 := by omega
             refine Or.inl ⟨rfl, by unfold pOk; omega, ?_, fun aaa haa => by repeat (first | rfl | refine hs_ne (by omega) ?_)⟩
             simp only [pStep, if_neg (show ¬ du = 0 by omega), if_neg (show ¬ ww = 47 by omega), if_pos hc.2]
             exact ⟨(by repeat (first | exact hs_eq _ _ _ | refine hs_ne (by omega) ?_ | assumption)), (by repeat (first | exact hs_eq _ _ _ | refine hs_ne (by omega) ?_ | assumption)), (by repeat (first | exact hs_eq _ _ _ | refine hs_ne (by omega) ?_ | assumption)), (by repeat (first | exact hs_eq _ _ _ | refine hs_ne (by omega) ?_ | assumption)), (by repeat (first | exact hs_eq _ _ _ | refine hs_ne (by omega) ?_ | assumption)), (by repeat (first | exact hs_eq _ _ _ | refine hs_ne (by omega) ?_ | assumption))⟩)
          | (have hc : 48 ≤ ww := hl.1
             refine Or.inl ⟨rfl, by unfold pOk; omega, ?_, hF1⟩
             simp only [pStep, if_neg (show ¬ du = 0 by omega), if_neg (show ¬ ww = 47 by omega), if_neg (show ¬ ww = 44 by omega)]
             exact hM1)
          | exact Or.inr ⟨rfl, by unfold pOk; omega, ⟨_, _, _, hM1⟩, hF1⟩)

set_option maxRecDepth 20000 in
set_option maxHeartbeats 1000000 in
theorem ct_X8_rightUpTo (l : Launch) (D : va_G) (tc : Nat → ClassId) (base : Nat) (oo : Nat) (zrr hhi htx has hro : Int → Int) (st ln th re du hsh : Int) (hpp : AH) (hM : MA hpp oo zrr hhi htx has hro st ln th re du hsh) (hln : 0 ≤ ln ∧ ln ≤ 60) (htr : ∀ jj : Int, 0 ≤ jj → jj < ln → 33 ≤ htx jj ∧ htx jj ≤ 126) : CT l D tc base yX8_rightUpTo cX8_rightUpTo 2 (some .int) 3 [aR oo] hpp (fun r h' => ∃ nn : Nat, r = some (aI nn) ∧ nn ≤ ln ∧ pFine htx hro nn ∧ (((nn : Int) = ln ∧ MA h' oo (zrr) (hhi) (htx) (has) ((pS htx hro nn).2.2) (st) (ln) (th) ((pS htx hro nn).1) ((pS htx hro nn).2.1) (hsh)) ∨ ((nn : Int) < ln ∧ ¬ pOk (htx nn) (pS htx hro nn).1 (pS htx hro nn).2.1 (pS htx hro nn).2.2 ∧ (∃ (rex dux : Int) (hrx : Int → Int), MA h' oo zrr hhi htx has hrx st ln th rex dux hsh))) ∧ Fr hpp h' oo 6) := by
  refine CT.of [some (aR oo), none] (by decide +kernel) rfl (Nat.le_of_ble_eq_true rfl) ?_
  intro p e s m args below meth c C hr hnm
  obtain ⟨g0, g1, g2, g3, g4, g5⟩ := id hM
  refine k_aload_n C dX8_rightUpTo_0 rfl ?_
  refine k_iconst C dX8_rightUpTo_1 ?_
  refine k_put C (k := 8) inX8 tyX8_ok nmX8 (ci := 8) rfl (by decide) fl_X8_129 rfl (Nat.le_of_ble_eq_true rfl) dX8_rightUpTo_2 (by repeat (first | exact hs_eq _ _ _ | refine hs_ne (by omega) ?_ | assumption)) ?_
  refine k_aload_n C dX8_rightUpTo_5 rfl ?_
  refine k_iconst C dX8_rightUpTo_6 ?_
  refine k_put C (k := 9) inX8 tyX8_ok nmX8 (ci := 8) rfl (by decide) fl_X8_132 rfl (Nat.le_of_ble_eq_true rfl) dX8_rightUpTo_7 (by repeat (first | exact hs_eq _ _ _ | refine hs_ne (by omega) ?_ | assumption)) ?_
  refine k_iconst C dX8_rightUpTo_10 ?_
  refine k_istore_n C dX8_rightUpTo_11 (by decide) rfl ?_
  have loop12 : ∀ (n : Nat) (kk : Nat) (hkk : AH), (kk : Int) ≤ ln → pFine htx hro kk → MA hkk oo (zrr) (hhi) (htx) (has) ((pS htx hro kk).2.2) (st) (ln) (th) ((pS htx hro kk).1) ((pS htx hro kk).2.1) (hsh) → Fr hpp hkk oo 6 → ln - kk < (n : Int) → Wk D tc base 2 p l e (lvR 3) s m args below meth c 0 0 (MQ below (Qx D tc base (fun r h' => ∃ nn : Nat, r = some (aI nn) ∧ nn ≤ ln ∧ pFine htx hro nn ∧ (((nn : Int) = ln ∧ MA h' oo (zrr) (hhi) (htx) (has) ((pS htx hro nn).2.2) (st) (ln) (th) ((pS htx hro nn).1) ((pS htx hro nn).2.1) (hsh)) ∨ ((nn : Int) < ln ∧ ¬ pOk (htx nn) (pS htx hro nn).1 (pS htx hro nn).2.1 (pS htx hro nn).2.2 ∧ (∃ (rex dux : Int) (hrx : Int → Int), MA h' oo zrr hhi htx has hrx st ln th rex dux hsh))) ∧ Fr hpp h' oo 6)) args s 0 0 (fun q => base ≤ q)) 12 [some (aR oo), some (aI kk)] [] hkk := by
    intro n
    induction n with
    | zero =>
      intro kk hkk hk hpf hMk hFk hmu
      exfalso
      omega
    | succ n ih =>
      intro kk hkk hk hpf hMk hFk hmu
      obtain ⟨k0, k1, k2, k3, k4, k5⟩ := id hMk
      have hpi := pInv_run hpf
      refine k_iload_n C dX8_rightUpTo_12 rfl ?_
      refine k_aload_n C dX8_rightUpTo_13 rfl ?_
      refine k_get C (k := 3) inX8 (ci := 8) rfl (by decide) fl_X8_126 dX8_rightUpTo_14 (by repeat (first | exact hs_eq _ _ _ | refine hs_ne (by omega) ?_ | assumption)) rfl ?_
      refine k_icmp_ge (tgt := 39) C dX8_rightUpTo_17 (by decide) ⟨by omega, by omega⟩ ⟨by omega, by omega⟩ (fun c17 => ?_) (fun c17 => ?_)
      · try (exfalso; omega)
        all_goals (
          refine k_iload_n C dX8_rightUpTo_39 rfl ?_
          refine k_iret C hr dX8_rightUpTo_40 ?_
          first
            | exact ⟨kk, rfl, hk, hpf, Or.inl ⟨by omega, hMk⟩, hFk⟩
            | exact ⟨kk, rfl, hk, hpf, Or.inr ⟨by omega, hok, hM2⟩, hFk.tr hF2⟩)
      · try (exfalso; omega)
        all_goals (
          refine k_aload_n C dX8_rightUpTo_20 rfl ?_
          refine k_aload_n C dX8_rightUpTo_21 rfl ?_
          refine k_get C (k := 4) inX8 (ci := 8) rfl (by decide) fl_X8_16 dX8_rightUpTo_22 (by repeat (first | exact hs_eq _ _ _ | refine hs_ne (by omega) ?_ | assumption)) rfl ?_
          refine k_iload_n C dX8_rightUpTo_25 rfl ?_
          refine k_iaload C dX8_rightUpTo_26 (by repeat (first | exact hs_eq _ _ _ | refine hs_ne (by omega) ?_ | assumption)) (by omega) (by omega) (by omega) ?_
          refine k_callV C (n := 1) (as := [_]) (ct_X8_takes_ l D tc base oo zrr hhi htx has _ st ln th _ _ hsh _ hMk _ (htr kk (by omega) (by omega)) kk (by omega) hpi) ml_X8_141 im_X8_takes_ se_X8_takes_ ini_X8 co_X8_takes_ ⟨rfl, by decide, by decide, by decide +kernel⟩ rfl (ci := 8) rfl (by repeat (first | exact hs_eq _ _ _ | refine hs_ne (by omega) ?_ | assumption)) ⟨by decide, by decide⟩ rfl (Nat.le_of_ble_eq_true rfl) ⟨Nat.zero_le _, Nat.zero_le _⟩ dX8_rightUpTo_27 ?_
          rintro _ _ (⟨rfl, hok, hM2, hF2⟩ | ⟨rfl, hok, hM2, hF2⟩)
          · skip
            refine k_if_eq (tgt := 39) C dX8_rightUpTo_30 (by decide) ⟨by omega, by omega⟩ (fun c30 => ?_) (fun c30 => ?_)
            · try (exfalso; omega)
              all_goals (
                refine k_iload_n C dX8_rightUpTo_39 rfl ?_
                refine k_iret C hr dX8_rightUpTo_40 ?_
                first
                  | exact ⟨kk, rfl, hk, hpf, Or.inl ⟨by omega, hMk⟩, hFk⟩
                  | exact ⟨kk, rfl, hk, hpf, Or.inr ⟨by omega, hok, hM2⟩, hFk.tr hF2⟩)
            · try (exfalso; omega)
              all_goals (
                refine k_iinc C dX8_rightUpTo_33 rfl (by decide) rfl ?_
                refine k_goto (tgt := 12) C dX8_rightUpTo_36 (by decide) ?_
                have e2 : ((kk + 1 : Nat) : Int) = (kk : Int) + 1 := by omega
                have q1 := ih (kk + 1) _ (by omega) (fun j hj => by
                  by_cases hjk : j = kk
                  · subst hjk
                    exact hok
                  · exact hpf j (by omega)) hM2 (hFk.tr hF2) (by omega)
                rw [e2] at q1
                exact q1)
          · skip
            refine k_if_eq (tgt := 39) C dX8_rightUpTo_30 (by decide) ⟨by omega, by omega⟩ (fun c30 => ?_) (fun c30 => ?_)
            · try (exfalso; omega)
              all_goals (
                refine k_iload_n C dX8_rightUpTo_39 rfl ?_
                refine k_iret C hr dX8_rightUpTo_40 ?_
                first
                  | exact ⟨kk, rfl, hk, hpf, Or.inl ⟨by omega, hMk⟩, hFk⟩
                  | exact ⟨kk, rfl, hk, hpf, Or.inr ⟨by omega, hok, hM2⟩, hFk.tr hF2⟩)
            · try (exfalso; omega)
              all_goals (
                refine k_iinc C dX8_rightUpTo_33 rfl (by decide) rfl ?_
                refine k_goto (tgt := 12) C dX8_rightUpTo_36 (by decide) ?_
                have e2 : ((kk + 1 : Nat) : Int) = (kk : Int) + 1 := by omega
                have q1 := ih (kk + 1) _ (by omega) (fun j hj => by
                  by_cases hjk : j = kk
                  · subst hjk
                    exact hok
                  · exact hpf j (by omega)) hM2 (hFk.tr hF2) (by omega)
                rw [e2] at q1
                exact q1))
  exact loop12 (ln + 1).toNat 0 _ (by omega) (fun k hk => by omega) ⟨(by repeat (first | exact hs_eq _ _ _ | refine hs_ne (by omega) ?_ | assumption)), (by repeat (first | exact hs_eq _ _ _ | refine hs_ne (by omega) ?_ | assumption)), (by repeat (first | exact hs_eq _ _ _ | refine hs_ne (by omega) ?_ | assumption)), (by repeat (first | exact hs_eq _ _ _ | refine hs_ne (by omega) ?_ | assumption)), (by repeat (first | exact hs_eq _ _ _ | refine hs_ne (by omega) ?_ | assumption)), (by repeat (first | exact hs_eq _ _ _ | refine hs_ne (by omega) ?_ | assumption))⟩ (fun aaa haa => by repeat (first | rfl | refine hs_ne (by omega) ?_)) (by omega)

set_option maxRecDepth 20000 in
set_option maxHeartbeats 1000000 in
theorem ct_X8_firstError (l : Launch) (D : va_G) (tc : Nat → ClassId) (base : Nat) (oo : Nat) (zrr hhi htx has hro : Int → Int) (st ln th re du hsh : Int) (hpp : AH) (hM : MA hpp oo zrr hhi htx has hro st ln th re du hsh) (hln : 0 ≤ ln ∧ ln ≤ 60) (htr : ∀ jj : Int, 0 ≤ jj → jj < ln → 33 ≤ htx jj ∧ htx jj ≤ 126) : CT l D tc base yX8_firstError cX8_firstError 1 (some .int) 4 [aR oo] hpp (fun r h' => ∃ nn : Nat, r = some (aI nn) ∧ nn ≤ ln ∧ pFine htx hro nn ∧ ((nn : Int) = ln ∨ ((nn : Int) < ln ∧ ¬ pOk (htx nn) (pS htx hro nn).1 (pS htx hro nn).2.1 (pS htx hro nn).2.2)) ∧ (∃ (rex dux : Int) (hrx : Int → Int), MA h' oo zrr hhi htx has hrx st ln 0 rex dux hsh) ∧ Fr hpp h' oo 6) := by
  refine CT.of [some (aR oo)] (by decide +kernel) rfl (Nat.le_of_ble_eq_true rfl) ?_
  intro p e s m args below meth c C hr hnm
  obtain ⟨g0, g1, g2, g3, g4, g5⟩ := id hM
  refine k_aload_n C dX8_firstError_0 rfl ?_
  refine k_iconst C dX8_firstError_1 ?_
  refine k_put C (k := 5) inX8 tyX8_ok nmX8 (ci := 8) rfl (by decide) fl_X8_25 rfl (Nat.le_of_ble_eq_true rfl) dX8_firstError_2 (by repeat (first | exact hs_eq _ _ _ | refine hs_ne (by omega) ?_ | assumption)) ?_
  refine k_aload_n C dX8_firstError_5 rfl ?_
  refine k_callV C (n := 0) (as := []) (ct_X8_rightUpTo l D tc base oo zrr hhi htx has hro st ln 0 re du hsh _ ⟨(by repeat (first | exact hs_eq _ _ _ | refine hs_ne (by omega) ?_ | assumption)), (by repeat (first | exact hs_eq _ _ _ | refine hs_ne (by omega) ?_ | assumption)), (by repeat (first | exact hs_eq _ _ _ | refine hs_ne (by omega) ?_ | assumption)), (by repeat (first | exact hs_eq _ _ _ | refine hs_ne (by omega) ?_ | assumption)), (by repeat (first | exact hs_eq _ _ _ | refine hs_ne (by omega) ?_ | assumption)), (by repeat (first | exact hs_eq _ _ _ | refine hs_ne (by omega) ?_ | assumption))⟩ hln htr) ml_X8_143 im_X8_rightUpTo se_X8_rightUpTo ini_X8 co_X8_rightUpTo ⟨rfl, by decide, by decide, by decide +kernel⟩ rfl (ci := 8) rfl (by repeat (first | exact hs_eq _ _ _ | refine hs_ne (by omega) ?_ | assumption)) ⟨by decide, by decide⟩ rfl (Nat.le_of_ble_eq_true rfl) ⟨Nat.zero_le _, Nat.zero_le _⟩ dX8_firstError_6 ?_
  rintro _ _ ⟨nn, rfl, hn1, hn2, hn3, hF3⟩
  refine k_iret C hr dX8_firstError_9 ?_
  rcases hn3 with ⟨q1, q2⟩ | ⟨q1, q2, q3⟩
  · exact ⟨nn, rfl, hn1, hn2, Or.inl q1, ⟨_, _, _, q2⟩, Fr.tr (fun aaa haa => by repeat (first | rfl | refine hs_ne (by omega) ?_)) hF3⟩
  · exact ⟨nn, rfl, hn1, hn2, Or.inr ⟨q1, q2⟩, q3, Fr.tr (fun aaa haa => by repeat (first | rfl | refine hs_ne (by omega) ?_)) hF3⟩
