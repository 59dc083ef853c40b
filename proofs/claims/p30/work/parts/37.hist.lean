set_option maxRecDepth 20000 in
set_option maxHeartbeats 1000000 in
theorem ct_X1_keep (l : Launch) (D : va_G) (tc : Nat → ClassId) (base : Nat) (hh oo : Nat) (st : Int) (hhi : Int → Int) (zrr : RZ) (hpp : AH) (hH : HAt hpp hh st hhi) (hS : SAt hpp oo zrr) (hst : 0 ≤ st ∧ st ≤ 6) (hdj : oo + 15 ≤ hh) (hok : zOk zrr) (h13 : zrr 13 ≤ 20000) : CT l D tc base yX1_keep cX1_keep 3 none 3 [aR hh, aR oo] hpp (fun r h' => r = none ∧ HAt h' hh (sSt st) (sHi zrr hhi st) ∧ Fr hpp h' hh 92) := by
  refine CT.of [some (aR hh), some (aR oo), none] (by decide +kernel) rfl (Nat.le_of_ble_eq_true rfl) ?_
  intro p e s m args below meth c C hr hnm
  obtain ⟨ol, ff, hol, g0, g1, hff, hsl, hrw⟩ := id hH
  have hf0 : ff ((ol + st) % 6) = some (hh + 2 + 15 * ((ol + st) % 6).toNat) := by
    have := hff ((ol + st) % 6).toNat (by omega)
    rw [show (((ol + st) % 6).toNat : Int) = (ol + st) % 6 by omega] at this
    exact this
  obtain ⟨zth, hSs⟩ := hsl ((ol + st) % 6).toNat (by omega)
  have hi := hok.1
  obtain ⟨fs1, q1⟩ := hSs.obj
  refine k_aload_n C dX1_keep_0 rfl ?_
  refine k_get C (k := 2) inX1 (ci := 1) rfl (by decide) fl_X1_11 dX1_keep_1 (by repeat (first | exact hs_eq _ _ _ | refine hs_ne (by omega) ?_ | assumption)) rfl ?_
  refine k_aload_n C dX1_keep_4 rfl ?_
  refine k_get C (k := 1) inX1 (ci := 1) rfl (by decide) fl_X1_18 dX1_keep_5 (by repeat (first | exact hs_eq _ _ _ | refine hs_ne (by omega) ?_ | assumption)) rfl ?_
  refine k_aload_n C dX1_keep_8 rfl ?_
  refine k_get C (k := 0) inX1 (ci := 1) rfl (by decide) fl_X1_22 dX1_keep_9 (by repeat (first | exact hs_eq _ _ _ | refine hs_ne (by omega) ?_ | assumption)) rfl ?_
  refine k_iadd C dX1_keep_12 ?_
  refine k_bipush C dX1_keep_13 (by decide +kernel) ?_
  refine k_callS C (n := 2) (as := [_, _]) (ct_J9_floorMod_7cf53 l D tc base _ _ _ ⟨by omega, by omega⟩ (Or.inr (Or.inr rfl))) ml_X1_25 sm_J9_floorMod_7cf53 ini_J9 co_J9_floorMod_7cf53 ⟨by decide, by decide, by decide +kernel⟩ rfl ⟨by decide, by decide⟩ rfl (Nat.le_of_ble_eq_true rfl) ⟨Nat.zero_le _, Nat.zero_le _⟩ dX1_keep_15 ?_
  rintro _ _ ⟨rfl, rfl⟩
  refine k_aaload C dX1_keep_18 (by repeat (first | exact hs_eq _ _ _ | refine hs_ne (by omega) ?_ | assumption)) (by omega) (by omega) (by omega) hf0 ?_
  refine k_astore_n C dX1_keep_19 (by decide) rfl ?_
  refine k_aload_n C dX1_keep_20 rfl ?_
  refine k_ifnull C dX1_keep_21 ?_
  refine k_aload_n C dX1_keep_24 rfl ?_
  refine k_aload_n C dX1_keep_25 rfl ?_
  refine k_callV C (n := 1) (as := [_]) (ct_X3_copyFrom l D tc base (hh + 2 + 15 * ((ol + st) % 6).toNat) oo zth zrr _ hSs hS hi (by omega)) ml_X1_31 im_X3_copyFrom se_X3_copyFrom ini_X3 co_X3_copyFrom ⟨rfl, by decide, by decide, by decide +kernel⟩ rfl (ci := 3) rfl (by repeat (first | exact hs_eq _ _ _ | refine hs_ne (by omega) ?_ | assumption)) ⟨by decide, by decide⟩ rfl (Nat.le_of_ble_eq_true rfl) ⟨Nat.zero_le _, Nat.zero_le _⟩ dX1_keep_26 ?_
  rintro _ hcp ⟨rfl, hS2, hF2⟩
  have k0 := (hF2 hh (by omega)).trans g0
  have k1 := (hF2 (hh + 1) (by omega)).trans g1
  refine k_aload_n C dX1_keep_29 rfl ?_
  refine k_get C (k := 0) inX1 (ci := 1) rfl (by decide) fl_X1_22 dX1_keep_30 (by repeat (first | exact hs_eq _ _ _ | refine hs_ne (by omega) ?_ | assumption)) rfl ?_
  refine k_bipush C dX1_keep_33 (by decide +kernel) ?_
  refine k_icmp_ge (tgt := 51) C dX1_keep_35 (by decide) ⟨by omega, by omega⟩ ⟨by omega, by omega⟩ (fun c35 => ?_) (fun c35 => ?_)
  · try (exfalso; omega)
    all_goals (
      refine k_aload_n C dX1_keep_51 rfl ?_
      refine k_aload_n C dX1_keep_52 rfl ?_
      refine k_get C (k := 1) inX1 (ci := 1) rfl (by decide) fl_X1_18 dX1_keep_53 (by repeat (first | exact hs_eq _ _ _ | refine hs_ne (by omega) ?_ | assumption)) rfl ?_
      refine k_iconst C dX1_keep_56 ?_
      refine k_iadd C dX1_keep_57 ?_
      refine k_bipush C dX1_keep_58 (by decide +kernel) ?_
      refine k_irem C dX1_keep_60 (by omega) (by omega) (by omega) (by omega) ?_
      refine k_put C (k := 1) inX1 tyX1_ok nmX1 (ci := 1) rfl (by decide) fl_X1_18 rfl (Nat.le_of_ble_eq_true rfl) dX1_keep_61 (by repeat (first | exact hs_eq _ _ _ | refine hs_ne (by omega) ?_ | assumption)) ?_
      refine k_vret C hr dX1_keep_64 ?_
      have hfr : ∀ (h1 : AH) (a : Nat), (∀ b : Nat, b ≠ hh → h1 b = hcp b) → a ≠ hh → h1 a = hcp a := fun h1 a q0 q1 => q0 a q1
      have hsn : ∀ (h1 : AH), (∀ b : Nat, b ≠ hh → h1 b = hcp b) → SAt h1 (hh + 2 + 15 * ((ol + st) % 6).toNat) zrr := fun h1 q0 => hS2.fr (fun a a0 a1 => q0 a (by omega))
      have hso : ∀ (h1 : AH), (∀ b : Nat, b ≠ hh → h1 b = hcp b) → ∀ (j : Nat) (zj : RZ), j < 6 → ¬ (j : Int) = (ol + st) % 6 → SAt hpp (hh + 2 + 15 * j) zj → SAt h1 (hh + 2 + 15 * j) zj := fun h1 q0 j zj hj hne hz => hz.fr (fun a a0 a1 => (q0 a (by omega)).trans (hF2 a (by omega)))
      refine ⟨rfl, ?_, ?_⟩
      · first
          | (have e6 : st < 6 := by omega
             have es : sSt st = st + 1 := if_neg (by omega)
             rw [es]
             refine ⟨ol, ff, hol, hs_eq _ _ _, hs_ne (by omega) k1, hff, fun j hj => ?_, fun k hk => ?_⟩
             · by_cases hjs : (j : Int) = (ol + st) % 6
               · refine ⟨zrr, ?_⟩
                 rw [show j = ((ol + st) % 6).toNat by omega]
                 exact hsn _ (fun b hb => hs_ne hb rfl)
               · obtain ⟨zj, hz⟩ := hsl j hj
                 exact ⟨zj, hso _ (fun b hb => hs_ne hb rfl) j zj hj hjs hz⟩
             · by_cases hks : (k : Int) = st
               · have hnew := sHi_new (z := zrr) (hi := hhi) hst.1 hst.2 (k := k) (by omega)
                 refine ⟨?_, hok.cong hnew, by rw [← hnew 13 (by omega) (by omega)]; exact h13⟩
                 have := (hsn (hs hcp hh (eO 1 [aI (st + 1), aI ol, aR (hh + 1)])) (fun b hb => hs_ne hb rfl)).cong hnew hi.1.2.2.2.2.2.2.2.2.1.2 hi.1.2.2.2.2.2.2.2.2.2.1.2
                 rw [hks]
                 exact this
               · have hold := sHi_old (z := zrr) (hi := hhi) hst.1 e6 (k := k) (by omega)
                 have hr := hrw k (by omega)
                 refine ⟨?_, hr.2.1.cong hold, by rw [← hold 13 (by omega) (by omega)]; exact hr.2.2⟩
                 exact (hso _ (fun b hb => hs_ne hb rfl) ((ol + k) % 6).toNat _ (by omega) (by omega) hr.1).cong hold hr.2.1.1.1.2.2.2.2.2.2.2.2.1.2 hr.2.1.1.1.2.2.2.2.2.2.2.2.2.1.2)
          | (have e6 : st = 6 := by omega
             subst e6
             have es : sSt 6 = 6 := if_pos rfl
             rw [es]
             refine ⟨(ol + 1) % 6, ff, ⟨by omega, by omega⟩, hs_eq _ _ _, hs_ne (by omega) k1, hff, fun j hj => ?_, fun k hk => ?_⟩
             · by_cases hjs : (j : Int) = (ol + 6) % 6
               · refine ⟨zrr, ?_⟩
                 rw [show j = ((ol + 6) % 6).toNat by omega]
                 exact hsn _ (fun b hb => hs_ne hb rfl)
               · obtain ⟨zj, hz⟩ := hsl j hj
                 exact ⟨zj, hso _ (fun b hb => hs_ne hb rfl) j zj hj hjs hz⟩
             · by_cases hks : k = 5
               · have hnew := sHi_new (z := zrr) (hi := hhi) hst.1 hst.2 (k := k) (by omega)
                 refine ⟨?_, hok.cong hnew, by rw [← hnew 13 (by omega) (by omega)]; exact h13⟩
                 have := (hsn (hs hcp hh (eO 1 [aI 6, aI ((ol + 1) % 6), aR (hh + 1)])) (fun b hb => hs_ne hb rfl)).cong hnew hi.1.2.2.2.2.2.2.2.2.1.2 hi.1.2.2.2.2.2.2.2.2.2.1.2
                 rw [show (((ol + 1) % 6 + (k : Int)) % 6).toNat = ((ol + 6) % 6).toNat by omega]
                 exact this
               · have hold := sHi_oldS (z := zrr) (hi := hhi) (k := k) (by omega)
                 have hr := hrw (k + 1) (by omega)
                 refine ⟨?_, hr.2.1.cong hold, by rw [← hold 13 (by omega) (by omega)]; exact hr.2.2⟩
                 rw [show (((ol + 1) % 6 + (k : Int)) % 6).toNat = ((ol + ((k + 1 : Nat) : Int)) % 6).toNat by omega]
                 exact (hso _ (fun b hb => hs_ne hb rfl) ((ol + ((k + 1 : Nat) : Int)) % 6).toNat _ (by omega) (by omega) hr.1).cong hold hr.2.1.1.1.2.2.2.2.2.2.2.2.1.2 hr.2.1.1.1.2.2.2.2.2.2.2.2.2.1.2)
      · intro a ha
        exact hs_ne (by omega) (hF2 a (by omega)))
  · try (exfalso; omega)
    all_goals (
      refine k_aload_n C dX1_keep_38 rfl ?_
      refine k_dup C dX1_keep_39 rfl ?_
      refine k_get C (k := 0) inX1 (ci := 1) rfl (by decide) fl_X1_22 dX1_keep_40 (by repeat (first | exact hs_eq _ _ _ | refine hs_ne (by omega) ?_ | assumption)) rfl ?_
      refine k_iconst C dX1_keep_43 ?_
      refine k_iadd C dX1_keep_44 ?_
      refine k_put C (k := 0) inX1 tyX1_ok nmX1 (ci := 1) rfl (by decide) fl_X1_22 rfl (Nat.le_of_ble_eq_true rfl) dX1_keep_45 (by repeat (first | exact hs_eq _ _ _ | refine hs_ne (by omega) ?_ | assumption)) ?_
      refine k_goto (tgt := 64) C dX1_keep_48 (by decide) ?_
      refine k_vret C hr dX1_keep_64 ?_
      have hfr : ∀ (h1 : AH) (a : Nat), (∀ b : Nat, b ≠ hh → h1 b = hcp b) → a ≠ hh → h1 a = hcp a := fun h1 a q0 q1 => q0 a q1
      have hsn : ∀ (h1 : AH), (∀ b : Nat, b ≠ hh → h1 b = hcp b) → SAt h1 (hh + 2 + 15 * ((ol + st) % 6).toNat) zrr := fun h1 q0 => hS2.fr (fun a a0 a1 => q0 a (by omega))
      have hso : ∀ (h1 : AH), (∀ b : Nat, b ≠ hh → h1 b = hcp b) → ∀ (j : Nat) (zj : RZ), j < 6 → ¬ (j : Int) = (ol + st) % 6 → SAt hpp (hh + 2 + 15 * j) zj → SAt h1 (hh + 2 + 15 * j) zj := fun h1 q0 j zj hj hne hz => hz.fr (fun a a0 a1 => (q0 a (by omega)).trans (hF2 a (by omega)))
      refine ⟨rfl, ?_, ?_⟩
      · first
          | (have e6 : st < 6 := by omega
             have es : sSt st = st + 1 := if_neg (by omega)
             rw [es]
             refine ⟨ol, ff, hol, hs_eq _ _ _, hs_ne (by omega) k1, hff, fun j hj => ?_, fun k hk => ?_⟩
             · by_cases hjs : (j : Int) = (ol + st) % 6
               · refine ⟨zrr, ?_⟩
                 rw [show j = ((ol + st) % 6).toNat by omega]
                 exact hsn _ (fun b hb => hs_ne hb rfl)
               · obtain ⟨zj, hz⟩ := hsl j hj
                 exact ⟨zj, hso _ (fun b hb => hs_ne hb rfl) j zj hj hjs hz⟩
             · by_cases hks : (k : Int) = st
               · have hnew := sHi_new (z := zrr) (hi := hhi) hst.1 hst.2 (k := k) (by omega)
                 refine ⟨?_, hok.cong hnew, by rw [← hnew 13 (by omega) (by omega)]; exact h13⟩
                 have := (hsn (hs hcp hh (eO 1 [aI (st + 1), aI ol, aR (hh + 1)])) (fun b hb => hs_ne hb rfl)).cong hnew hi.1.2.2.2.2.2.2.2.2.1.2 hi.1.2.2.2.2.2.2.2.2.2.1.2
                 rw [hks]
                 exact this
               · have hold := sHi_old (z := zrr) (hi := hhi) hst.1 e6 (k := k) (by omega)
                 have hr := hrw k (by omega)
                 refine ⟨?_, hr.2.1.cong hold, by rw [← hold 13 (by omega) (by omega)]; exact hr.2.2⟩
                 exact (hso _ (fun b hb => hs_ne hb rfl) ((ol + k) % 6).toNat _ (by omega) (by omega) hr.1).cong hold hr.2.1.1.1.2.2.2.2.2.2.2.2.1.2 hr.2.1.1.1.2.2.2.2.2.2.2.2.2.1.2)
          | (have e6 : st = 6 := by omega
             subst e6
             have es : sSt 6 = 6 := if_pos rfl
             rw [es]
             refine ⟨(ol + 1) % 6, ff, ⟨by omega, by omega⟩, hs_eq _ _ _, hs_ne (by omega) k1, hff, fun j hj => ?_, fun k hk => ?_⟩
             · by_cases hjs : (j : Int) = (ol + 6) % 6
               · refine ⟨zrr, ?_⟩
                 rw [show j = ((ol + 6) % 6).toNat by omega]
                 exact hsn _ (fun b hb => hs_ne hb rfl)
               · obtain ⟨zj, hz⟩ := hsl j hj
                 exact ⟨zj, hso _ (fun b hb => hs_ne hb rfl) j zj hj hjs hz⟩
             · by_cases hks : k = 5
               · have hnew := sHi_new (z := zrr) (hi := hhi) hst.1 hst.2 (k := k) (by omega)
                 refine ⟨?_, hok.cong hnew, by rw [← hnew 13 (by omega) (by omega)]; exact h13⟩
                 have := (hsn (hs hcp hh (eO 1 [aI 6, aI ((ol + 1) % 6), aR (hh + 1)])) (fun b hb => hs_ne hb rfl)).cong hnew hi.1.2.2.2.2.2.2.2.2.1.2 hi.1.2.2.2.2.2.2.2.2.2.1.2
                 rw [show (((ol + 1) % 6 + (k : Int)) % 6).toNat = ((ol + 6) % 6).toNat by omega]
                 exact this
               · have hold := sHi_oldS (z := zrr) (hi := hhi) (k := k) (by omega)
                 have hr := hrw (k + 1) (by omega)
                 refine ⟨?_, hr.2.1.cong hold, by rw [← hold 13 (by omega) (by omega)]; exact hr.2.2⟩
                 rw [show (((ol + 1) % 6 + (k : Int)) % 6).toNat = ((ol + ((k + 1 : Nat) : Int)) % 6).toNat by omega]
                 exact (hso _ (fun b hb => hs_ne hb rfl) ((ol + ((k + 1 : Nat) : Int)) % 6).toNat _ (by omega) (by omega) hr.1).cong hold hr.2.1.1.1.2.2.2.2.2.2.2.2.1.2 hr.2.1.1.1.2.2.2.2.2.2.2.2.2.1.2)
      · intro a ha
        exact hs_ne (by omega) (hF2 a (by omega)))

