set_option maxRecDepth 20000 in
set_option maxHeartbeats 1000000 in
theorem ct_X1_giveBack (l : Launch) (D : va_G) (tc : Nat → ClassId) (base : Nat) (hh oo : Nat) (st : Int) (hhi : Int → Int) (zrr : RZ) (hpp : AH) (hH : HAt hpp hh st hhi) (hS : SAt hpp oo zrr) (hst : 1 ≤ st ∧ st ≤ 6) (hdj : oo + 15 ≤ hh) : CT l D tc base yX1_giveBack cX1_giveBack 3 none 3 [aR hh, aR oo] hpp (fun r h' => r = none ∧ HAt h' hh (st - 1) hhi ∧ SAt h' oo (hRow hhi (st - 1).toNat) ∧ (∀ a : Nat, (a < oo ∨ oo + 15 ≤ a) → a ≠ hh → h' a = hpp a)) := by
  refine CT.of [some (aR hh), some (aR oo), none] (by decide +kernel) rfl (Nat.le_of_ble_eq_true rfl) ?_
  intro p e s m args below meth c C hr hnm
  obtain ⟨ol, ff, hol, g0, g1, hff, hsl, hrw⟩ := id hH
  have hf0 : ff ((ol + (st - 1)) % 6) = some (hh + 2 + 15 * ((ol + (st - 1)) % 6).toNat) := by
    have := hff ((ol + (st - 1)) % 6).toNat (by omega)
    rw [show (((ol + (st - 1)) % 6).toNat : Int) = (ol + (st - 1)) % 6 by omega] at this
    exact this
  have hr0 := hrw (st - 1).toNat (by omega)
  rw [show (((st - 1).toNat : Nat) : Int) = st - 1 by omega] at hr0
  have hS1 : SAt (hs hpp hh (eO 1 [aI (st - 1), aI ol, aR (hh + 1)])) oo zrr := hS.fr (fun a a0 a1 => hs_ne (by omega) rfl)
  have hSs : SAt (hs hpp hh (eO 1 [aI (st - 1), aI ol, aR (hh + 1)])) (hh + 2 + 15 * ((ol + (st - 1)) % 6).toNat) (hRow hhi (st - 1).toNat) := hr0.1.fr (fun a a0 a1 => hs_ne (by omega) rfl)
  have hi := hr0.2.1.1
  obtain ⟨fs1, q1⟩ := hS.obj
  have k1 : (hs hpp hh (eO 1 [aI (st - 1), aI ol, aR (hh + 1)])) (hh + 1) = some (eR 6 ff) := hs_ne (by omega) g1
  have k0 : (hs hpp hh (eO 1 [aI (st - 1), aI ol, aR (hh + 1)])) hh = some (eO 1 [aI (st - 1), aI ol, aR (hh + 1)]) := hs_eq _ _ _
  refine k_aload_n C dX1_giveBack_0 rfl ?_
  refine k_dup C dX1_giveBack_1 rfl ?_
  refine k_get C (k := 0) inX1 (ci := 1) rfl (by decide) fl_X1_22 dX1_giveBack_2 (by repeat (first | exact hs_eq _ _ _ | refine hs_ne (by omega) ?_ | assumption)) rfl ?_
  refine k_iconst C dX1_giveBack_5 ?_
  refine k_isub C dX1_giveBack_6 ?_
  refine k_put C (k := 0) inX1 tyX1_ok nmX1 (ci := 1) rfl (by decide) fl_X1_22 rfl (Nat.le_of_ble_eq_true rfl) dX1_giveBack_7 (by repeat (first | exact hs_eq _ _ _ | refine hs_ne (by omega) ?_ | assumption)) ?_
  refine k_aload_n C dX1_giveBack_10 rfl ?_
  refine k_get C (k := 2) inX1 (ci := 1) rfl (by decide) fl_X1_11 dX1_giveBack_11 (by repeat (first | exact hs_eq _ _ _ | refine hs_ne (by omega) ?_ | assumption)) rfl ?_
  refine k_aload_n C dX1_giveBack_14 rfl ?_
  refine k_get C (k := 1) inX1 (ci := 1) rfl (by decide) fl_X1_18 dX1_giveBack_15 (by repeat (first | exact hs_eq _ _ _ | refine hs_ne (by omega) ?_ | assumption)) rfl ?_
  refine k_aload_n C dX1_giveBack_18 rfl ?_
  refine k_get C (k := 0) inX1 (ci := 1) rfl (by decide) fl_X1_22 dX1_giveBack_19 (by repeat (first | exact hs_eq _ _ _ | refine hs_ne (by omega) ?_ | assumption)) rfl ?_
  refine k_iadd C dX1_giveBack_22 ?_
  refine k_bipush C dX1_giveBack_23 (by decide +kernel) ?_
  refine k_callS C (n := 2) (as := [_, _]) (ct_J9_floorMod_7cf53 l D tc base _ _ _ ⟨by omega, by omega⟩ (Or.inr (Or.inr rfl))) ml_X1_25 sm_J9_floorMod_7cf53 ini_J9 co_J9_floorMod_7cf53 ⟨by decide, by decide, by decide +kernel⟩ rfl ⟨by decide, by decide⟩ rfl (Nat.le_of_ble_eq_true rfl) ⟨Nat.zero_le _, Nat.zero_le _⟩ dX1_giveBack_25 ?_
  rintro _ _ ⟨rfl, rfl⟩
  refine k_aaload C dX1_giveBack_28 (by repeat (first | exact hs_eq _ _ _ | refine hs_ne (by omega) ?_ | assumption)) (by omega) (by omega) (by omega) hf0 ?_
  refine k_astore_n C dX1_giveBack_29 (by decide) rfl ?_
  refine k_aload_n C dX1_giveBack_30 rfl ?_
  refine k_ifnull C dX1_giveBack_31 ?_
  refine k_aload_n C dX1_giveBack_34 rfl ?_
  refine k_aload_n C dX1_giveBack_35 rfl ?_
  refine k_callV C (n := 1) (as := [_]) (ct_X3_copyFrom l D tc base oo (hh + 2 + 15 * ((ol + (st - 1)) % 6).toNat) zrr (hRow hhi (st - 1).toNat) _ hS1 hSs hi (by omega)) ml_X1_31 im_X3_copyFrom se_X3_copyFrom ini_X3 co_X3_copyFrom ⟨rfl, by decide, by decide, by decide +kernel⟩ rfl (ci := 3) rfl (by repeat (first | exact hs_eq _ _ _ | refine hs_ne (by omega) ?_ | assumption)) ⟨by decide, by decide⟩ rfl (Nat.le_of_ble_eq_true rfl) ⟨Nat.zero_le _, Nat.zero_le _⟩ dX1_giveBack_36 ?_
  rintro _ hcp ⟨rfl, hS2, hF2⟩
  refine k_vret C hr dX1_giveBack_39 ?_
  refine ⟨rfl, ⟨ol, ff, hol, (hF2 hh (by omega)).trans k0, (hF2 (hh + 1) (by omega)).trans k1, hff, fun j hj => ?_, fun k hk => ?_⟩, hS2, fun a a0 a1 => (hF2 a a0).trans (hs_ne a1 rfl)⟩
  · obtain ⟨zj, hz⟩ := hsl j hj
    exact ⟨zj, hz.fr (fun a a0 a1 => (hF2 a (by omega)).trans (hs_ne (by omega) rfl))⟩
  · have hr := hrw k (by omega)
    exact ⟨hr.1.fr (fun a a0 a1 => (hF2 a (by omega)).trans (hs_ne (by omega) rfl)), hr.2⟩
