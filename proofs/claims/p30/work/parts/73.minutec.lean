set_option maxRecDepth 20000 in
theorem sg_end {D : va_G} {tc : Nat → ClassId} {base : Nat} {p : Program} {l : Launch} {e : Env} {s : State} {m : MethodId} {args : Array Value} {below : List Frame} {meth : Method} {c : Code}  (C : Cx D tc base RL cL_minute 10 p s m args meth c) {post : Option AV → AH → Prop} (hr : meth.sig.returnType = none) (an : Nat) (zrr : RZ) (kc : Int) (hpp : AH) (hA : LA hpp an zrr kc) (hp : ∀ hx : AH, LA hx an (iu zrr 13 (zrr 13 + 1)) kc → Fr hpp hx an 5 → post none hx) : Wk D tc base 10 p l e (lvR 2) s m args below meth c 0 0 (MQ below (Qx D tc base post) args s 0 0 (fun q => base ≤ q)) 640 [some (aR an), some (aR (an + 1)), some (aR (an + 2)), some (aR (an + 3)), some (aR (an + 4)), none, none, none, none, none] [] hpp := by
  obtain ⟨nu, hh, se, wi, de, ⟨y0, y1, y2, y3, y4⟩, hLR⟩ := id hA
  obtain ⟨⟨e0, -⟩, -⟩ := id hLR
  refine k_aload_n C dL_minute_640 rfl ?_
  refine k_iconst C dL_minute_641 ?_
  refine k_dup2 C dL_minute_642 rfl rfl ?_
  refine k_iaload C dL_minute_643 y0 (by omega) (by omega) (by omega) ?_
  refine k_iconst C dL_minute_644 ?_
  refine k_iadd C dL_minute_645 ?_
  refine k_iastore C dL_minute_646 y0 (by omega) (by omega) (by omega) ?_
  refine k_vret C hr dL_minute_647 (hp _ ⟨_, _, _, _, _, ⟨(by repeat (first | exact hs_eq _ _ _ | refine hs_ne (by omega) ?_ | assumption)), (by repeat (first | exact hs_eq _ _ _ | refine hs_ne (by omega) ?_ | assumption)), (by repeat (first | exact hs_eq _ _ _ | refine hs_ne (by omega) ?_ | assumption)), (by repeat (first | exact hs_eq _ _ _ | refine hs_ne (by omega) ?_ | assumption)), (by repeat (first | exact hs_eq _ _ _ | refine hs_ne (by omega) ?_ | assumption))⟩, ?_⟩ (fun aaa haa => by repeat (first | rfl | refine hs_ne (by omega) ?_)))
  exact hLR.n (by decide) (by omega)
set_option maxRecDepth 20000 in
set_option maxHeartbeats 1000000 in
theorem ct_L_minute (l : Launch) (D : va_G) (tc : Nat → ClassId) (base : Nat) (an : Nat) (zrr : RZ) (kc : Int) (hpp : AH) (hA : LA hpp an zrr kc) (hok : zOk zrr) (hm : zrr 13 ≤ 90000) : CT l D tc base yL_minute cL_minute 10 none 2 [aR an, aR (an + 1), aR (an + 2), aR (an + 3), aR (an + 4)] hpp (fun r h' => r = none ∧ LA h' an (zMin zrr) kc ∧ Fr hpp h' an 5) := by
  refine CT.of [some (aR an), some (aR (an + 1)), some (aR (an + 2)), some (aR (an + 3)), some (aR (an + 4)), none, none, none, none, none] (by decide +kernel) rfl (Nat.le_of_ble_eq_true rfl) ?_
  intro p e s m args below meth c C hr hnm
  have hi := hok.1
  have ha := hok.2
  have i1 := zInv_one hi
  have j1 := zOne_13 hi
  have i2 := zInv_two i1
  have j2 := zTwo_13 (z := (zOne zrr))
  have i3 := zInv_three i2 (by omega)
  have i4 := zInv_four i3.1
  have i5 := zInv_five i4.1
  have b4 := i4.1.1.2.2.2.2.2.2.2.2.2.1
  refine sg_one C an zrr kc hpp hA hi (by omega) (by omega) (fun ha1 hA1 hF1 => ?_)
  refine sg_two C an (zOne zrr) kc ha1 hA1 i1 (by omega) (by omega) (fun ha2 hA2 hF2 => ?_)
  refine sg_three C an (zTwo (zOne zrr)) kc ha2 hA2 i2 (by omega) (by omega) (fun ha3 ov hov hA3 hF3 => ?_)
  refine sg_four C an (zThree (zTwo (zOne zrr))) kc ha3 hA3 i3.1 (by omega) (by omega) ov (by omega) (fun ha4 sv hs1 hs0 hsv hA4 hF4 => ?_)
  rcases hov with ⟨rfl, hw⟩ | ⟨rfl, hw⟩
  · rw [if_neg (show ¬ (1 : Int) = 0 by decide)] at hA4
    have c4 : zSil (zFour (zThree (zTwo (zOne zrr)))) ↔ zSil (zThree (zTwo (zOne zrr))) := zSil_cong (zFour_ne (by omega)) (zFour_ne (by omega)) (zFour_ne (by omega))
    have c5 : zSil (zFive (zFour (zThree (zTwo (zOne zrr))))) ↔ zSil (zFour (zThree (zTwo (zOne zrr)))) := zSil_cong (zFive_ne b4 (by omega)) (zFive_ne b4 (by omega)) (zFive_ne b4 (by omega))
    refine sg_five C an (zFour (zThree (zTwo (zOne zrr)))) kc ha4 hA4 i4.1 (by omega) (by omega) 1 sv (by omega) (fun q => c4.mpr (hs1 q)) (fun q r => hs0 q (c4.mp r)) hsv (fun ha5 hA5 hF5 => ?_)
    rw [if_neg (show ¬ (1 : Int) = 0 by decide)] at hA5
    refine k_sub (sg_six C an (zFive (zFour (zThree (zTwo (zOne zrr))))) kc ha5 hA5 i5.1 (by omega) (by omega) sv (fun q => c5.mpr (c4.mpr (hs1 q))) (fun q r => hs0 q (c4.mp (c5.mp r))) hsv (fun ha6 hA6 hF6 => ?_)) ((And.intro rfl (And.intro rfl (And.intro rfl (And.intro rfl (And.intro rfl (And.intro rfl trivial)))))))
    have ez : zFP zrr = (zFive (zFour (zThree (zTwo (zOne zrr))))) := by rw [zFP, if_pos hw]
    refine sg_end C hr an _ kc ha6 hA6 (fun hx hAx hFx => ⟨rfl, ?_, (((((hF1.tr hF2).tr hF3).tr hF4).tr hF5).tr hF6).tr hFx⟩)
    rw [zMin, ez]
    exact hAx
  · rw [if_pos rfl] at hA4
    refine sg_five C an (zThree (zTwo (zOne zrr))) kc ha4 hA4 i3.1 (by omega) (by omega) 0 sv (by omega) hs1 hs0 hsv (fun ha5 hA5 hF5 => ?_)
    rw [if_pos rfl] at hA5
    refine k_sub (sg_six C an (zThree (zTwo (zOne zrr))) kc ha5 hA5 i3.1 (by omega) (by omega) sv hs1 hs0 hsv (fun ha6 hA6 hF6 => ?_)) ((And.intro rfl (And.intro rfl (And.intro rfl (And.intro rfl (And.intro rfl (And.intro rfl trivial)))))))
    have ez : zFP zrr = (zThree (zTwo (zOne zrr))) := by rw [zFP, if_neg hw]
    refine sg_end C hr an _ kc ha6 hA6 (fun hx hAx hFx => ⟨rfl, ?_, (((((hF1.tr hF2).tr hF3).tr hF4).tr hF5).tr hF6).tr hFx⟩)
    rw [zMin, ez]
    exact hAx
