set_option maxRecDepth 20000 in
set_option maxHeartbeats 2000000 in
theorem law_loop {D : va_G} {tc : Nat → ClassId} {base : Nat} {p : Program} {l : Launch} {e : Env} {s : State} {m : MethodId} {args : Array Value} {below : List Frame} {meth : Method} {c : Code} {Q : State → Prop} (C : Cx D tc base RL cL_law 9 p s m args meth c) (hE : PE base s) {b LL : Nat} {xs : Nat → Int32} (hSc : Scr base b LL xs s) (hl : l.stackTraces = false)
    (kend : ∀ (cells slots : Nat) (h : AH) (L : List (Option AV)), cells ≤ 601024 → slots ≤ 7293034 → Wk D tc base 9 p l e room_1 s m args below meth c cells slots Q 1392 L [] h) :
    ∀ (n kk : Nat) (h : AH) (z hi tx : Int → Int) (st ln : Int) (og : Int → Int), LI h base z hi tx st ln og → LL - 4 * kk < n → 4 * kk ≤ LL → Wk D tc base 9 p l e room_1 s m args below meth c (134 + kk) (2120 + 6 * kk) Q 23 (LH b base (4 * kk)) [] h := by
  have hLL : LL ≤ 2048 := hSc.2.2.2
  intro n
  induction n with
  | zero => intro kk h z hi tx st ln og hI hn; omega
  | succ n ih =>
    intro kk h z hi tx st ln og hI hn hk
    refine k_iload C dL_law_23 rfl ?_
    refine k_aload_n C dL_law_25 rfl ?_
    refine k_slen C hSc dL_law_26 ?_
    refine k_iconst C dL_law_27 ?_
    refine k_isub C dL_law_28 ?_
    refine k_icmp_gt (tgt := 1392) C dL_law_29 (by decide) ⟨by omega, by omega⟩ ⟨by omega, by omega⟩ (fun _ => kend _ _ _ _ (by omega) (by omega)) (fun c29 => ?_)
    have hj : (0 : Int) ≤ 4 * (kk : Int) ∧ 4 * (kk : Int) + 4 ≤ LL := ⟨by omega, by omega⟩
    refine k_aload_n C dL_law_32 rfl ?_
    refine k_iload C dL_law_33 rfl ?_
    refine k_sld C hSc (by omega) (by omega) dL_law_35 ?_
    refine k_bipush C dL_law_36 (by decide +kernel) ?_
    refine k_iand31 C dL_law_38 (fun v v0 v1 => ?_)
    have hcc : 134 + kk + 1 ≤ room_1.cells ∧ 2120 + 6 * kk + 6 ≤ room_1.slots := ⟨by (show _ ≤ 601024); omega, by (show _ ≤ 7293034); omega⟩
    have k : LG D tc base b p l e s m args below meth c (134 + kk + 1) (2120 + 6 * kk + 6) Q (4 * kk) := by
      intro h z hi tx st ln og hI
      refine k_iinc C dL_law_1386 rfl (by decide) rfl ?_
      refine k_goto (tgt := 23) C dL_law_1389 (by decide) ?_
      have hg := ih (kk + 1) h z hi tx st ln og hI (by omega) (by omega)
      rw [show (4 : Int) * ((kk + 1 : Nat) : Int) = 4 * (kk : Int) + 4 by omega, show 134 + (kk + 1) = 134 + kk + 1 by omega, show 2120 + 6 * (kk + 1) = 2120 + 6 * kk + 6 by omega] at hg
      exact hg
    have kd : Wk D tc base 9 p l e room_1 s m args below meth c (134 + kk) (2120 + 6 * kk) Q 1386 (LH b base (4 * kk)) [] h := k_wid (by omega) (by omega) (k h z hi tx st ln og hI)
    exact k_tsw (dt := 1386) C [160, 228, 296, 352, 408, 421, 434, 514, 570, 626, 682, 695, 708, 752, 796, 864, 932, 1000, 1056, 1112, 1168, 1236, 1249, 1262, 1318, 1331, 1372] dL_law_39 ⟨by omega, by omega⟩ (by decide) (by decide) (by decide) (And.intro (fun _ => op_wind C hE hSc hl hj hcc h z hi tx st ln og hI k) (And.intro (fun _ => op_set C hE hSc hl hj hcc h z hi tx st ln og hI k) (And.intro (fun _ => op_setSnow C hE hSc hl hj hcc h z hi tx st ln og hI k) (And.intro (fun _ => op_setHands C hE hSc hl hj hcc h z hi tx st ln og hI k) (And.intro (fun _ => op_mend C hcc h z hi tx st ln og hI k) (And.intro (fun _ => op_forgive C hcc h z hi tx st ln og hI k) (And.intro (fun _ => op_hire C hE hSc hl hj hcc h z hi tx st ln og hI k) (And.intro (fun _ => op_dismiss C hE hSc hl hj hcc h z hi tx st ln og hI k) (And.intro (fun _ => op_pass C hE hSc hl hj hcc h z hi tx st ln og hI k) (And.intro (fun _ => op_append C hE hSc hl hj hcc h z hi tx st ln og hI k) (And.intro (fun _ => op_clearBuffer C hcc h z hi tx st ln og hI k) (And.intro (fun _ => op_firstError C hcc h z hi tx st ln og hI k) (And.intro (fun _ => op_load C hE hSc hl hj hcc h z hi tx st ln og hI k) (And.intro (fun _ => op_undo C hE hSc hl hj hcc h z hi tx st ln og hI k) (And.intro (fun _ => op_weight C hE hSc hl hj hcc h z hi tx st ln og hI k) (And.intro (fun _ => op_winder C hE hSc hl hj hcc h z hi tx st ln og hI k) (And.intro (fun _ => op_debt C hE hSc hl hj hcc h z hi tx st ln og hI k) (And.intro (fun _ => op_count C hE hSc hl hj hcc h z hi tx st ln og hI k) (And.intro (fun _ => op_setting C hE hSc hl hj hcc h z hi tx st ln og hI k) (And.intro (fun _ => op_why C hE hSc hl hj hcc h z hi tx st ln og hI k) (And.intro (fun _ => op_ifPassed C hE hSc hl hj hcc h z hi tx st ln og hI k) (And.intro (fun _ => op_standsIn C hcc h z hi tx st ln og hI k) (And.intro (fun _ => op_paidIn C hcc h z hi tx st ln og hI k) (And.intro (fun _ => op_leastTurns C hE hSc hl hj hcc h z hi tx st ln og hI k) (And.intro (fun _ => op_downFirst C hcc h z hi tx st ln og hI k) (And.intro (fun _ => op_lostShare C hcc h z hi tx st ln og hI k) (And.intro (fun _ => op_digest C hcc h z hi tx st ln og hI k) trivial))))))))))))))))))))))))))) (fun _ => kd)
