theorem co_L_wind : Cond.codeWith yL_wind cL_wind 5 (some .int) [(0, 10, 13, 13), (0, 10, 17, 15)] ∈ gl_w := gl_3 (i := 166) (by decide +kernel) (by decide +kernel)
set_option maxRecDepth 20000 in
theorem wn_wind (l : Launch) (D : va_G) (tc : Nat → ClassId) (base : Nat) (rc ou : Nat) (og : Int → Int) (ww tt : Int) (h : AH) (post : Option AV → AH → Prop) (dd : Nat) (hdd : dd ≤ 7) (hM : CT l D tc base yX7_wind cX7_wind 3 (some .int) dd [aR rc, aI ww, aI tt] h post) (fs : List AV) (hrc : h rc = some (eO 7 fs)) (hpo : ∀ (r : Option AV) (h' : AH), post r h' → ∃ v : Int, r = some (aI v) ∧ h' ou = some (eA 2 1 og)) : CW l D tc base yL_wind cL_wind 5 [(0, 10, 13, 13), (0, 10, 17, 15)] [aR rc, aI ww, aI tt, aR ou] h (fun r h2 => r = some (aI 0) ∧ ∃ (v : Int) (h1 : AH), post (some (aI v)) h1 ∧ h2 = hs h1 ou (eA 2 1 (iu og 0 (sx v)))) := by
  refine CW.of [some (aR rc), some (aI ww), some (aI tt), some (aR ou), none] (by decide +kernel) rfl (Nat.le_of_ble_eq_true rfl) ?_
  intro p e s m args below meth c C hE htb hr
  refine k_aload_n C dL_wind_0 rfl ?_
  refine k_iconst C dL_wind_1 ?_
  refine k_aload_n C dL_wind_2 rfl ?_
  refine k_iload_n C dL_wind_3 rfl ?_
  refine k_iload_n C dL_wind_4 rfl ?_
  refine k_callV C (ci := 7) (n := 2) (as := [aI ww, aI tt]) (rest := [aI 0, aR ou]) hM ml_L_7 im_X7_wind se_X7_wind ini_X7 co_X7_wind ⟨rfl, by decide, by decide, by decide +kernel⟩ rfl rfl hrc ⟨by (show dd + 1 ≤ 8); omega, by (show 8 + (3 + 11) + 40 * dd ≤ 40 * 8); omega⟩ rfl (Nat.le_of_ble_eq_true rfl) ⟨by decide, by decide⟩ dL_wind_5 ?_
  intro r h1 hp
  obtain ⟨v, rfl, ho⟩ := hpo r h1 hp
  refine k_i2l C dL_wind_8 ?_
  refine k_lastore C dL_wind_9 ho (by omega) (by omega) (by omega) ?_
  refine k_goto (tgt := 21) C dL_wind_10 (by decide) ?_
  refine k_iconst C dL_wind_21 ?_
  refine k_wid (k := 1) (n := 6) (by omega) (by omega) ?_
  exact k_iret C hr dL_wind_22 ⟨rfl, v, h1, hp, rfl⟩
set_option maxRecDepth 20000 in
theorem wt_wind_1 (l : Launch) (D : va_G) (tc : Nat → ClassId) (base : Nat) (rc ou : Nat) (ww tt : Int) (h : AH) (post : AH → Prop) (hM : TX l D tc base yX7_wind cX7_wind 3 (some .int) 7 [aR rc, aI ww, aI tt] h eIO post) (fs : List AV) (hrc : h rc = some (eO 7 fs)) : CW l D tc base yL_wind cL_wind 5 [(0, 10, 13, 13), (0, 10, 17, 15)] [aR rc, aI ww, aI tt, aR ou] h (fun r h2 => r = some (aI 1) ∧ post h2) := by
  refine CW.of [some (aR rc), some (aI ww), some (aI tt), some (aR ou), none] (by decide +kernel) rfl (Nat.le_of_ble_eq_true rfl) ?_
  intro p e s m args below meth c C hE htb hr
  refine k_aload_n C dL_wind_0 rfl ?_
  refine k_iconst C dL_wind_1 ?_
  refine k_aload_n C dL_wind_2 rfl ?_
  refine k_iload_n C dL_wind_3 rfl ?_
  refine k_iload_n C dL_wind_4 rfl ?_
  refine k_xcallV C hE (ci := 7) (n := 2) (as := [aI ww, aI tt]) (rest := [aI 0, aR ou]) hM ml_L_7 im_X7_wind se_X7_wind ini_X7 co_X7_wind ⟨rfl, by decide, by decide, by decide +kernel⟩ rfl rfl hrc ⟨by decide, by decide⟩ rfl (Nat.le_of_ble_eq_true rfl) ⟨by decide, by decide⟩ dL_wind_5 ?_
  intro h1 hp
  refine Xk.catch C hE (by decide) (tgt := 13) [] { startPc := 0, endPc := 10, handlerPc := 13, catchType := 13 } [{ startPc := 0, endPc := 10, handlerPc := 17, catchType := 15 }] htb ?_ (by decide) (by decide) cl_L_13 rfl ?_
  · intro z hz
    cases hz
  · intro q
    refine k_astore C dL_wind_13 (by decide) rfl ?_
    refine k_iconst C dL_wind_15 ?_
    exact k_iret C hr dL_wind_16 ⟨rfl, hp⟩
set_option maxRecDepth 20000 in
theorem wt_wind_2 (l : Launch) (D : va_G) (tc : Nat → ClassId) (base : Nat) (rc ou : Nat) (ww tt : Int) (h : AH) (post : AH → Prop) (hM : TX l D tc base yX7_wind cX7_wind 3 (some .int) 7 [aR rc, aI ww, aI tt] h eIA post) (fs : List AV) (hrc : h rc = some (eO 7 fs)) : CW l D tc base yL_wind cL_wind 5 [(0, 10, 13, 13), (0, 10, 17, 15)] [aR rc, aI ww, aI tt, aR ou] h (fun r h2 => r = some (aI 2) ∧ post h2) := by
  refine CW.of [some (aR rc), some (aI ww), some (aI tt), some (aR ou), none] (by decide +kernel) rfl (Nat.le_of_ble_eq_true rfl) ?_
  intro p e s m args below meth c C hE htb hr
  refine k_aload_n C dL_wind_0 rfl ?_
  refine k_iconst C dL_wind_1 ?_
  refine k_aload_n C dL_wind_2 rfl ?_
  refine k_iload_n C dL_wind_3 rfl ?_
  refine k_iload_n C dL_wind_4 rfl ?_
  refine k_xcallV C hE (ci := 7) (n := 2) (as := [aI ww, aI tt]) (rest := [aI 0, aR ou]) hM ml_L_7 im_X7_wind se_X7_wind ini_X7 co_X7_wind ⟨rfl, by decide, by decide, by decide +kernel⟩ rfl rfl hrc ⟨by decide, by decide⟩ rfl (Nat.le_of_ble_eq_true rfl) ⟨by decide, by decide⟩ dL_wind_5 ?_
  intro h1 hp
  refine Xk.catch C hE (by decide) (tgt := 17) [{ startPc := 0, endPc := 10, handlerPc := 13, catchType := 13 }] { startPc := 0, endPc := 10, handlerPc := 17, catchType := 15 } [] htb ?_ (by decide) (by decide) cl_L_15 rfl ?_
  · intro z hz
    simp only [List.mem_cons, List.not_mem_nil, or_false] at hz
    rcases hz with rfl
    · exact ⟨by decide, _, cl_L_13, hE.2.2.2.2.2.1⟩
  · intro q
    refine k_astore C dL_wind_17 (by decide) rfl ?_
    refine k_iconst C dL_wind_19 ?_
    exact k_iret C hr dL_wind_20 ⟨rfl, hp⟩
theorem co_L_set : Cond.codeWith yL_set cL_set 5 (some .int) [(0, 10, 13, 13), (0, 10, 17, 15)] ∈ gl_w := gl_3 (i := 175) (by decide +kernel) (by decide +kernel)
set_option maxRecDepth 20000 in
theorem wn_set (l : Launch) (D : va_G) (tc : Nat → ClassId) (base : Nat) (rc ou : Nat) (og : Int → Int) (ww vv : Int) (h : AH) (post : Option AV → AH → Prop) (dd : Nat) (hdd : dd ≤ 7) (hM : CT l D tc base yX7_set cX7_set 4 (some .int) dd [aR rc, aI ww, aI vv] h post) (fs : List AV) (hrc : h rc = some (eO 7 fs)) (hpo : ∀ (r : Option AV) (h' : AH), post r h' → ∃ v : Int, r = some (aI v) ∧ h' ou = some (eA 2 1 og)) : CW l D tc base yL_set cL_set 5 [(0, 10, 13, 13), (0, 10, 17, 15)] [aR rc, aI ww, aI vv, aR ou] h (fun r h2 => r = some (aI 0) ∧ ∃ (v : Int) (h1 : AH), post (some (aI v)) h1 ∧ h2 = hs h1 ou (eA 2 1 (iu og 0 (sx v)))) := by
  refine CW.of [some (aR rc), some (aI ww), some (aI vv), some (aR ou), none] (by decide +kernel) rfl (Nat.le_of_ble_eq_true rfl) ?_
  intro p e s m args below meth c C hE htb hr
  refine k_aload_n C dL_set_0 rfl ?_
  refine k_iconst C dL_set_1 ?_
  refine k_aload_n C dL_set_2 rfl ?_
  refine k_iload_n C dL_set_3 rfl ?_
  refine k_iload_n C dL_set_4 rfl ?_
  refine k_callV C (ci := 7) (n := 2) (as := [aI ww, aI vv]) (rest := [aI 0, aR ou]) hM ml_L_17 im_X7_set se_X7_set ini_X7 co_X7_set ⟨rfl, by decide, by decide, by decide +kernel⟩ rfl rfl hrc ⟨by (show dd + 1 ≤ 8); omega, by (show 8 + (4 + 11) + 40 * dd ≤ 40 * 8); omega⟩ rfl (Nat.le_of_ble_eq_true rfl) ⟨by decide, by decide⟩ dL_set_5 ?_
  intro r h1 hp
  obtain ⟨v, rfl, ho⟩ := hpo r h1 hp
  refine k_i2l C dL_set_8 ?_
  refine k_lastore C dL_set_9 ho (by omega) (by omega) (by omega) ?_
  refine k_goto (tgt := 21) C dL_set_10 (by decide) ?_
  refine k_iconst C dL_set_21 ?_
  refine k_wid (k := 1) (n := 6) (by omega) (by omega) ?_
  exact k_iret C hr dL_set_22 ⟨rfl, v, h1, hp, rfl⟩
set_option maxRecDepth 20000 in
theorem wt_set_1 (l : Launch) (D : va_G) (tc : Nat → ClassId) (base : Nat) (rc ou : Nat) (ww vv : Int) (h : AH) (post : AH → Prop) (hM : TX l D tc base yX7_set cX7_set 4 (some .int) 7 [aR rc, aI ww, aI vv] h eIO post) (fs : List AV) (hrc : h rc = some (eO 7 fs)) : CW l D tc base yL_set cL_set 5 [(0, 10, 13, 13), (0, 10, 17, 15)] [aR rc, aI ww, aI vv, aR ou] h (fun r h2 => r = some (aI 1) ∧ post h2) := by
  refine CW.of [some (aR rc), some (aI ww), some (aI vv), some (aR ou), none] (by decide +kernel) rfl (Nat.le_of_ble_eq_true rfl) ?_
  intro p e s m args below meth c C hE htb hr
  refine k_aload_n C dL_set_0 rfl ?_
  refine k_iconst C dL_set_1 ?_
  refine k_aload_n C dL_set_2 rfl ?_
  refine k_iload_n C dL_set_3 rfl ?_
  refine k_iload_n C dL_set_4 rfl ?_
  refine k_xcallV C hE (ci := 7) (n := 2) (as := [aI ww, aI vv]) (rest := [aI 0, aR ou]) hM ml_L_17 im_X7_set se_X7_set ini_X7 co_X7_set ⟨rfl, by decide, by decide, by decide +kernel⟩ rfl rfl hrc ⟨by decide, by decide⟩ rfl (Nat.le_of_ble_eq_true rfl) ⟨by decide, by decide⟩ dL_set_5 ?_
  intro h1 hp
  refine Xk.catch C hE (by decide) (tgt := 13) [] { startPc := 0, endPc := 10, handlerPc := 13, catchType := 13 } [{ startPc := 0, endPc := 10, handlerPc := 17, catchType := 15 }] htb ?_ (by decide) (by decide) cl_L_13 rfl ?_
  · intro z hz
    cases hz
  · intro q
    refine k_astore C dL_set_13 (by decide) rfl ?_
    refine k_iconst C dL_set_15 ?_
    exact k_iret C hr dL_set_16 ⟨rfl, hp⟩
set_option maxRecDepth 20000 in
theorem wt_set_2 (l : Launch) (D : va_G) (tc : Nat → ClassId) (base : Nat) (rc ou : Nat) (ww vv : Int) (h : AH) (post : AH → Prop) (hM : TX l D tc base yX7_set cX7_set 4 (some .int) 7 [aR rc, aI ww, aI vv] h eIA post) (fs : List AV) (hrc : h rc = some (eO 7 fs)) : CW l D tc base yL_set cL_set 5 [(0, 10, 13, 13), (0, 10, 17, 15)] [aR rc, aI ww, aI vv, aR ou] h (fun r h2 => r = some (aI 2) ∧ post h2) := by
  refine CW.of [some (aR rc), some (aI ww), some (aI vv), some (aR ou), none] (by decide +kernel) rfl (Nat.le_of_ble_eq_true rfl) ?_
  intro p e s m args below meth c C hE htb hr
  refine k_aload_n C dL_set_0 rfl ?_
  refine k_iconst C dL_set_1 ?_
  refine k_aload_n C dL_set_2 rfl ?_
  refine k_iload_n C dL_set_3 rfl ?_
  refine k_iload_n C dL_set_4 rfl ?_
  refine k_xcallV C hE (ci := 7) (n := 2) (as := [aI ww, aI vv]) (rest := [aI 0, aR ou]) hM ml_L_17 im_X7_set se_X7_set ini_X7 co_X7_set ⟨rfl, by decide, by decide, by decide +kernel⟩ rfl rfl hrc ⟨by decide, by decide⟩ rfl (Nat.le_of_ble_eq_true rfl) ⟨by decide, by decide⟩ dL_set_5 ?_
  intro h1 hp
  refine Xk.catch C hE (by decide) (tgt := 17) [{ startPc := 0, endPc := 10, handlerPc := 13, catchType := 13 }] { startPc := 0, endPc := 10, handlerPc := 17, catchType := 15 } [] htb ?_ (by decide) (by decide) cl_L_15 rfl ?_
  · intro z hz
    simp only [List.mem_cons, List.not_mem_nil, or_false] at hz
    rcases hz with rfl
    · exact ⟨by decide, _, cl_L_13, hE.2.2.2.2.2.1⟩
  · intro q
    refine k_astore C dL_set_17 (by decide) rfl ?_
    refine k_iconst C dL_set_19 ?_
    exact k_iret C hr dL_set_20 ⟨rfl, hp⟩
theorem co_L_setSnow : Cond.codeWith yL_setSnow cL_setSnow 4 (some .int) [(0, 9, 12, 15)] ∈ gl_w := gl_3 (i := 187) (by decide +kernel) (by decide +kernel)
set_option maxRecDepth 20000 in
theorem wn_setSnow (l : Launch) (D : va_G) (tc : Nat → ClassId) (base : Nat) (rc ou : Nat) (og : Int → Int) (ww : Int) (h : AH) (post : Option AV → AH → Prop) (dd : Nat) (hdd : dd ≤ 7) (hM : CT l D tc base yX7_setSnow cX7_setSnow 3 (some .int) dd [aR rc, aI ww] h post) (fs : List AV) (hrc : h rc = some (eO 7 fs)) (hpo : ∀ (r : Option AV) (h' : AH), post r h' → ∃ v : Int, r = some (aI v) ∧ h' ou = some (eA 2 1 og)) : CW l D tc base yL_setSnow cL_setSnow 4 [(0, 9, 12, 15)] [aR rc, aI ww, aR ou] h (fun r h2 => r = some (aI 0) ∧ ∃ (v : Int) (h1 : AH), post (some (aI v)) h1 ∧ h2 = hs h1 ou (eA 2 1 (iu og 0 (sx v)))) := by
  refine CW.of [some (aR rc), some (aI ww), some (aR ou), none] (by decide +kernel) rfl (Nat.le_of_ble_eq_true rfl) ?_
  intro p e s m args below meth c C hE htb hr
  refine k_aload_n C dL_setSnow_0 rfl ?_
  refine k_iconst C dL_setSnow_1 ?_
  refine k_aload_n C dL_setSnow_2 rfl ?_
  refine k_iload_n C dL_setSnow_3 rfl ?_
  refine k_callV C (ci := 7) (n := 1) (as := [aI ww]) (rest := [aI 0, aR ou]) hM ml_L_20 im_X7_setSnow se_X7_setSnow ini_X7 co_X7_setSnow ⟨rfl, by decide, by decide, by decide +kernel⟩ rfl rfl hrc ⟨by (show dd + 1 ≤ 8); omega, by (show 8 + (3 + 11) + 40 * dd ≤ 40 * 8); omega⟩ rfl (Nat.le_of_ble_eq_true rfl) ⟨by decide, by decide⟩ dL_setSnow_4 ?_
  intro r h1 hp
  obtain ⟨v, rfl, ho⟩ := hpo r h1 hp
  refine k_i2l C dL_setSnow_7 ?_
  refine k_lastore C dL_setSnow_8 ho (by omega) (by omega) (by omega) ?_
  refine k_goto (tgt := 15) C dL_setSnow_9 (by decide) ?_
  refine k_iconst C dL_setSnow_15 ?_
  refine k_wid (k := 1) (n := 6) (by omega) (by omega) ?_
  exact k_iret C hr dL_setSnow_16 ⟨rfl, v, h1, hp, rfl⟩
set_option maxRecDepth 20000 in
theorem wt_setSnow_1 (l : Launch) (D : va_G) (tc : Nat → ClassId) (base : Nat) (rc ou : Nat) (ww : Int) (h : AH) (post : AH → Prop) (hM : TX l D tc base yX7_setSnow cX7_setSnow 3 (some .int) 7 [aR rc, aI ww] h eIA post) (fs : List AV) (hrc : h rc = some (eO 7 fs)) : CW l D tc base yL_setSnow cL_setSnow 4 [(0, 9, 12, 15)] [aR rc, aI ww, aR ou] h (fun r h2 => r = some (aI 1) ∧ post h2) := by
  refine CW.of [some (aR rc), some (aI ww), some (aR ou), none] (by decide +kernel) rfl (Nat.le_of_ble_eq_true rfl) ?_
  intro p e s m args below meth c C hE htb hr
  refine k_aload_n C dL_setSnow_0 rfl ?_
  refine k_iconst C dL_setSnow_1 ?_
  refine k_aload_n C dL_setSnow_2 rfl ?_
  refine k_iload_n C dL_setSnow_3 rfl ?_
  refine k_xcallV C hE (ci := 7) (n := 1) (as := [aI ww]) (rest := [aI 0, aR ou]) hM ml_L_20 im_X7_setSnow se_X7_setSnow ini_X7 co_X7_setSnow ⟨rfl, by decide, by decide, by decide +kernel⟩ rfl rfl hrc ⟨by decide, by decide⟩ rfl (Nat.le_of_ble_eq_true rfl) ⟨by decide, by decide⟩ dL_setSnow_4 ?_
  intro h1 hp
  refine Xk.catch C hE (by decide) (tgt := 12) [] { startPc := 0, endPc := 9, handlerPc := 12, catchType := 15 } [] htb ?_ (by decide) (by decide) cl_L_15 rfl ?_
  · intro z hz
    cases hz
  · intro q
    refine k_astore_n C dL_setSnow_12 (by decide) rfl ?_
    refine k_iconst C dL_setSnow_13 ?_
    exact k_iret C hr dL_setSnow_14 ⟨rfl, hp⟩
theorem co_L_setHands : Cond.codeWith yL_setHands cL_setHands 4 (some .int) [(0, 9, 12, 15)] ∈ gl_w := gl_3 (i := 194) (by decide +kernel) (by decide +kernel)
set_option maxRecDepth 20000 in
theorem wn_setHands (l : Launch) (D : va_G) (tc : Nat → ClassId) (base : Nat) (rc ou : Nat) (og : Int → Int) (ww : Int) (h : AH) (post : Option AV → AH → Prop) (dd : Nat) (hdd : dd ≤ 7) (hM : CT l D tc base yX7_setHands cX7_setHands 3 (some .int) dd [aR rc, aI ww] h post) (fs : List AV) (hrc : h rc = some (eO 7 fs)) (hpo : ∀ (r : Option AV) (h' : AH), post r h' → ∃ v : Int, r = some (aI v) ∧ h' ou = some (eA 2 1 og)) : CW l D tc base yL_setHands cL_setHands 4 [(0, 9, 12, 15)] [aR rc, aI ww, aR ou] h (fun r h2 => r = some (aI 0) ∧ ∃ (v : Int) (h1 : AH), post (some (aI v)) h1 ∧ h2 = hs h1 ou (eA 2 1 (iu og 0 (sx v)))) := by
  refine CW.of [some (aR rc), some (aI ww), some (aR ou), none] (by decide +kernel) rfl (Nat.le_of_ble_eq_true rfl) ?_
  intro p e s m args below meth c C hE htb hr
  refine k_aload_n C dL_setHands_0 rfl ?_
  refine k_iconst C dL_setHands_1 ?_
  refine k_aload_n C dL_setHands_2 rfl ?_
  refine k_iload_n C dL_setHands_3 rfl ?_
  refine k_callV C (ci := 7) (n := 1) (as := [aI ww]) (rest := [aI 0, aR ou]) hM ml_L_24 im_X7_setHands se_X7_setHands ini_X7 co_X7_setHands ⟨rfl, by decide, by decide, by decide +kernel⟩ rfl rfl hrc ⟨by (show dd + 1 ≤ 8); omega, by (show 8 + (3 + 11) + 40 * dd ≤ 40 * 8); omega⟩ rfl (Nat.le_of_ble_eq_true rfl) ⟨by decide, by decide⟩ dL_setHands_4 ?_
  intro r h1 hp
  obtain ⟨v, rfl, ho⟩ := hpo r h1 hp
  refine k_i2l C dL_setHands_7 ?_
  refine k_lastore C dL_setHands_8 ho (by omega) (by omega) (by omega) ?_
  refine k_goto (tgt := 15) C dL_setHands_9 (by decide) ?_
  refine k_iconst C dL_setHands_15 ?_
  refine k_wid (k := 1) (n := 6) (by omega) (by omega) ?_
  exact k_iret C hr dL_setHands_16 ⟨rfl, v, h1, hp, rfl⟩
set_option maxRecDepth 20000 in
theorem wt_setHands_1 (l : Launch) (D : va_G) (tc : Nat → ClassId) (base : Nat) (rc ou : Nat) (ww : Int) (h : AH) (post : AH → Prop) (hM : TX l D tc base yX7_setHands cX7_setHands 3 (some .int) 7 [aR rc, aI ww] h eIA post) (fs : List AV) (hrc : h rc = some (eO 7 fs)) : CW l D tc base yL_setHands cL_setHands 4 [(0, 9, 12, 15)] [aR rc, aI ww, aR ou] h (fun r h2 => r = some (aI 1) ∧ post h2) := by
  refine CW.of [some (aR rc), some (aI ww), some (aR ou), none] (by decide +kernel) rfl (Nat.le_of_ble_eq_true rfl) ?_
  intro p e s m args below meth c C hE htb hr
  refine k_aload_n C dL_setHands_0 rfl ?_
  refine k_iconst C dL_setHands_1 ?_
  refine k_aload_n C dL_setHands_2 rfl ?_
  refine k_iload_n C dL_setHands_3 rfl ?_
  refine k_xcallV C hE (ci := 7) (n := 1) (as := [aI ww]) (rest := [aI 0, aR ou]) hM ml_L_24 im_X7_setHands se_X7_setHands ini_X7 co_X7_setHands ⟨rfl, by decide, by decide, by decide +kernel⟩ rfl rfl hrc ⟨by decide, by decide⟩ rfl (Nat.le_of_ble_eq_true rfl) ⟨by decide, by decide⟩ dL_setHands_4 ?_
  intro h1 hp
  refine Xk.catch C hE (by decide) (tgt := 12) [] { startPc := 0, endPc := 9, handlerPc := 12, catchType := 15 } [] htb ?_ (by decide) (by decide) cl_L_15 rfl ?_
  · intro z hz
    cases hz
  · intro q
    refine k_astore_n C dL_setHands_12 (by decide) rfl ?_
    refine k_iconst C dL_setHands_13 ?_
    exact k_iret C hr dL_setHands_14 ⟨rfl, hp⟩
theorem co_L_hire : Cond.codeWith yL_hire cL_hire 6 (some .int) [(0, 12, 15, 13), (0, 12, 19, 15), (0, 12, 23, 31)] ∈ gl_w := gl_3 (i := 201) (by decide +kernel) (by decide +kernel)
set_option maxRecDepth 20000 in
theorem wn_hire (l : Launch) (D : va_G) (tc : Nat → ClassId) (base : Nat) (rc ou : Nat) (og : Int → Int) (ww tt pd : Int) (h : AH) (post : Option AV → AH → Prop) (dd : Nat) (hdd : dd ≤ 7) (hM : CT l D tc base yX7_hire cX7_hire 4 (some .int) dd [aR rc, aI ww, aI tt, aI pd] h post) (fs : List AV) (hrc : h rc = some (eO 7 fs)) (hpo : ∀ (r : Option AV) (h' : AH), post r h' → ∃ v : Int, r = some (aI v) ∧ h' ou = some (eA 2 1 og)) : CW l D tc base yL_hire cL_hire 6 [(0, 12, 15, 13), (0, 12, 19, 15), (0, 12, 23, 31)] [aR rc, aI ww, aI tt, aI pd, aR ou] h (fun r h2 => r = some (aI 0) ∧ ∃ (v : Int) (h1 : AH), post (some (aI v)) h1 ∧ h2 = hs h1 ou (eA 2 1 (iu og 0 (sx v)))) := by
  refine CW.of [some (aR rc), some (aI ww), some (aI tt), some (aI pd), some (aR ou), none] (by decide +kernel) rfl (Nat.le_of_ble_eq_true rfl) ?_
  intro p e s m args below meth c C hE htb hr
  refine k_aload C dL_hire_0 rfl ?_
  refine k_iconst C dL_hire_2 ?_
  refine k_aload_n C dL_hire_3 rfl ?_
  refine k_iload_n C dL_hire_4 rfl ?_
  refine k_iload_n C dL_hire_5 rfl ?_
  refine k_iload_n C dL_hire_6 rfl ?_
  refine k_callV C (ci := 7) (n := 3) (as := [aI ww, aI tt, aI pd]) (rest := [aI 0, aR ou]) hM ml_L_27 im_X7_hire se_X7_hire ini_X7 co_X7_hire ⟨rfl, by decide, by decide, by decide +kernel⟩ rfl rfl hrc ⟨by (show dd + 1 ≤ 8); omega, by (show 8 + (4 + 11) + 40 * dd ≤ 40 * 8); omega⟩ rfl (Nat.le_of_ble_eq_true rfl) ⟨by decide, by decide⟩ dL_hire_7 ?_
  intro r h1 hp
  obtain ⟨v, rfl, ho⟩ := hpo r h1 hp
  refine k_i2l C dL_hire_10 ?_
  refine k_lastore C dL_hire_11 ho (by omega) (by omega) (by omega) ?_
  refine k_goto (tgt := 27) C dL_hire_12 (by decide) ?_
  refine k_iconst C dL_hire_27 ?_
  refine k_wid (k := 1) (n := 6) (by omega) (by omega) ?_
  exact k_iret C hr dL_hire_28 ⟨rfl, v, h1, hp, rfl⟩
set_option maxRecDepth 20000 in
theorem wt_hire_1 (l : Launch) (D : va_G) (tc : Nat → ClassId) (base : Nat) (rc ou : Nat) (ww tt pd : Int) (h : AH) (post : AH → Prop) (hM : TX l D tc base yX7_hire cX7_hire 4 (some .int) 7 [aR rc, aI ww, aI tt, aI pd] h eIO post) (fs : List AV) (hrc : h rc = some (eO 7 fs)) : CW l D tc base yL_hire cL_hire 6 [(0, 12, 15, 13), (0, 12, 19, 15), (0, 12, 23, 31)] [aR rc, aI ww, aI tt, aI pd, aR ou] h (fun r h2 => r = some (aI 1) ∧ post h2) := by
  refine CW.of [some (aR rc), some (aI ww), some (aI tt), some (aI pd), some (aR ou), none] (by decide +kernel) rfl (Nat.le_of_ble_eq_true rfl) ?_
  intro p e s m args below meth c C hE htb hr
  refine k_aload C dL_hire_0 rfl ?_
  refine k_iconst C dL_hire_2 ?_
  refine k_aload_n C dL_hire_3 rfl ?_
  refine k_iload_n C dL_hire_4 rfl ?_
  refine k_iload_n C dL_hire_5 rfl ?_
  refine k_iload_n C dL_hire_6 rfl ?_
  refine k_xcallV C hE (ci := 7) (n := 3) (as := [aI ww, aI tt, aI pd]) (rest := [aI 0, aR ou]) hM ml_L_27 im_X7_hire se_X7_hire ini_X7 co_X7_hire ⟨rfl, by decide, by decide, by decide +kernel⟩ rfl rfl hrc ⟨by decide, by decide⟩ rfl (Nat.le_of_ble_eq_true rfl) ⟨by decide, by decide⟩ dL_hire_7 ?_
  intro h1 hp
  refine Xk.catch C hE (by decide) (tgt := 15) [] { startPc := 0, endPc := 12, handlerPc := 15, catchType := 13 } [{ startPc := 0, endPc := 12, handlerPc := 19, catchType := 15 }, { startPc := 0, endPc := 12, handlerPc := 23, catchType := 31 }] htb ?_ (by decide) (by decide) cl_L_13 rfl ?_
  · intro z hz
    cases hz
  · intro q
    refine k_astore C dL_hire_15 (by decide) rfl ?_
    refine k_iconst C dL_hire_17 ?_
    exact k_iret C hr dL_hire_18 ⟨rfl, hp⟩
set_option maxRecDepth 20000 in
theorem wt_hire_2 (l : Launch) (D : va_G) (tc : Nat → ClassId) (base : Nat) (rc ou : Nat) (ww tt pd : Int) (h : AH) (post : AH → Prop) (hM : TX l D tc base yX7_hire cX7_hire 4 (some .int) 7 [aR rc, aI ww, aI tt, aI pd] h eIA post) (fs : List AV) (hrc : h rc = some (eO 7 fs)) : CW l D tc base yL_hire cL_hire 6 [(0, 12, 15, 13), (0, 12, 19, 15), (0, 12, 23, 31)] [aR rc, aI ww, aI tt, aI pd, aR ou] h (fun r h2 => r = some (aI 2) ∧ post h2) := by
  refine CW.of [some (aR rc), some (aI ww), some (aI tt), some (aI pd), some (aR ou), none] (by decide +kernel) rfl (Nat.le_of_ble_eq_true rfl) ?_
  intro p e s m args below meth c C hE htb hr
  refine k_aload C dL_hire_0 rfl ?_
  refine k_iconst C dL_hire_2 ?_
  refine k_aload_n C dL_hire_3 rfl ?_
  refine k_iload_n C dL_hire_4 rfl ?_
  refine k_iload_n C dL_hire_5 rfl ?_
  refine k_iload_n C dL_hire_6 rfl ?_
  refine k_xcallV C hE (ci := 7) (n := 3) (as := [aI ww, aI tt, aI pd]) (rest := [aI 0, aR ou]) hM ml_L_27 im_X7_hire se_X7_hire ini_X7 co_X7_hire ⟨rfl, by decide, by decide, by decide +kernel⟩ rfl rfl hrc ⟨by decide, by decide⟩ rfl (Nat.le_of_ble_eq_true rfl) ⟨by decide, by decide⟩ dL_hire_7 ?_
  intro h1 hp
  refine Xk.catch C hE (by decide) (tgt := 19) [{ startPc := 0, endPc := 12, handlerPc := 15, catchType := 13 }] { startPc := 0, endPc := 12, handlerPc := 19, catchType := 15 } [{ startPc := 0, endPc := 12, handlerPc := 23, catchType := 31 }] htb ?_ (by decide) (by decide) cl_L_15 rfl ?_
  · intro z hz
    simp only [List.mem_cons, List.not_mem_nil, or_false] at hz
    rcases hz with rfl
    · exact ⟨by decide, _, cl_L_13, hE.2.2.2.2.2.1⟩
  · intro q
    refine k_astore C dL_hire_19 (by decide) rfl ?_
    refine k_iconst C dL_hire_21 ?_
    exact k_iret C hr dL_hire_22 ⟨rfl, hp⟩
set_option maxRecDepth 20000 in
theorem wt_hire_3 (l : Launch) (D : va_G) (tc : Nat → ClassId) (base : Nat) (rc ou : Nat) (ww tt pd : Int) (h : AH) (post : AH → Prop) (hM : TX l D tc base yX7_hire cX7_hire 4 (some .int) 7 [aR rc, aI ww, aI tt, aI pd] h eIS post) (fs : List AV) (hrc : h rc = some (eO 7 fs)) : CW l D tc base yL_hire cL_hire 6 [(0, 12, 15, 13), (0, 12, 19, 15), (0, 12, 23, 31)] [aR rc, aI ww, aI tt, aI pd, aR ou] h (fun r h2 => r = some (aI 3) ∧ post h2) := by
  refine CW.of [some (aR rc), some (aI ww), some (aI tt), some (aI pd), some (aR ou), none] (by decide +kernel) rfl (Nat.le_of_ble_eq_true rfl) ?_
  intro p e s m args below meth c C hE htb hr
  refine k_aload C dL_hire_0 rfl ?_
  refine k_iconst C dL_hire_2 ?_
  refine k_aload_n C dL_hire_3 rfl ?_
  refine k_iload_n C dL_hire_4 rfl ?_
  refine k_iload_n C dL_hire_5 rfl ?_
  refine k_iload_n C dL_hire_6 rfl ?_
  refine k_xcallV C hE (ci := 7) (n := 3) (as := [aI ww, aI tt, aI pd]) (rest := [aI 0, aR ou]) hM ml_L_27 im_X7_hire se_X7_hire ini_X7 co_X7_hire ⟨rfl, by decide, by decide, by decide +kernel⟩ rfl rfl hrc ⟨by decide, by decide⟩ rfl (Nat.le_of_ble_eq_true rfl) ⟨by decide, by decide⟩ dL_hire_7 ?_
  intro h1 hp
  refine Xk.catch C hE (by decide) (tgt := 23) [{ startPc := 0, endPc := 12, handlerPc := 15, catchType := 13 }, { startPc := 0, endPc := 12, handlerPc := 19, catchType := 15 }] { startPc := 0, endPc := 12, handlerPc := 23, catchType := 31 } [] htb ?_ (by decide) (by decide) cl_L_31 rfl ?_
  · intro z hz
    simp only [List.mem_cons, List.not_mem_nil, or_false] at hz
    rcases hz with rfl | rfl
    · exact ⟨by decide, _, cl_L_13, hE.2.2.2.2.2.2.1⟩
    · exact ⟨by decide, _, cl_L_15, hE.2.2.2.2.2.2.2⟩
  · intro q
    refine k_astore C dL_hire_23 (by decide) rfl ?_
    refine k_iconst C dL_hire_25 ?_
    exact k_iret C hr dL_hire_26 ⟨rfl, hp⟩
theorem co_L_dismiss : Cond.codeWith yL_dismiss cL_dismiss 4 (some .int) [(0, 9, 12, 13)] ∈ gl_w := gl_3 (i := 229) (by decide +kernel) (by decide +kernel)
set_option maxRecDepth 20000 in
theorem wn_dismiss (l : Launch) (D : va_G) (tc : Nat → ClassId) (base : Nat) (rc ou : Nat) (og : Int → Int) (ww : Int) (h : AH) (post : Option AV → AH → Prop) (dd : Nat) (hdd : dd ≤ 7) (hM : CT l D tc base yX7_dismiss cX7_dismiss 2 (some .int) dd [aR rc, aI ww] h post) (fs : List AV) (hrc : h rc = some (eO 7 fs)) (hpo : ∀ (r : Option AV) (h' : AH), post r h' → ∃ v : Int, r = some (aI v) ∧ h' ou = some (eA 2 1 og)) : CW l D tc base yL_dismiss cL_dismiss 4 [(0, 9, 12, 13)] [aR rc, aI ww, aR ou] h (fun r h2 => r = some (aI 0) ∧ ∃ (v : Int) (h1 : AH), post (some (aI v)) h1 ∧ h2 = hs h1 ou (eA 2 1 (iu og 0 (sx v)))) := by
  refine CW.of [some (aR rc), some (aI ww), some (aR ou), none] (by decide +kernel) rfl (Nat.le_of_ble_eq_true rfl) ?_
  intro p e s m args below meth c C hE htb hr
  refine k_aload_n C dL_dismiss_0 rfl ?_
  refine k_iconst C dL_dismiss_1 ?_
  refine k_aload_n C dL_dismiss_2 rfl ?_
  refine k_iload_n C dL_dismiss_3 rfl ?_
  refine k_callV C (ci := 7) (n := 1) (as := [aI ww]) (rest := [aI 0, aR ou]) hM ml_L_33 im_X7_dismiss se_X7_dismiss ini_X7 co_X7_dismiss ⟨rfl, by decide, by decide, by decide +kernel⟩ rfl rfl hrc ⟨by (show dd + 1 ≤ 8); omega, by (show 8 + (2 + 11) + 40 * dd ≤ 40 * 8); omega⟩ rfl (Nat.le_of_ble_eq_true rfl) ⟨by decide, by decide⟩ dL_dismiss_4 ?_
  intro r h1 hp
  obtain ⟨v, rfl, ho⟩ := hpo r h1 hp
  refine k_i2l C dL_dismiss_7 ?_
  refine k_lastore C dL_dismiss_8 ho (by omega) (by omega) (by omega) ?_
  refine k_goto (tgt := 15) C dL_dismiss_9 (by decide) ?_
  refine k_iconst C dL_dismiss_15 ?_
  refine k_wid (k := 1) (n := 6) (by omega) (by omega) ?_
  exact k_iret C hr dL_dismiss_16 ⟨rfl, v, h1, hp, rfl⟩
set_option maxRecDepth 20000 in
theorem wt_dismiss_1 (l : Launch) (D : va_G) (tc : Nat → ClassId) (base : Nat) (rc ou : Nat) (ww : Int) (h : AH) (post : AH → Prop) (hM : TX l D tc base yX7_dismiss cX7_dismiss 2 (some .int) 7 [aR rc, aI ww] h eIO post) (fs : List AV) (hrc : h rc = some (eO 7 fs)) : CW l D tc base yL_dismiss cL_dismiss 4 [(0, 9, 12, 13)] [aR rc, aI ww, aR ou] h (fun r h2 => r = some (aI 1) ∧ post h2) := by
  refine CW.of [some (aR rc), some (aI ww), some (aR ou), none] (by decide +kernel) rfl (Nat.le_of_ble_eq_true rfl) ?_
  intro p e s m args below meth c C hE htb hr
  refine k_aload_n C dL_dismiss_0 rfl ?_
  refine k_iconst C dL_dismiss_1 ?_
  refine k_aload_n C dL_dismiss_2 rfl ?_
  refine k_iload_n C dL_dismiss_3 rfl ?_
  refine k_xcallV C hE (ci := 7) (n := 1) (as := [aI ww]) (rest := [aI 0, aR ou]) hM ml_L_33 im_X7_dismiss se_X7_dismiss ini_X7 co_X7_dismiss ⟨rfl, by decide, by decide, by decide +kernel⟩ rfl rfl hrc ⟨by decide, by decide⟩ rfl (Nat.le_of_ble_eq_true rfl) ⟨by decide, by decide⟩ dL_dismiss_4 ?_
  intro h1 hp
  refine Xk.catch C hE (by decide) (tgt := 12) [] { startPc := 0, endPc := 9, handlerPc := 12, catchType := 13 } [] htb ?_ (by decide) (by decide) cl_L_13 rfl ?_
  · intro z hz
    cases hz
  · intro q
    refine k_astore_n C dL_dismiss_12 (by decide) rfl ?_
    refine k_iconst C dL_dismiss_13 ?_
    exact k_iret C hr dL_dismiss_14 ⟨rfl, hp⟩
theorem co_L_pass : Cond.codeWith yL_pass cL_pass 4 (some .int) [(0, 9, 12, 15), (0, 9, 15, 31)] ∈ gl_w := gl_4 (i := 0) (by decide +kernel) (by decide +kernel)
set_option maxRecDepth 20000 in
theorem wn_pass (l : Launch) (D : va_G) (tc : Nat → ClassId) (base : Nat) (rc ou : Nat) (og : Int → Int) (ww : Int) (h : AH) (post : Option AV → AH → Prop) (dd : Nat) (hdd : dd ≤ 7) (hM : CT l D tc base yX7_pass cX7_pass 3 (some .int) dd [aR rc, aI ww] h post) (fs : List AV) (hrc : h rc = some (eO 7 fs)) (hpo : ∀ (r : Option AV) (h' : AH), post r h' → ∃ v : Int, r = some (aI v) ∧ h' ou = some (eA 2 1 og)) : CW l D tc base yL_pass cL_pass 4 [(0, 9, 12, 15), (0, 9, 15, 31)] [aR rc, aI ww, aR ou] h (fun r h2 => r = some (aI 0) ∧ ∃ (v : Int) (h1 : AH), post (some (aI v)) h1 ∧ h2 = hs h1 ou (eA 2 1 (iu og 0 (sx v)))) := by
  refine CW.of [some (aR rc), some (aI ww), some (aR ou), none] (by decide +kernel) rfl (Nat.le_of_ble_eq_true rfl) ?_
  intro p e s m args below meth c C hE htb hr
  refine k_aload_n C dL_pass_0 rfl ?_
  refine k_iconst C dL_pass_1 ?_
  refine k_aload_n C dL_pass_2 rfl ?_
  refine k_iload_n C dL_pass_3 rfl ?_
  refine k_callV C (ci := 7) (n := 1) (as := [aI ww]) (rest := [aI 0, aR ou]) hM ml_L_36 im_X7_pass se_X7_pass ini_X7 co_X7_pass ⟨rfl, by decide, by decide, by decide +kernel⟩ rfl rfl hrc ⟨by (show dd + 1 ≤ 8); omega, by (show 8 + (3 + 11) + 40 * dd ≤ 40 * 8); omega⟩ rfl (Nat.le_of_ble_eq_true rfl) ⟨by decide, by decide⟩ dL_pass_4 ?_
  intro r h1 hp
  obtain ⟨v, rfl, ho⟩ := hpo r h1 hp
  refine k_i2l C dL_pass_7 ?_
  refine k_lastore C dL_pass_8 ho (by omega) (by omega) (by omega) ?_
  refine k_goto (tgt := 18) C dL_pass_9 (by decide) ?_
  refine k_iconst C dL_pass_18 ?_
  refine k_wid (k := 1) (n := 6) (by omega) (by omega) ?_
  exact k_iret C hr dL_pass_19 ⟨rfl, v, h1, hp, rfl⟩
set_option maxRecDepth 20000 in
theorem wt_pass_1 (l : Launch) (D : va_G) (tc : Nat → ClassId) (base : Nat) (rc ou : Nat) (ww : Int) (h : AH) (post : AH → Prop) (hM : TX l D tc base yX7_pass cX7_pass 3 (some .int) 7 [aR rc, aI ww] h eIA post) (fs : List AV) (hrc : h rc = some (eO 7 fs)) : CW l D tc base yL_pass cL_pass 4 [(0, 9, 12, 15), (0, 9, 15, 31)] [aR rc, aI ww, aR ou] h (fun r h2 => r = some (aI 1) ∧ post h2) := by
  refine CW.of [some (aR rc), some (aI ww), some (aR ou), none] (by decide +kernel) rfl (Nat.le_of_ble_eq_true rfl) ?_
  intro p e s m args below meth c C hE htb hr
  refine k_aload_n C dL_pass_0 rfl ?_
  refine k_iconst C dL_pass_1 ?_
  refine k_aload_n C dL_pass_2 rfl ?_
  refine k_iload_n C dL_pass_3 rfl ?_
  refine k_xcallV C hE (ci := 7) (n := 1) (as := [aI ww]) (rest := [aI 0, aR ou]) hM ml_L_36 im_X7_pass se_X7_pass ini_X7 co_X7_pass ⟨rfl, by decide, by decide, by decide +kernel⟩ rfl rfl hrc ⟨by decide, by decide⟩ rfl (Nat.le_of_ble_eq_true rfl) ⟨by decide, by decide⟩ dL_pass_4 ?_
  intro h1 hp
  refine Xk.catch C hE (by decide) (tgt := 12) [] { startPc := 0, endPc := 9, handlerPc := 12, catchType := 15 } [{ startPc := 0, endPc := 9, handlerPc := 15, catchType := 31 }] htb ?_ (by decide) (by decide) cl_L_15 rfl ?_
  · intro z hz
    cases hz
  · intro q
    refine k_astore_n C dL_pass_12 (by decide) rfl ?_
    refine k_iconst C dL_pass_13 ?_
    exact k_iret C hr dL_pass_14 ⟨rfl, hp⟩
set_option maxRecDepth 20000 in
theorem wt_pass_2 (l : Launch) (D : va_G) (tc : Nat → ClassId) (base : Nat) (rc ou : Nat) (ww : Int) (h : AH) (post : AH → Prop) (hM : TX l D tc base yX7_pass cX7_pass 3 (some .int) 7 [aR rc, aI ww] h eIS post) (fs : List AV) (hrc : h rc = some (eO 7 fs)) : CW l D tc base yL_pass cL_pass 4 [(0, 9, 12, 15), (0, 9, 15, 31)] [aR rc, aI ww, aR ou] h (fun r h2 => r = some (aI 2) ∧ post h2) := by
  refine CW.of [some (aR rc), some (aI ww), some (aR ou), none] (by decide +kernel) rfl (Nat.le_of_ble_eq_true rfl) ?_
  intro p e s m args below meth c C hE htb hr
  refine k_aload_n C dL_pass_0 rfl ?_
  refine k_iconst C dL_pass_1 ?_
  refine k_aload_n C dL_pass_2 rfl ?_
  refine k_iload_n C dL_pass_3 rfl ?_
  refine k_xcallV C hE (ci := 7) (n := 1) (as := [aI ww]) (rest := [aI 0, aR ou]) hM ml_L_36 im_X7_pass se_X7_pass ini_X7 co_X7_pass ⟨rfl, by decide, by decide, by decide +kernel⟩ rfl rfl hrc ⟨by decide, by decide⟩ rfl (Nat.le_of_ble_eq_true rfl) ⟨by decide, by decide⟩ dL_pass_4 ?_
  intro h1 hp
  refine Xk.catch C hE (by decide) (tgt := 15) [{ startPc := 0, endPc := 9, handlerPc := 12, catchType := 15 }] { startPc := 0, endPc := 9, handlerPc := 15, catchType := 31 } [] htb ?_ (by decide) (by decide) cl_L_31 rfl ?_
  · intro z hz
    simp only [List.mem_cons, List.not_mem_nil, or_false] at hz
    rcases hz with rfl
    · exact ⟨by decide, _, cl_L_15, hE.2.2.2.2.2.2.2⟩
  · intro q
    refine k_astore_n C dL_pass_15 (by decide) rfl ?_
    refine k_iconst C dL_pass_16 ?_
    exact k_iret C hr dL_pass_17 ⟨rfl, hp⟩
theorem co_L_append : Cond.codeWith yL_append cL_append 4 (some .int) [(0, 9, 12, 15), (0, 9, 15, 31)] ∈ gl_w := gl_4 (i := 8) (by decide +kernel) (by decide +kernel)
set_option maxRecDepth 20000 in
theorem wn_append (l : Launch) (D : va_G) (tc : Nat → ClassId) (base : Nat) (rc ou : Nat) (og : Int → Int) (ww : Int) (h : AH) (post : Option AV → AH → Prop) (dd : Nat) (hdd : dd ≤ 7) (hM : CT l D tc base yX7_append cX7_append 2 (some .int) dd [aR rc, aI ww] h post) (fs : List AV) (hrc : h rc = some (eO 7 fs)) (hpo : ∀ (r : Option AV) (h' : AH), post r h' → ∃ v : Int, r = some (aI v) ∧ h' ou = some (eA 2 1 og)) : CW l D tc base yL_append cL_append 4 [(0, 9, 12, 15), (0, 9, 15, 31)] [aR rc, aI ww, aR ou] h (fun r h2 => r = some (aI 0) ∧ ∃ (v : Int) (h1 : AH), post (some (aI v)) h1 ∧ h2 = hs h1 ou (eA 2 1 (iu og 0 (sx v)))) := by
  refine CW.of [some (aR rc), some (aI ww), some (aR ou), none] (by decide +kernel) rfl (Nat.le_of_ble_eq_true rfl) ?_
  intro p e s m args below meth c C hE htb hr
  refine k_aload_n C dL_append_0 rfl ?_
  refine k_iconst C dL_append_1 ?_
  refine k_aload_n C dL_append_2 rfl ?_
  refine k_iload_n C dL_append_3 rfl ?_
  refine k_callV C (ci := 7) (n := 1) (as := [aI ww]) (rest := [aI 0, aR ou]) hM ml_L_39 im_X7_append se_X7_append ini_X7 co_X7_append ⟨rfl, by decide, by decide, by decide +kernel⟩ rfl rfl hrc ⟨by (show dd + 1 ≤ 8); omega, by (show 8 + (2 + 11) + 40 * dd ≤ 40 * 8); omega⟩ rfl (Nat.le_of_ble_eq_true rfl) ⟨by decide, by decide⟩ dL_append_4 ?_
  intro r h1 hp
  obtain ⟨v, rfl, ho⟩ := hpo r h1 hp
  refine k_i2l C dL_append_7 ?_
  refine k_lastore C dL_append_8 ho (by omega) (by omega) (by omega) ?_
  refine k_goto (tgt := 18) C dL_append_9 (by decide) ?_
  refine k_iconst C dL_append_18 ?_
  refine k_wid (k := 1) (n := 6) (by omega) (by omega) ?_
  exact k_iret C hr dL_append_19 ⟨rfl, v, h1, hp, rfl⟩
set_option maxRecDepth 20000 in
theorem wt_append_1 (l : Launch) (D : va_G) (tc : Nat → ClassId) (base : Nat) (rc ou : Nat) (ww : Int) (h : AH) (post : AH → Prop) (hM : TX l D tc base yX7_append cX7_append 2 (some .int) 7 [aR rc, aI ww] h eIA post) (fs : List AV) (hrc : h rc = some (eO 7 fs)) : CW l D tc base yL_append cL_append 4 [(0, 9, 12, 15), (0, 9, 15, 31)] [aR rc, aI ww, aR ou] h (fun r h2 => r = some (aI 1) ∧ post h2) := by
  refine CW.of [some (aR rc), some (aI ww), some (aR ou), none] (by decide +kernel) rfl (Nat.le_of_ble_eq_true rfl) ?_
  intro p e s m args below meth c C hE htb hr
  refine k_aload_n C dL_append_0 rfl ?_
  refine k_iconst C dL_append_1 ?_
  refine k_aload_n C dL_append_2 rfl ?_
  refine k_iload_n C dL_append_3 rfl ?_
  refine k_xcallV C hE (ci := 7) (n := 1) (as := [aI ww]) (rest := [aI 0, aR ou]) hM ml_L_39 im_X7_append se_X7_append ini_X7 co_X7_append ⟨rfl, by decide, by decide, by decide +kernel⟩ rfl rfl hrc ⟨by decide, by decide⟩ rfl (Nat.le_of_ble_eq_true rfl) ⟨by decide, by decide⟩ dL_append_4 ?_
  intro h1 hp
  refine Xk.catch C hE (by decide) (tgt := 12) [] { startPc := 0, endPc := 9, handlerPc := 12, catchType := 15 } [{ startPc := 0, endPc := 9, handlerPc := 15, catchType := 31 }] htb ?_ (by decide) (by decide) cl_L_15 rfl ?_
  · intro z hz
    cases hz
  · intro q
    refine k_astore_n C dL_append_12 (by decide) rfl ?_
    refine k_iconst C dL_append_13 ?_
    exact k_iret C hr dL_append_14 ⟨rfl, hp⟩
set_option maxRecDepth 20000 in
theorem wt_append_2 (l : Launch) (D : va_G) (tc : Nat → ClassId) (base : Nat) (rc ou : Nat) (ww : Int) (h : AH) (post : AH → Prop) (hM : TX l D tc base yX7_append cX7_append 2 (some .int) 7 [aR rc, aI ww] h eIS post) (fs : List AV) (hrc : h rc = some (eO 7 fs)) : CW l D tc base yL_append cL_append 4 [(0, 9, 12, 15), (0, 9, 15, 31)] [aR rc, aI ww, aR ou] h (fun r h2 => r = some (aI 2) ∧ post h2) := by
  refine CW.of [some (aR rc), some (aI ww), some (aR ou), none] (by decide +kernel) rfl (Nat.le_of_ble_eq_true rfl) ?_
  intro p e s m args below meth c C hE htb hr
  refine k_aload_n C dL_append_0 rfl ?_
  refine k_iconst C dL_append_1 ?_
  refine k_aload_n C dL_append_2 rfl ?_
  refine k_iload_n C dL_append_3 rfl ?_
  refine k_xcallV C hE (ci := 7) (n := 1) (as := [aI ww]) (rest := [aI 0, aR ou]) hM ml_L_39 im_X7_append se_X7_append ini_X7 co_X7_append ⟨rfl, by decide, by decide, by decide +kernel⟩ rfl rfl hrc ⟨by decide, by decide⟩ rfl (Nat.le_of_ble_eq_true rfl) ⟨by decide, by decide⟩ dL_append_4 ?_
  intro h1 hp
  refine Xk.catch C hE (by decide) (tgt := 15) [{ startPc := 0, endPc := 9, handlerPc := 12, catchType := 15 }] { startPc := 0, endPc := 9, handlerPc := 15, catchType := 31 } [] htb ?_ (by decide) (by decide) cl_L_31 rfl ?_
  · intro z hz
    simp only [List.mem_cons, List.not_mem_nil, or_false] at hz
    rcases hz with rfl
    · exact ⟨by decide, _, cl_L_15, hE.2.2.2.2.2.2.2⟩
  · intro q
    refine k_astore_n C dL_append_15 (by decide) rfl ?_
    refine k_iconst C dL_append_16 ?_
    exact k_iret C hr dL_append_17 ⟨rfl, hp⟩
theorem co_L_load : Cond.codeWith yL_load cL_load 3 (some .int) [(0, 8, 11, 15), (0, 8, 14, 31)] ∈ gl_w := gl_4 (i := 20) (by decide +kernel) (by decide +kernel)
set_option maxRecDepth 20000 in
theorem wn_load (l : Launch) (D : va_G) (tc : Nat → ClassId) (base : Nat) (rc ou : Nat) (og : Int → Int) (h : AH) (post : Option AV → AH → Prop) (dd : Nat) (hdd : dd ≤ 7) (hM : CT l D tc base yX7_load cX7_load 1 (some .int) dd [aR rc] h post) (fs : List AV) (hrc : h rc = some (eO 7 fs)) (hpo : ∀ (r : Option AV) (h' : AH), post r h' → ∃ v : Int, r = some (aI v) ∧ h' ou = some (eA 2 1 og)) : CW l D tc base yL_load cL_load 3 [(0, 8, 11, 15), (0, 8, 14, 31)] [aR rc, aR ou] h (fun r h2 => r = some (aI 0) ∧ ∃ (v : Int) (h1 : AH), post (some (aI v)) h1 ∧ h2 = hs h1 ou (eA 2 1 (iu og 0 (sx v)))) := by
  refine CW.of [some (aR rc), some (aR ou), none] (by decide +kernel) rfl (Nat.le_of_ble_eq_true rfl) ?_
  intro p e s m args below meth c C hE htb hr
  refine k_aload_n C dL_load_0 rfl ?_
  refine k_iconst C dL_load_1 ?_
  refine k_aload_n C dL_load_2 rfl ?_
  refine k_callV C (ci := 7) (n := 0) (as := []) (rest := [aI 0, aR ou]) hM ml_L_42 im_X7_load se_X7_load ini_X7 co_X7_load ⟨rfl, by decide, by decide, by decide +kernel⟩ rfl rfl hrc ⟨by (show dd + 1 ≤ 8); omega, by (show 8 + (1 + 11) + 40 * dd ≤ 40 * 8); omega⟩ rfl (Nat.le_of_ble_eq_true rfl) ⟨by decide, by decide⟩ dL_load_3 ?_
  intro r h1 hp
  obtain ⟨v, rfl, ho⟩ := hpo r h1 hp
  refine k_i2l C dL_load_6 ?_
  refine k_lastore C dL_load_7 ho (by omega) (by omega) (by omega) ?_
  refine k_goto (tgt := 17) C dL_load_8 (by decide) ?_
  refine k_iconst C dL_load_17 ?_
  refine k_wid (k := 1) (n := 6) (by omega) (by omega) ?_
  exact k_iret C hr dL_load_18 ⟨rfl, v, h1, hp, rfl⟩
set_option maxRecDepth 20000 in
theorem wt_load_1 (l : Launch) (D : va_G) (tc : Nat → ClassId) (base : Nat) (rc ou : Nat) (h : AH) (post : AH → Prop) (hM : TX l D tc base yX7_load cX7_load 1 (some .int) 7 [aR rc] h eIA post) (fs : List AV) (hrc : h rc = some (eO 7 fs)) : CW l D tc base yL_load cL_load 3 [(0, 8, 11, 15), (0, 8, 14, 31)] [aR rc, aR ou] h (fun r h2 => r = some (aI 1) ∧ post h2) := by
  refine CW.of [some (aR rc), some (aR ou), none] (by decide +kernel) rfl (Nat.le_of_ble_eq_true rfl) ?_
  intro p e s m args below meth c C hE htb hr
  refine k_aload_n C dL_load_0 rfl ?_
  refine k_iconst C dL_load_1 ?_
  refine k_aload_n C dL_load_2 rfl ?_
  refine k_xcallV C hE (ci := 7) (n := 0) (as := []) (rest := [aI 0, aR ou]) hM ml_L_42 im_X7_load se_X7_load ini_X7 co_X7_load ⟨rfl, by decide, by decide, by decide +kernel⟩ rfl rfl hrc ⟨by decide, by decide⟩ rfl (Nat.le_of_ble_eq_true rfl) ⟨by decide, by decide⟩ dL_load_3 ?_
  intro h1 hp
  refine Xk.catch C hE (by decide) (tgt := 11) [] { startPc := 0, endPc := 8, handlerPc := 11, catchType := 15 } [{ startPc := 0, endPc := 8, handlerPc := 14, catchType := 31 }] htb ?_ (by decide) (by decide) cl_L_15 rfl ?_
  · intro z hz
    cases hz
  · intro q
    refine k_astore_n C dL_load_11 (by decide) rfl ?_
    refine k_iconst C dL_load_12 ?_
    exact k_iret C hr dL_load_13 ⟨rfl, hp⟩
set_option maxRecDepth 20000 in
theorem wt_load_2 (l : Launch) (D : va_G) (tc : Nat → ClassId) (base : Nat) (rc ou : Nat) (h : AH) (post : AH → Prop) (hM : TX l D tc base yX7_load cX7_load 1 (some .int) 7 [aR rc] h eIS post) (fs : List AV) (hrc : h rc = some (eO 7 fs)) : CW l D tc base yL_load cL_load 3 [(0, 8, 11, 15), (0, 8, 14, 31)] [aR rc, aR ou] h (fun r h2 => r = some (aI 2) ∧ post h2) := by
  refine CW.of [some (aR rc), some (aR ou), none] (by decide +kernel) rfl (Nat.le_of_ble_eq_true rfl) ?_
  intro p e s m args below meth c C hE htb hr
  refine k_aload_n C dL_load_0 rfl ?_
  refine k_iconst C dL_load_1 ?_
  refine k_aload_n C dL_load_2 rfl ?_
  refine k_xcallV C hE (ci := 7) (n := 0) (as := []) (rest := [aI 0, aR ou]) hM ml_L_42 im_X7_load se_X7_load ini_X7 co_X7_load ⟨rfl, by decide, by decide, by decide +kernel⟩ rfl rfl hrc ⟨by decide, by decide⟩ rfl (Nat.le_of_ble_eq_true rfl) ⟨by decide, by decide⟩ dL_load_3 ?_
  intro h1 hp
  refine Xk.catch C hE (by decide) (tgt := 14) [{ startPc := 0, endPc := 8, handlerPc := 11, catchType := 15 }] { startPc := 0, endPc := 8, handlerPc := 14, catchType := 31 } [] htb ?_ (by decide) (by decide) cl_L_31 rfl ?_
  · intro z hz
    simp only [List.mem_cons, List.not_mem_nil, or_false] at hz
    rcases hz with rfl
    · exact ⟨by decide, _, cl_L_15, hE.2.2.2.2.2.2.2⟩
  · intro q
    refine k_astore_n C dL_load_14 (by decide) rfl ?_
    refine k_iconst C dL_load_15 ?_
    exact k_iret C hr dL_load_16 ⟨rfl, hp⟩
theorem co_L_undo : Cond.codeWith yL_undo cL_undo 3 (some .int) [(0, 8, 11, 31)] ∈ gl_w := gl_4 (i := 51) (by decide +kernel) (by decide +kernel)
set_option maxRecDepth 20000 in
theorem wn_undo (l : Launch) (D : va_G) (tc : Nat → ClassId) (base : Nat) (rc ou : Nat) (og : Int → Int) (h : AH) (post : Option AV → AH → Prop) (dd : Nat) (hdd : dd ≤ 7) (hM : CT l D tc base yX7_undo cX7_undo 1 (some .int) dd [aR rc] h post) (fs : List AV) (hrc : h rc = some (eO 7 fs)) (hpo : ∀ (r : Option AV) (h' : AH), post r h' → ∃ v : Int, r = some (aI v) ∧ h' ou = some (eA 2 1 og)) : CW l D tc base yL_undo cL_undo 3 [(0, 8, 11, 31)] [aR rc, aR ou] h (fun r h2 => r = some (aI 0) ∧ ∃ (v : Int) (h1 : AH), post (some (aI v)) h1 ∧ h2 = hs h1 ou (eA 2 1 (iu og 0 (sx v)))) := by
  refine CW.of [some (aR rc), some (aR ou), none] (by decide +kernel) rfl (Nat.le_of_ble_eq_true rfl) ?_
  intro p e s m args below meth c C hE htb hr
  refine k_aload_n C dL_undo_0 rfl ?_
  refine k_iconst C dL_undo_1 ?_
  refine k_aload_n C dL_undo_2 rfl ?_
  refine k_callV C (ci := 7) (n := 0) (as := []) (rest := [aI 0, aR ou]) hM ml_L_46 im_X7_undo se_X7_undo ini_X7 co_X7_undo ⟨rfl, by decide, by decide, by decide +kernel⟩ rfl rfl hrc ⟨by (show dd + 1 ≤ 8); omega, by (show 8 + (1 + 11) + 40 * dd ≤ 40 * 8); omega⟩ rfl (Nat.le_of_ble_eq_true rfl) ⟨by decide, by decide⟩ dL_undo_3 ?_
  intro r h1 hp
  obtain ⟨v, rfl, ho⟩ := hpo r h1 hp
  refine k_i2l C dL_undo_6 ?_
  refine k_lastore C dL_undo_7 ho (by omega) (by omega) (by omega) ?_
  refine k_goto (tgt := 14) C dL_undo_8 (by decide) ?_
  refine k_iconst C dL_undo_14 ?_
  refine k_wid (k := 1) (n := 6) (by omega) (by omega) ?_
  exact k_iret C hr dL_undo_15 ⟨rfl, v, h1, hp, rfl⟩
set_option maxRecDepth 20000 in
theorem wt_undo_1 (l : Launch) (D : va_G) (tc : Nat → ClassId) (base : Nat) (rc ou : Nat) (h : AH) (post : AH → Prop) (hM : TX l D tc base yX7_undo cX7_undo 1 (some .int) 7 [aR rc] h eIS post) (fs : List AV) (hrc : h rc = some (eO 7 fs)) : CW l D tc base yL_undo cL_undo 3 [(0, 8, 11, 31)] [aR rc, aR ou] h (fun r h2 => r = some (aI 1) ∧ post h2) := by
  refine CW.of [some (aR rc), some (aR ou), none] (by decide +kernel) rfl (Nat.le_of_ble_eq_true rfl) ?_
  intro p e s m args below meth c C hE htb hr
  refine k_aload_n C dL_undo_0 rfl ?_
  refine k_iconst C dL_undo_1 ?_
  refine k_aload_n C dL_undo_2 rfl ?_
  refine k_xcallV C hE (ci := 7) (n := 0) (as := []) (rest := [aI 0, aR ou]) hM ml_L_46 im_X7_undo se_X7_undo ini_X7 co_X7_undo ⟨rfl, by decide, by decide, by decide +kernel⟩ rfl rfl hrc ⟨by decide, by decide⟩ rfl (Nat.le_of_ble_eq_true rfl) ⟨by decide, by decide⟩ dL_undo_3 ?_
  intro h1 hp
  refine Xk.catch C hE (by decide) (tgt := 11) [] { startPc := 0, endPc := 8, handlerPc := 11, catchType := 31 } [] htb ?_ (by decide) (by decide) cl_L_31 rfl ?_
  · intro z hz
    cases hz
  · intro q
    refine k_astore_n C dL_undo_11 (by decide) rfl ?_
    refine k_iconst C dL_undo_12 ?_
    exact k_iret C hr dL_undo_13 ⟨rfl, hp⟩
theorem co_L_weight : Cond.codeWith yL_weight cL_weight 5 (some .int) [(0, 10, 13, 13), (0, 10, 17, 15)] ∈ gl_w := gl_4 (i := 63) (by decide +kernel) (by decide +kernel)
set_option maxRecDepth 20000 in
theorem wn_weight (l : Launch) (D : va_G) (tc : Nat → ClassId) (base : Nat) (rc ou : Nat) (og : Int → Int) (ww qq : Int) (h : AH) (post : Option AV → AH → Prop) (dd : Nat) (hdd : dd ≤ 7) (hM : CT l D tc base yX7_weight cX7_weight 3 (some .int) dd [aR rc, aI ww, aI qq] h post) (fs : List AV) (hrc : h rc = some (eO 7 fs)) (hpo : ∀ (r : Option AV) (h' : AH), post r h' → ∃ v : Int, r = some (aI v) ∧ h' ou = some (eA 2 1 og)) : CW l D tc base yL_weight cL_weight 5 [(0, 10, 13, 13), (0, 10, 17, 15)] [aR rc, aI ww, aI qq, aR ou] h (fun r h2 => r = some (aI 0) ∧ ∃ (v : Int) (h1 : AH), post (some (aI v)) h1 ∧ h2 = hs h1 ou (eA 2 1 (iu og 0 (sx v)))) := by
  refine CW.of [some (aR rc), some (aI ww), some (aI qq), some (aR ou), none] (by decide +kernel) rfl (Nat.le_of_ble_eq_true rfl) ?_
  intro p e s m args below meth c C hE htb hr
  refine k_aload_n C dL_weight_0 rfl ?_
  refine k_iconst C dL_weight_1 ?_
  refine k_aload_n C dL_weight_2 rfl ?_
  refine k_iload_n C dL_weight_3 rfl ?_
  refine k_iload_n C dL_weight_4 rfl ?_
  refine k_callV C (ci := 7) (n := 2) (as := [aI ww, aI qq]) (rest := [aI 0, aR ou]) hM ml_L_49 im_X7_weight se_X7_weight ini_X7 co_X7_weight ⟨rfl, by decide, by decide, by decide +kernel⟩ rfl rfl hrc ⟨by (show dd + 1 ≤ 8); omega, by (show 8 + (3 + 11) + 40 * dd ≤ 40 * 8); omega⟩ rfl (Nat.le_of_ble_eq_true rfl) ⟨by decide, by decide⟩ dL_weight_5 ?_
  intro r h1 hp
  obtain ⟨v, rfl, ho⟩ := hpo r h1 hp
  refine k_i2l C dL_weight_8 ?_
  refine k_lastore C dL_weight_9 ho (by omega) (by omega) (by omega) ?_
  refine k_goto (tgt := 21) C dL_weight_10 (by decide) ?_
  refine k_iconst C dL_weight_21 ?_
  refine k_wid (k := 1) (n := 6) (by omega) (by omega) ?_
  exact k_iret C hr dL_weight_22 ⟨rfl, v, h1, hp, rfl⟩
set_option maxRecDepth 20000 in
theorem wt_weight_1 (l : Launch) (D : va_G) (tc : Nat → ClassId) (base : Nat) (rc ou : Nat) (ww qq : Int) (h : AH) (post : AH → Prop) (hM : TX l D tc base yX7_weight cX7_weight 3 (some .int) 7 [aR rc, aI ww, aI qq] h eIO post) (fs : List AV) (hrc : h rc = some (eO 7 fs)) : CW l D tc base yL_weight cL_weight 5 [(0, 10, 13, 13), (0, 10, 17, 15)] [aR rc, aI ww, aI qq, aR ou] h (fun r h2 => r = some (aI 1) ∧ post h2) := by
  refine CW.of [some (aR rc), some (aI ww), some (aI qq), some (aR ou), none] (by decide +kernel) rfl (Nat.le_of_ble_eq_true rfl) ?_
  intro p e s m args below meth c C hE htb hr
  refine k_aload_n C dL_weight_0 rfl ?_
  refine k_iconst C dL_weight_1 ?_
  refine k_aload_n C dL_weight_2 rfl ?_
  refine k_iload_n C dL_weight_3 rfl ?_
  refine k_iload_n C dL_weight_4 rfl ?_
  refine k_xcallV C hE (ci := 7) (n := 2) (as := [aI ww, aI qq]) (rest := [aI 0, aR ou]) hM ml_L_49 im_X7_weight se_X7_weight ini_X7 co_X7_weight ⟨rfl, by decide, by decide, by decide +kernel⟩ rfl rfl hrc ⟨by decide, by decide⟩ rfl (Nat.le_of_ble_eq_true rfl) ⟨by decide, by decide⟩ dL_weight_5 ?_
  intro h1 hp
  refine Xk.catch C hE (by decide) (tgt := 13) [] { startPc := 0, endPc := 10, handlerPc := 13, catchType := 13 } [{ startPc := 0, endPc := 10, handlerPc := 17, catchType := 15 }] htb ?_ (by decide) (by decide) cl_L_13 rfl ?_
  · intro z hz
    cases hz
  · intro q
    refine k_astore C dL_weight_13 (by decide) rfl ?_
    refine k_iconst C dL_weight_15 ?_
    exact k_iret C hr dL_weight_16 ⟨rfl, hp⟩
set_option maxRecDepth 20000 in
theorem wt_weight_2 (l : Launch) (D : va_G) (tc : Nat → ClassId) (base : Nat) (rc ou : Nat) (ww qq : Int) (h : AH) (post : AH → Prop) (hM : TX l D tc base yX7_weight cX7_weight 3 (some .int) 7 [aR rc, aI ww, aI qq] h eIA post) (fs : List AV) (hrc : h rc = some (eO 7 fs)) : CW l D tc base yL_weight cL_weight 5 [(0, 10, 13, 13), (0, 10, 17, 15)] [aR rc, aI ww, aI qq, aR ou] h (fun r h2 => r = some (aI 2) ∧ post h2) := by
  refine CW.of [some (aR rc), some (aI ww), some (aI qq), some (aR ou), none] (by decide +kernel) rfl (Nat.le_of_ble_eq_true rfl) ?_
  intro p e s m args below meth c C hE htb hr
  refine k_aload_n C dL_weight_0 rfl ?_
  refine k_iconst C dL_weight_1 ?_
  refine k_aload_n C dL_weight_2 rfl ?_
  refine k_iload_n C dL_weight_3 rfl ?_
  refine k_iload_n C dL_weight_4 rfl ?_
  refine k_xcallV C hE (ci := 7) (n := 2) (as := [aI ww, aI qq]) (rest := [aI 0, aR ou]) hM ml_L_49 im_X7_weight se_X7_weight ini_X7 co_X7_weight ⟨rfl, by decide, by decide, by decide +kernel⟩ rfl rfl hrc ⟨by decide, by decide⟩ rfl (Nat.le_of_ble_eq_true rfl) ⟨by decide, by decide⟩ dL_weight_5 ?_
  intro h1 hp
  refine Xk.catch C hE (by decide) (tgt := 17) [{ startPc := 0, endPc := 10, handlerPc := 13, catchType := 13 }] { startPc := 0, endPc := 10, handlerPc := 17, catchType := 15 } [] htb ?_ (by decide) (by decide) cl_L_15 rfl ?_
  · intro z hz
    simp only [List.mem_cons, List.not_mem_nil, or_false] at hz
    rcases hz with rfl
    · exact ⟨by decide, _, cl_L_13, hE.2.2.2.2.2.1⟩
  · intro q
    refine k_astore C dL_weight_17 (by decide) rfl ?_
    refine k_iconst C dL_weight_19 ?_
    exact k_iret C hr dL_weight_20 ⟨rfl, hp⟩
theorem co_L_winder : Cond.codeWith yL_winder cL_winder 5 (some .int) [(0, 10, 13, 13), (0, 10, 17, 15)] ∈ gl_w := gl_4 (i := 67) (by decide +kernel) (by decide +kernel)
set_option maxRecDepth 20000 in
theorem wn_winder (l : Launch) (D : va_G) (tc : Nat → ClassId) (base : Nat) (rc ou : Nat) (og : Int → Int) (ww qq : Int) (h : AH) (post : Option AV → AH → Prop) (dd : Nat) (hdd : dd ≤ 7) (hM : CT l D tc base yX7_winder cX7_winder 4 (some .int) dd [aR rc, aI ww, aI qq] h post) (fs : List AV) (hrc : h rc = some (eO 7 fs)) (hpo : ∀ (r : Option AV) (h' : AH), post r h' → ∃ v : Int, r = some (aI v) ∧ h' ou = some (eA 2 1 og)) : CW l D tc base yL_winder cL_winder 5 [(0, 10, 13, 13), (0, 10, 17, 15)] [aR rc, aI ww, aI qq, aR ou] h (fun r h2 => r = some (aI 0) ∧ ∃ (v : Int) (h1 : AH), post (some (aI v)) h1 ∧ h2 = hs h1 ou (eA 2 1 (iu og 0 (sx v)))) := by
  refine CW.of [some (aR rc), some (aI ww), some (aI qq), some (aR ou), none] (by decide +kernel) rfl (Nat.le_of_ble_eq_true rfl) ?_
  intro p e s m args below meth c C hE htb hr
  refine k_aload_n C dL_winder_0 rfl ?_
  refine k_iconst C dL_winder_1 ?_
  refine k_aload_n C dL_winder_2 rfl ?_
  refine k_iload_n C dL_winder_3 rfl ?_
  refine k_iload_n C dL_winder_4 rfl ?_
  refine k_callV C (ci := 7) (n := 2) (as := [aI ww, aI qq]) (rest := [aI 0, aR ou]) hM ml_L_52 im_X7_winder se_X7_winder ini_X7 co_X7_winder ⟨rfl, by decide, by decide, by decide +kernel⟩ rfl rfl hrc ⟨by (show dd + 1 ≤ 8); omega, by (show 8 + (4 + 11) + 40 * dd ≤ 40 * 8); omega⟩ rfl (Nat.le_of_ble_eq_true rfl) ⟨by decide, by decide⟩ dL_winder_5 ?_
  intro r h1 hp
  obtain ⟨v, rfl, ho⟩ := hpo r h1 hp
  refine k_i2l C dL_winder_8 ?_
  refine k_lastore C dL_winder_9 ho (by omega) (by omega) (by omega) ?_
  refine k_goto (tgt := 21) C dL_winder_10 (by decide) ?_
  refine k_iconst C dL_winder_21 ?_
  refine k_wid (k := 1) (n := 6) (by omega) (by omega) ?_
  exact k_iret C hr dL_winder_22 ⟨rfl, v, h1, hp, rfl⟩
set_option maxRecDepth 20000 in
theorem wt_winder_1 (l : Launch) (D : va_G) (tc : Nat → ClassId) (base : Nat) (rc ou : Nat) (ww qq : Int) (h : AH) (post : AH → Prop) (hM : TX l D tc base yX7_winder cX7_winder 4 (some .int) 7 [aR rc, aI ww, aI qq] h eIO post) (fs : List AV) (hrc : h rc = some (eO 7 fs)) : CW l D tc base yL_winder cL_winder 5 [(0, 10, 13, 13), (0, 10, 17, 15)] [aR rc, aI ww, aI qq, aR ou] h (fun r h2 => r = some (aI 1) ∧ post h2) := by
  refine CW.of [some (aR rc), some (aI ww), some (aI qq), some (aR ou), none] (by decide +kernel) rfl (Nat.le_of_ble_eq_true rfl) ?_
  intro p e s m args below meth c C hE htb hr
  refine k_aload_n C dL_winder_0 rfl ?_
  refine k_iconst C dL_winder_1 ?_
  refine k_aload_n C dL_winder_2 rfl ?_
  refine k_iload_n C dL_winder_3 rfl ?_
  refine k_iload_n C dL_winder_4 rfl ?_
  refine k_xcallV C hE (ci := 7) (n := 2) (as := [aI ww, aI qq]) (rest := [aI 0, aR ou]) hM ml_L_52 im_X7_winder se_X7_winder ini_X7 co_X7_winder ⟨rfl, by decide, by decide, by decide +kernel⟩ rfl rfl hrc ⟨by decide, by decide⟩ rfl (Nat.le_of_ble_eq_true rfl) ⟨by decide, by decide⟩ dL_winder_5 ?_
  intro h1 hp
  refine Xk.catch C hE (by decide) (tgt := 13) [] { startPc := 0, endPc := 10, handlerPc := 13, catchType := 13 } [{ startPc := 0, endPc := 10, handlerPc := 17, catchType := 15 }] htb ?_ (by decide) (by decide) cl_L_13 rfl ?_
  · intro z hz
    cases hz
  · intro q
    refine k_astore C dL_winder_13 (by decide) rfl ?_
    refine k_iconst C dL_winder_15 ?_
    exact k_iret C hr dL_winder_16 ⟨rfl, hp⟩
set_option maxRecDepth 20000 in
theorem wt_winder_2 (l : Launch) (D : va_G) (tc : Nat → ClassId) (base : Nat) (rc ou : Nat) (ww qq : Int) (h : AH) (post : AH → Prop) (hM : TX l D tc base yX7_winder cX7_winder 4 (some .int) 7 [aR rc, aI ww, aI qq] h eIA post) (fs : List AV) (hrc : h rc = some (eO 7 fs)) : CW l D tc base yL_winder cL_winder 5 [(0, 10, 13, 13), (0, 10, 17, 15)] [aR rc, aI ww, aI qq, aR ou] h (fun r h2 => r = some (aI 2) ∧ post h2) := by
  refine CW.of [some (aR rc), some (aI ww), some (aI qq), some (aR ou), none] (by decide +kernel) rfl (Nat.le_of_ble_eq_true rfl) ?_
  intro p e s m args below meth c C hE htb hr
  refine k_aload_n C dL_winder_0 rfl ?_
  refine k_iconst C dL_winder_1 ?_
  refine k_aload_n C dL_winder_2 rfl ?_
  refine k_iload_n C dL_winder_3 rfl ?_
  refine k_iload_n C dL_winder_4 rfl ?_
  refine k_xcallV C hE (ci := 7) (n := 2) (as := [aI ww, aI qq]) (rest := [aI 0, aR ou]) hM ml_L_52 im_X7_winder se_X7_winder ini_X7 co_X7_winder ⟨rfl, by decide, by decide, by decide +kernel⟩ rfl rfl hrc ⟨by decide, by decide⟩ rfl (Nat.le_of_ble_eq_true rfl) ⟨by decide, by decide⟩ dL_winder_5 ?_
  intro h1 hp
  refine Xk.catch C hE (by decide) (tgt := 17) [{ startPc := 0, endPc := 10, handlerPc := 13, catchType := 13 }] { startPc := 0, endPc := 10, handlerPc := 17, catchType := 15 } [] htb ?_ (by decide) (by decide) cl_L_15 rfl ?_
  · intro z hz
    simp only [List.mem_cons, List.not_mem_nil, or_false] at hz
    rcases hz with rfl
    · exact ⟨by decide, _, cl_L_13, hE.2.2.2.2.2.1⟩
  · intro q
    refine k_astore C dL_winder_17 (by decide) rfl ?_
    refine k_iconst C dL_winder_19 ?_
    exact k_iret C hr dL_winder_20 ⟨rfl, hp⟩
theorem co_L_debt : Cond.codeWith yL_debt cL_debt 5 (some .int) [(0, 10, 13, 13), (0, 10, 17, 15)] ∈ gl_w := gl_4 (i := 71) (by decide +kernel) (by decide +kernel)
set_option maxRecDepth 20000 in
theorem wn_debt (l : Launch) (D : va_G) (tc : Nat → ClassId) (base : Nat) (rc ou : Nat) (og : Int → Int) (ww qq : Int) (h : AH) (post : Option AV → AH → Prop) (dd : Nat) (hdd : dd ≤ 7) (hM : CT l D tc base yX7_debt cX7_debt 3 (some .int) dd [aR rc, aI ww, aI qq] h post) (fs : List AV) (hrc : h rc = some (eO 7 fs)) (hpo : ∀ (r : Option AV) (h' : AH), post r h' → ∃ v : Int, r = some (aI v) ∧ h' ou = some (eA 2 1 og)) : CW l D tc base yL_debt cL_debt 5 [(0, 10, 13, 13), (0, 10, 17, 15)] [aR rc, aI ww, aI qq, aR ou] h (fun r h2 => r = some (aI 0) ∧ ∃ (v : Int) (h1 : AH), post (some (aI v)) h1 ∧ h2 = hs h1 ou (eA 2 1 (iu og 0 (sx v)))) := by
  refine CW.of [some (aR rc), some (aI ww), some (aI qq), some (aR ou), none] (by decide +kernel) rfl (Nat.le_of_ble_eq_true rfl) ?_
  intro p e s m args below meth c C hE htb hr
  refine k_aload_n C dL_debt_0 rfl ?_
  refine k_iconst C dL_debt_1 ?_
  refine k_aload_n C dL_debt_2 rfl ?_
  refine k_iload_n C dL_debt_3 rfl ?_
  refine k_iload_n C dL_debt_4 rfl ?_
  refine k_callV C (ci := 7) (n := 2) (as := [aI ww, aI qq]) (rest := [aI 0, aR ou]) hM ml_L_55 im_X7_debt se_X7_debt ini_X7 co_X7_debt ⟨rfl, by decide, by decide, by decide +kernel⟩ rfl rfl hrc ⟨by (show dd + 1 ≤ 8); omega, by (show 8 + (3 + 11) + 40 * dd ≤ 40 * 8); omega⟩ rfl (Nat.le_of_ble_eq_true rfl) ⟨by decide, by decide⟩ dL_debt_5 ?_
  intro r h1 hp
  obtain ⟨v, rfl, ho⟩ := hpo r h1 hp
  refine k_i2l C dL_debt_8 ?_
  refine k_lastore C dL_debt_9 ho (by omega) (by omega) (by omega) ?_
  refine k_goto (tgt := 21) C dL_debt_10 (by decide) ?_
  refine k_iconst C dL_debt_21 ?_
  refine k_wid (k := 1) (n := 6) (by omega) (by omega) ?_
  exact k_iret C hr dL_debt_22 ⟨rfl, v, h1, hp, rfl⟩
set_option maxRecDepth 20000 in
theorem wt_debt_1 (l : Launch) (D : va_G) (tc : Nat → ClassId) (base : Nat) (rc ou : Nat) (ww qq : Int) (h : AH) (post : AH → Prop) (hM : TX l D tc base yX7_debt cX7_debt 3 (some .int) 7 [aR rc, aI ww, aI qq] h eIO post) (fs : List AV) (hrc : h rc = some (eO 7 fs)) : CW l D tc base yL_debt cL_debt 5 [(0, 10, 13, 13), (0, 10, 17, 15)] [aR rc, aI ww, aI qq, aR ou] h (fun r h2 => r = some (aI 1) ∧ post h2) := by
  refine CW.of [some (aR rc), some (aI ww), some (aI qq), some (aR ou), none] (by decide +kernel) rfl (Nat.le_of_ble_eq_true rfl) ?_
  intro p e s m args below meth c C hE htb hr
  refine k_aload_n C dL_debt_0 rfl ?_
  refine k_iconst C dL_debt_1 ?_
  refine k_aload_n C dL_debt_2 rfl ?_
  refine k_iload_n C dL_debt_3 rfl ?_
  refine k_iload_n C dL_debt_4 rfl ?_
  refine k_xcallV C hE (ci := 7) (n := 2) (as := [aI ww, aI qq]) (rest := [aI 0, aR ou]) hM ml_L_55 im_X7_debt se_X7_debt ini_X7 co_X7_debt ⟨rfl, by decide, by decide, by decide +kernel⟩ rfl rfl hrc ⟨by decide, by decide⟩ rfl (Nat.le_of_ble_eq_true rfl) ⟨by decide, by decide⟩ dL_debt_5 ?_
  intro h1 hp
  refine Xk.catch C hE (by decide) (tgt := 13) [] { startPc := 0, endPc := 10, handlerPc := 13, catchType := 13 } [{ startPc := 0, endPc := 10, handlerPc := 17, catchType := 15 }] htb ?_ (by decide) (by decide) cl_L_13 rfl ?_
  · intro z hz
    cases hz
  · intro q
    refine k_astore C dL_debt_13 (by decide) rfl ?_
    refine k_iconst C dL_debt_15 ?_
    exact k_iret C hr dL_debt_16 ⟨rfl, hp⟩
set_option maxRecDepth 20000 in
theorem wt_debt_2 (l : Launch) (D : va_G) (tc : Nat → ClassId) (base : Nat) (rc ou : Nat) (ww qq : Int) (h : AH) (post : AH → Prop) (hM : TX l D tc base yX7_debt cX7_debt 3 (some .int) 7 [aR rc, aI ww, aI qq] h eIA post) (fs : List AV) (hrc : h rc = some (eO 7 fs)) : CW l D tc base yL_debt cL_debt 5 [(0, 10, 13, 13), (0, 10, 17, 15)] [aR rc, aI ww, aI qq, aR ou] h (fun r h2 => r = some (aI 2) ∧ post h2) := by
  refine CW.of [some (aR rc), some (aI ww), some (aI qq), some (aR ou), none] (by decide +kernel) rfl (Nat.le_of_ble_eq_true rfl) ?_
  intro p e s m args below meth c C hE htb hr
  refine k_aload_n C dL_debt_0 rfl ?_
  refine k_iconst C dL_debt_1 ?_
  refine k_aload_n C dL_debt_2 rfl ?_
  refine k_iload_n C dL_debt_3 rfl ?_
  refine k_iload_n C dL_debt_4 rfl ?_
  refine k_xcallV C hE (ci := 7) (n := 2) (as := [aI ww, aI qq]) (rest := [aI 0, aR ou]) hM ml_L_55 im_X7_debt se_X7_debt ini_X7 co_X7_debt ⟨rfl, by decide, by decide, by decide +kernel⟩ rfl rfl hrc ⟨by decide, by decide⟩ rfl (Nat.le_of_ble_eq_true rfl) ⟨by decide, by decide⟩ dL_debt_5 ?_
  intro h1 hp
  refine Xk.catch C hE (by decide) (tgt := 17) [{ startPc := 0, endPc := 10, handlerPc := 13, catchType := 13 }] { startPc := 0, endPc := 10, handlerPc := 17, catchType := 15 } [] htb ?_ (by decide) (by decide) cl_L_15 rfl ?_
  · intro z hz
    simp only [List.mem_cons, List.not_mem_nil, or_false] at hz
    rcases hz with rfl
    · exact ⟨by decide, _, cl_L_13, hE.2.2.2.2.2.1⟩
  · intro q
    refine k_astore C dL_debt_17 (by decide) rfl ?_
    refine k_iconst C dL_debt_19 ?_
    exact k_iret C hr dL_debt_20 ⟨rfl, hp⟩
theorem co_L_count : Cond.codeWith yL_count cL_count 4 (some .int) [(0, 9, 12, 15)] ∈ gl_w := gl_4 (i := 75) (by decide +kernel) (by decide +kernel)
set_option maxRecDepth 20000 in
theorem wn_count (l : Launch) (D : va_G) (tc : Nat → ClassId) (base : Nat) (rc ou : Nat) (og : Int → Int) (qq : Int) (h : AH) (post : Option AV → AH → Prop) (dd : Nat) (hdd : dd ≤ 7) (hM : CT l D tc base yX7_count cX7_count 2 (some .int) dd [aR rc, aI qq] h post) (fs : List AV) (hrc : h rc = some (eO 7 fs)) (hpo : ∀ (r : Option AV) (h' : AH), post r h' → ∃ v : Int, r = some (aI v) ∧ h' ou = some (eA 2 1 og)) : CW l D tc base yL_count cL_count 4 [(0, 9, 12, 15)] [aR rc, aI qq, aR ou] h (fun r h2 => r = some (aI 0) ∧ ∃ (v : Int) (h1 : AH), post (some (aI v)) h1 ∧ h2 = hs h1 ou (eA 2 1 (iu og 0 (sx v)))) := by
  refine CW.of [some (aR rc), some (aI qq), some (aR ou), none] (by decide +kernel) rfl (Nat.le_of_ble_eq_true rfl) ?_
  intro p e s m args below meth c C hE htb hr
  refine k_aload_n C dL_count_0 rfl ?_
  refine k_iconst C dL_count_1 ?_
  refine k_aload_n C dL_count_2 rfl ?_
  refine k_iload_n C dL_count_3 rfl ?_
  refine k_callV C (ci := 7) (n := 1) (as := [aI qq]) (rest := [aI 0, aR ou]) hM ml_L_58 im_X7_count se_X7_count ini_X7 co_X7_count ⟨rfl, by decide, by decide, by decide +kernel⟩ rfl rfl hrc ⟨by (show dd + 1 ≤ 8); omega, by (show 8 + (2 + 11) + 40 * dd ≤ 40 * 8); omega⟩ rfl (Nat.le_of_ble_eq_true rfl) ⟨by decide, by decide⟩ dL_count_4 ?_
  intro r h1 hp
  obtain ⟨v, rfl, ho⟩ := hpo r h1 hp
  refine k_i2l C dL_count_7 ?_
  refine k_lastore C dL_count_8 ho (by omega) (by omega) (by omega) ?_
  refine k_goto (tgt := 15) C dL_count_9 (by decide) ?_
  refine k_iconst C dL_count_15 ?_
  refine k_wid (k := 1) (n := 6) (by omega) (by omega) ?_
  exact k_iret C hr dL_count_16 ⟨rfl, v, h1, hp, rfl⟩
set_option maxRecDepth 20000 in
theorem wt_count_1 (l : Launch) (D : va_G) (tc : Nat → ClassId) (base : Nat) (rc ou : Nat) (qq : Int) (h : AH) (post : AH → Prop) (hM : TX l D tc base yX7_count cX7_count 2 (some .int) 7 [aR rc, aI qq] h eIA post) (fs : List AV) (hrc : h rc = some (eO 7 fs)) : CW l D tc base yL_count cL_count 4 [(0, 9, 12, 15)] [aR rc, aI qq, aR ou] h (fun r h2 => r = some (aI 1) ∧ post h2) := by
  refine CW.of [some (aR rc), some (aI qq), some (aR ou), none] (by decide +kernel) rfl (Nat.le_of_ble_eq_true rfl) ?_
  intro p e s m args below meth c C hE htb hr
  refine k_aload_n C dL_count_0 rfl ?_
  refine k_iconst C dL_count_1 ?_
  refine k_aload_n C dL_count_2 rfl ?_
  refine k_iload_n C dL_count_3 rfl ?_
  refine k_xcallV C hE (ci := 7) (n := 1) (as := [aI qq]) (rest := [aI 0, aR ou]) hM ml_L_58 im_X7_count se_X7_count ini_X7 co_X7_count ⟨rfl, by decide, by decide, by decide +kernel⟩ rfl rfl hrc ⟨by decide, by decide⟩ rfl (Nat.le_of_ble_eq_true rfl) ⟨by decide, by decide⟩ dL_count_4 ?_
  intro h1 hp
  refine Xk.catch C hE (by decide) (tgt := 12) [] { startPc := 0, endPc := 9, handlerPc := 12, catchType := 15 } [] htb ?_ (by decide) (by decide) cl_L_15 rfl ?_
  · intro z hz
    cases hz
  · intro q
    refine k_astore_n C dL_count_12 (by decide) rfl ?_
    refine k_iconst C dL_count_13 ?_
    exact k_iret C hr dL_count_14 ⟨rfl, hp⟩
theorem co_L_setting : Cond.codeWith yL_setting cL_setting 4 (some .int) [(0, 9, 12, 13)] ∈ gl_w := gl_4 (i := 79) (by decide +kernel) (by decide +kernel)
set_option maxRecDepth 20000 in
theorem wn_setting (l : Launch) (D : va_G) (tc : Nat → ClassId) (base : Nat) (rc ou : Nat) (og : Int → Int) (ww : Int) (h : AH) (post : Option AV → AH → Prop) (dd : Nat) (hdd : dd ≤ 7) (hM : CT l D tc base yX7_setting cX7_setting 2 (some .int) dd [aR rc, aI ww] h post) (fs : List AV) (hrc : h rc = some (eO 7 fs)) (hpo : ∀ (r : Option AV) (h' : AH), post r h' → ∃ v : Int, r = some (aI v) ∧ h' ou = some (eA 2 1 og)) : CW l D tc base yL_setting cL_setting 4 [(0, 9, 12, 13)] [aR rc, aI ww, aR ou] h (fun r h2 => r = some (aI 0) ∧ ∃ (v : Int) (h1 : AH), post (some (aI v)) h1 ∧ h2 = hs h1 ou (eA 2 1 (iu og 0 (sx v)))) := by
  refine CW.of [some (aR rc), some (aI ww), some (aR ou), none] (by decide +kernel) rfl (Nat.le_of_ble_eq_true rfl) ?_
  intro p e s m args below meth c C hE htb hr
  refine k_aload_n C dL_setting_0 rfl ?_
  refine k_iconst C dL_setting_1 ?_
  refine k_aload_n C dL_setting_2 rfl ?_
  refine k_iload_n C dL_setting_3 rfl ?_
  refine k_callV C (ci := 7) (n := 1) (as := [aI ww]) (rest := [aI 0, aR ou]) hM ml_L_61 im_X7_setting se_X7_setting ini_X7 co_X7_setting ⟨rfl, by decide, by decide, by decide +kernel⟩ rfl rfl hrc ⟨by (show dd + 1 ≤ 8); omega, by (show 8 + (2 + 11) + 40 * dd ≤ 40 * 8); omega⟩ rfl (Nat.le_of_ble_eq_true rfl) ⟨by decide, by decide⟩ dL_setting_4 ?_
  intro r h1 hp
  obtain ⟨v, rfl, ho⟩ := hpo r h1 hp
  refine k_i2l C dL_setting_7 ?_
  refine k_lastore C dL_setting_8 ho (by omega) (by omega) (by omega) ?_
  refine k_goto (tgt := 15) C dL_setting_9 (by decide) ?_
  refine k_iconst C dL_setting_15 ?_
  refine k_wid (k := 1) (n := 6) (by omega) (by omega) ?_
  exact k_iret C hr dL_setting_16 ⟨rfl, v, h1, hp, rfl⟩
set_option maxRecDepth 20000 in
theorem wt_setting_1 (l : Launch) (D : va_G) (tc : Nat → ClassId) (base : Nat) (rc ou : Nat) (ww : Int) (h : AH) (post : AH → Prop) (hM : TX l D tc base yX7_setting cX7_setting 2 (some .int) 7 [aR rc, aI ww] h eIO post) (fs : List AV) (hrc : h rc = some (eO 7 fs)) : CW l D tc base yL_setting cL_setting 4 [(0, 9, 12, 13)] [aR rc, aI ww, aR ou] h (fun r h2 => r = some (aI 1) ∧ post h2) := by
  refine CW.of [some (aR rc), some (aI ww), some (aR ou), none] (by decide +kernel) rfl (Nat.le_of_ble_eq_true rfl) ?_
  intro p e s m args below meth c C hE htb hr
  refine k_aload_n C dL_setting_0 rfl ?_
  refine k_iconst C dL_setting_1 ?_
  refine k_aload_n C dL_setting_2 rfl ?_
  refine k_iload_n C dL_setting_3 rfl ?_
  refine k_xcallV C hE (ci := 7) (n := 1) (as := [aI ww]) (rest := [aI 0, aR ou]) hM ml_L_61 im_X7_setting se_X7_setting ini_X7 co_X7_setting ⟨rfl, by decide, by decide, by decide +kernel⟩ rfl rfl hrc ⟨by decide, by decide⟩ rfl (Nat.le_of_ble_eq_true rfl) ⟨by decide, by decide⟩ dL_setting_4 ?_
  intro h1 hp
  refine Xk.catch C hE (by decide) (tgt := 12) [] { startPc := 0, endPc := 9, handlerPc := 12, catchType := 13 } [] htb ?_ (by decide) (by decide) cl_L_13 rfl ?_
  · intro z hz
    cases hz
  · intro q
    refine k_astore_n C dL_setting_12 (by decide) rfl ?_
    refine k_iconst C dL_setting_13 ?_
    exact k_iret C hr dL_setting_14 ⟨rfl, hp⟩
theorem co_L_why : Cond.codeWith yL_why cL_why 4 (some .int) [(0, 9, 12, 15)] ∈ gl_w := gl_4 (i := 83) (by decide +kernel) (by decide +kernel)
set_option maxRecDepth 20000 in
theorem wn_why (l : Launch) (D : va_G) (tc : Nat → ClassId) (base : Nat) (rc ou : Nat) (og : Int → Int) (qq : Int) (h : AH) (post : Option AV → AH → Prop) (dd : Nat) (hdd : dd ≤ 7) (hM : CT l D tc base yX7_why cX7_why 2 (some .int) dd [aR rc, aI qq] h post) (fs : List AV) (hrc : h rc = some (eO 7 fs)) (hpo : ∀ (r : Option AV) (h' : AH), post r h' → ∃ v : Int, r = some (aI v) ∧ h' ou = some (eA 2 1 og)) : CW l D tc base yL_why cL_why 4 [(0, 9, 12, 15)] [aR rc, aI qq, aR ou] h (fun r h2 => r = some (aI 0) ∧ ∃ (v : Int) (h1 : AH), post (some (aI v)) h1 ∧ h2 = hs h1 ou (eA 2 1 (iu og 0 (sx v)))) := by
  refine CW.of [some (aR rc), some (aI qq), some (aR ou), none] (by decide +kernel) rfl (Nat.le_of_ble_eq_true rfl) ?_
  intro p e s m args below meth c C hE htb hr
  refine k_aload_n C dL_why_0 rfl ?_
  refine k_iconst C dL_why_1 ?_
  refine k_aload_n C dL_why_2 rfl ?_
  refine k_iload_n C dL_why_3 rfl ?_
  refine k_callV C (ci := 7) (n := 1) (as := [aI qq]) (rest := [aI 0, aR ou]) hM ml_L_64 im_X7_why se_X7_why ini_X7 co_X7_why ⟨rfl, by decide, by decide, by decide +kernel⟩ rfl rfl hrc ⟨by (show dd + 1 ≤ 8); omega, by (show 8 + (2 + 11) + 40 * dd ≤ 40 * 8); omega⟩ rfl (Nat.le_of_ble_eq_true rfl) ⟨by decide, by decide⟩ dL_why_4 ?_
  intro r h1 hp
  obtain ⟨v, rfl, ho⟩ := hpo r h1 hp
  refine k_i2l C dL_why_7 ?_
  refine k_lastore C dL_why_8 ho (by omega) (by omega) (by omega) ?_
  refine k_goto (tgt := 15) C dL_why_9 (by decide) ?_
  refine k_iconst C dL_why_15 ?_
  refine k_wid (k := 1) (n := 6) (by omega) (by omega) ?_
  exact k_iret C hr dL_why_16 ⟨rfl, v, h1, hp, rfl⟩
set_option maxRecDepth 20000 in
theorem wt_why_1 (l : Launch) (D : va_G) (tc : Nat → ClassId) (base : Nat) (rc ou : Nat) (qq : Int) (h : AH) (post : AH → Prop) (hM : TX l D tc base yX7_why cX7_why 2 (some .int) 7 [aR rc, aI qq] h eIA post) (fs : List AV) (hrc : h rc = some (eO 7 fs)) : CW l D tc base yL_why cL_why 4 [(0, 9, 12, 15)] [aR rc, aI qq, aR ou] h (fun r h2 => r = some (aI 1) ∧ post h2) := by
  refine CW.of [some (aR rc), some (aI qq), some (aR ou), none] (by decide +kernel) rfl (Nat.le_of_ble_eq_true rfl) ?_
  intro p e s m args below meth c C hE htb hr
  refine k_aload_n C dL_why_0 rfl ?_
  refine k_iconst C dL_why_1 ?_
  refine k_aload_n C dL_why_2 rfl ?_
  refine k_iload_n C dL_why_3 rfl ?_
  refine k_xcallV C hE (ci := 7) (n := 1) (as := [aI qq]) (rest := [aI 0, aR ou]) hM ml_L_64 im_X7_why se_X7_why ini_X7 co_X7_why ⟨rfl, by decide, by decide, by decide +kernel⟩ rfl rfl hrc ⟨by decide, by decide⟩ rfl (Nat.le_of_ble_eq_true rfl) ⟨by decide, by decide⟩ dL_why_4 ?_
  intro h1 hp
  refine Xk.catch C hE (by decide) (tgt := 12) [] { startPc := 0, endPc := 9, handlerPc := 12, catchType := 15 } [] htb ?_ (by decide) (by decide) cl_L_15 rfl ?_
  · intro z hz
    cases hz
  · intro q
    refine k_astore_n C dL_why_12 (by decide) rfl ?_
    refine k_iconst C dL_why_13 ?_
    exact k_iret C hr dL_why_14 ⟨rfl, hp⟩
theorem co_L_ifPassed : Cond.codeWith yL_ifPassed cL_ifPassed 5 (some .int) [(0, 10, 13, 15)] ∈ gl_w := gl_4 (i := 87) (by decide +kernel) (by decide +kernel)
set_option maxRecDepth 20000 in
theorem wn_ifPassed (l : Launch) (D : va_G) (tc : Nat → ClassId) (base : Nat) (rc ou : Nat) (og : Int → Int) (ww qq : Int) (h : AH) (post : Option AV → AH → Prop) (dd : Nat) (hdd : dd ≤ 7) (hM : CT l D tc base yX7_ifPassed cX7_ifPassed 3 (some .int) dd [aR rc, aI ww, aI qq] h post) (fs : List AV) (hrc : h rc = some (eO 7 fs)) (hpo : ∀ (r : Option AV) (h' : AH), post r h' → ∃ v : Int, r = some (aI v) ∧ h' ou = some (eA 2 1 og)) : CW l D tc base yL_ifPassed cL_ifPassed 5 [(0, 10, 13, 15)] [aR rc, aI ww, aI qq, aR ou] h (fun r h2 => r = some (aI 0) ∧ ∃ (v : Int) (h1 : AH), post (some (aI v)) h1 ∧ h2 = hs h1 ou (eA 2 1 (iu og 0 (sx v)))) := by
  refine CW.of [some (aR rc), some (aI ww), some (aI qq), some (aR ou), none] (by decide +kernel) rfl (Nat.le_of_ble_eq_true rfl) ?_
  intro p e s m args below meth c C hE htb hr
  refine k_aload_n C dL_ifPassed_0 rfl ?_
  refine k_iconst C dL_ifPassed_1 ?_
  refine k_aload_n C dL_ifPassed_2 rfl ?_
  refine k_iload_n C dL_ifPassed_3 rfl ?_
  refine k_iload_n C dL_ifPassed_4 rfl ?_
  refine k_callV C (ci := 7) (n := 2) (as := [aI ww, aI qq]) (rest := [aI 0, aR ou]) hM ml_L_67 im_X7_ifPassed se_X7_ifPassed ini_X7 co_X7_ifPassed ⟨rfl, by decide, by decide, by decide +kernel⟩ rfl rfl hrc ⟨by (show dd + 1 ≤ 8); omega, by (show 8 + (3 + 11) + 40 * dd ≤ 40 * 8); omega⟩ rfl (Nat.le_of_ble_eq_true rfl) ⟨by decide, by decide⟩ dL_ifPassed_5 ?_
  intro r h1 hp
  obtain ⟨v, rfl, ho⟩ := hpo r h1 hp
  refine k_i2l C dL_ifPassed_8 ?_
  refine k_lastore C dL_ifPassed_9 ho (by omega) (by omega) (by omega) ?_
  refine k_goto (tgt := 17) C dL_ifPassed_10 (by decide) ?_
  refine k_iconst C dL_ifPassed_17 ?_
  refine k_wid (k := 1) (n := 6) (by omega) (by omega) ?_
  exact k_iret C hr dL_ifPassed_18 ⟨rfl, v, h1, hp, rfl⟩
set_option maxRecDepth 20000 in
theorem wt_ifPassed_1 (l : Launch) (D : va_G) (tc : Nat → ClassId) (base : Nat) (rc ou : Nat) (ww qq : Int) (h : AH) (post : AH → Prop) (hM : TX l D tc base yX7_ifPassed cX7_ifPassed 3 (some .int) 7 [aR rc, aI ww, aI qq] h eIA post) (fs : List AV) (hrc : h rc = some (eO 7 fs)) : CW l D tc base yL_ifPassed cL_ifPassed 5 [(0, 10, 13, 15)] [aR rc, aI ww, aI qq, aR ou] h (fun r h2 => r = some (aI 1) ∧ post h2) := by
  refine CW.of [some (aR rc), some (aI ww), some (aI qq), some (aR ou), none] (by decide +kernel) rfl (Nat.le_of_ble_eq_true rfl) ?_
  intro p e s m args below meth c C hE htb hr
  refine k_aload_n C dL_ifPassed_0 rfl ?_
  refine k_iconst C dL_ifPassed_1 ?_
  refine k_aload_n C dL_ifPassed_2 rfl ?_
  refine k_iload_n C dL_ifPassed_3 rfl ?_
  refine k_iload_n C dL_ifPassed_4 rfl ?_
  refine k_xcallV C hE (ci := 7) (n := 2) (as := [aI ww, aI qq]) (rest := [aI 0, aR ou]) hM ml_L_67 im_X7_ifPassed se_X7_ifPassed ini_X7 co_X7_ifPassed ⟨rfl, by decide, by decide, by decide +kernel⟩ rfl rfl hrc ⟨by decide, by decide⟩ rfl (Nat.le_of_ble_eq_true rfl) ⟨by decide, by decide⟩ dL_ifPassed_5 ?_
  intro h1 hp
  refine Xk.catch C hE (by decide) (tgt := 13) [] { startPc := 0, endPc := 10, handlerPc := 13, catchType := 15 } [] htb ?_ (by decide) (by decide) cl_L_15 rfl ?_
  · intro z hz
    cases hz
  · intro q
    refine k_astore C dL_ifPassed_13 (by decide) rfl ?_
    refine k_iconst C dL_ifPassed_15 ?_
    exact k_iret C hr dL_ifPassed_16 ⟨rfl, hp⟩
theorem co_L_leastTurns : Cond.codeWith yL_leastTurns cL_leastTurns 4 (some .int) [(0, 9, 12, 15)] ∈ gl_w := gl_4 (i := 94) (by decide +kernel) (by decide +kernel)
set_option maxRecDepth 20000 in
theorem wn_leastTurns (l : Launch) (D : va_G) (tc : Nat → ClassId) (base : Nat) (rc ou : Nat) (og : Int → Int) (ww : Int) (h : AH) (post : Option AV → AH → Prop) (dd : Nat) (hdd : dd ≤ 7) (hM : CT l D tc base yX7_leastTurns cX7_leastTurns 6 (some .int) dd [aR rc, aI ww] h post) (fs : List AV) (hrc : h rc = some (eO 7 fs)) (hpo : ∀ (r : Option AV) (h' : AH), post r h' → ∃ v : Int, r = some (aI v) ∧ h' ou = some (eA 2 1 og)) : CW l D tc base yL_leastTurns cL_leastTurns 4 [(0, 9, 12, 15)] [aR rc, aI ww, aR ou] h (fun r h2 => r = some (aI 0) ∧ ∃ (v : Int) (h1 : AH), post (some (aI v)) h1 ∧ h2 = hs h1 ou (eA 2 1 (iu og 0 (sx v)))) := by
  refine CW.of [some (aR rc), some (aI ww), some (aR ou), none] (by decide +kernel) rfl (Nat.le_of_ble_eq_true rfl) ?_
  intro p e s m args below meth c C hE htb hr
  refine k_aload_n C dL_leastTurns_0 rfl ?_
  refine k_iconst C dL_leastTurns_1 ?_
  refine k_aload_n C dL_leastTurns_2 rfl ?_
  refine k_iload_n C dL_leastTurns_3 rfl ?_
  refine k_callV C (ci := 7) (n := 1) (as := [aI ww]) (rest := [aI 0, aR ou]) hM ml_L_70 im_X7_leastTurns se_X7_leastTurns ini_X7 co_X7_leastTurns ⟨rfl, by decide, by decide, by decide +kernel⟩ rfl rfl hrc ⟨by (show dd + 1 ≤ 8); omega, by (show 8 + (6 + 11) + 40 * dd ≤ 40 * 8); omega⟩ rfl (Nat.le_of_ble_eq_true rfl) ⟨by decide, by decide⟩ dL_leastTurns_4 ?_
  intro r h1 hp
  obtain ⟨v, rfl, ho⟩ := hpo r h1 hp
  refine k_i2l C dL_leastTurns_7 ?_
  refine k_lastore C dL_leastTurns_8 ho (by omega) (by omega) (by omega) ?_
  refine k_goto (tgt := 15) C dL_leastTurns_9 (by decide) ?_
  refine k_iconst C dL_leastTurns_15 ?_
  refine k_wid (k := 1) (n := 6) (by omega) (by omega) ?_
  exact k_iret C hr dL_leastTurns_16 ⟨rfl, v, h1, hp, rfl⟩
set_option maxRecDepth 20000 in
theorem wt_leastTurns_1 (l : Launch) (D : va_G) (tc : Nat → ClassId) (base : Nat) (rc ou : Nat) (ww : Int) (h : AH) (post : AH → Prop) (hM : TX l D tc base yX7_leastTurns cX7_leastTurns 6 (some .int) 7 [aR rc, aI ww] h eIA post) (fs : List AV) (hrc : h rc = some (eO 7 fs)) : CW l D tc base yL_leastTurns cL_leastTurns 4 [(0, 9, 12, 15)] [aR rc, aI ww, aR ou] h (fun r h2 => r = some (aI 1) ∧ post h2) := by
  refine CW.of [some (aR rc), some (aI ww), some (aR ou), none] (by decide +kernel) rfl (Nat.le_of_ble_eq_true rfl) ?_
  intro p e s m args below meth c C hE htb hr
  refine k_aload_n C dL_leastTurns_0 rfl ?_
  refine k_iconst C dL_leastTurns_1 ?_
  refine k_aload_n C dL_leastTurns_2 rfl ?_
  refine k_iload_n C dL_leastTurns_3 rfl ?_
  refine k_xcallV C hE (ci := 7) (n := 1) (as := [aI ww]) (rest := [aI 0, aR ou]) hM ml_L_70 im_X7_leastTurns se_X7_leastTurns ini_X7 co_X7_leastTurns ⟨rfl, by decide, by decide, by decide +kernel⟩ rfl rfl hrc ⟨by decide, by decide⟩ rfl (Nat.le_of_ble_eq_true rfl) ⟨by decide, by decide⟩ dL_leastTurns_4 ?_
  intro h1 hp
  refine Xk.catch C hE (by decide) (tgt := 12) [] { startPc := 0, endPc := 9, handlerPc := 12, catchType := 15 } [] htb ?_ (by decide) (by decide) cl_L_15 rfl ?_
  · intro z hz
    cases hz
  · intro q
    refine k_astore_n C dL_leastTurns_12 (by decide) rfl ?_
    refine k_iconst C dL_leastTurns_13 ?_
    exact k_iret C hr dL_leastTurns_14 ⟨rfl, hp⟩
