theorem pFine_one {tx ro : Int → Int} {ln : Int} {n n' : Nat} (h1 : pFine tx ro n) (h2 : (n : Int) = ln ∨ ((n : Int) < ln ∧ ¬ pOk (tx n) (pS tx ro n).1 (pS tx ro n).2.1 (pS tx ro n).2.2)) (h1' : pFine tx ro n') (h2' : (n' : Int) = ln ∨ ((n' : Int) < ln ∧ ¬ pOk (tx n') (pS tx ro n').1 (pS tx ro n').2.1 (pS tx ro n').2.2)) : n = n' := by
  rcases Nat.lt_trichotomy n n' with hlt | heq | hgt
  · rcases h2 with h | ⟨-, h⟩
    · rcases h2' with g | ⟨g, -⟩ <;> omega
    · exact absurd (h1' n hlt) h
  · exact heq
  · rcases h2' with h | ⟨-, h⟩
    · rcases h2 with g | ⟨g, -⟩ <;> omega
    · exact absurd (h1 n' hgt) h
set_option maxRecDepth 20000 in
set_option maxHeartbeats 2000000 in
theorem op_mend {D : va_G} {tc : Nat → ClassId} {base : Nat} {p : Program} {l : Launch} {e : Env} {s : State} {m : MethodId} {args : Array Value} {below : List Frame} {meth : Method} {c : Code} {cells slots : Nat} {Q : State → Prop} (C : Cx D tc base RL cL_law 9 p s m args meth c) {b : Nat} {j : Int} (hcc1 : cells + 1 ≤ room_1.cells ∧ slots + 6 ≤ room_1.slots) (h : AH) (z hi tx : Int → Int) (st ln : Int) (og : Int → Int) (hI : LI h base z hi tx st ln og) (k : LG D tc base b p l e s m args below meth c (cells + 1) (slots + 6) Q j) : Wk D tc base 9 p l e room_1 s m args below meth c cells slots Q 408 [some (aR b), some (aR base), some (aR (base + 127)), some (aR (base + 133)), some (aI j), none, none, none, none] [] h := by
  have hcc := hcc1
  obtain ⟨hX, ⟨has, hro, th, re, du, hsh, hMod0⟩, hO⟩ := hI
  obtain ⟨⟨fs, hfx⟩, hok, h13, hst, hln, htr⟩ := hX.fx
  refine k_wid (k := cells + 1) (n := slots + 6) (by omega) (by omega) ?_
  refine k_aload_n C dL_law_408 rfl ?_
  have hC := ct_X7_mend l D tc base base z hi tx st ln h hX
  refine k_callV C (ci := 7) (as := []) (rest := []) (n := 0) hC ml_L_96 im_X7_mend se_X7_mend ini_X7 co_X7_mend ⟨rfl, by decide, by decide, by decide +kernel⟩ rfl rfl hfx ⟨by decide, by decide⟩ rfl (Nat.le_of_ble_eq_true rfl) hcc dL_law_409 ?_
  rintro r h1 ⟨rfl, hX1, hF1⟩
  have hMod := hMod0.fr (fun a a0 a1 => hF1 a (by omega))
  have hO1 := (hF1 (base + 133) (by omega)).trans hO
  refine k_aload_n C dL_law_412 rfl ?_
  have hMM := ct_X8_mend l D tc base (base + 127) z hi tx has hro st ln th re du hsh h1 hMod hok.1 hst
  refine k_callV C (ci := 8) (as := []) (rest := [aI (z 12)]) (n := 0) hMM ml_L_99 im_X8_mend se_X8_mend ini_X8 co_X8_mend ⟨rfl, by decide, by decide, by decide +kernel⟩ rfl rfl hMod.1 ⟨by decide, by decide⟩ rfl (Nat.le_of_ble_eq_true rfl) hcc dL_law_413 ?_
  rintro r h2 ⟨-, rfl, hM2, hF2⟩
  have kE := k h2 _ _ _ _ _ og ⟨hX1.fr (fun a a0 a1 => hF2 a (by omega)), ⟨_, _, _, _, _, _, hM2⟩, (hF2 (base + 133) (by omega)).trans hO1⟩
  exact k_icmp_same (tgt := 1386) C dL_law_416 (by decide) kE
set_option maxRecDepth 20000 in
set_option maxHeartbeats 2000000 in
theorem op_forgive {D : va_G} {tc : Nat → ClassId} {base : Nat} {p : Program} {l : Launch} {e : Env} {s : State} {m : MethodId} {args : Array Value} {below : List Frame} {meth : Method} {c : Code} {cells slots : Nat} {Q : State → Prop} (C : Cx D tc base RL cL_law 9 p s m args meth c) {b : Nat} {j : Int} (hcc1 : cells + 1 ≤ room_1.cells ∧ slots + 6 ≤ room_1.slots) (h : AH) (z hi tx : Int → Int) (st ln : Int) (og : Int → Int) (hI : LI h base z hi tx st ln og) (k : LG D tc base b p l e s m args below meth c (cells + 1) (slots + 6) Q j) : Wk D tc base 9 p l e room_1 s m args below meth c cells slots Q 421 [some (aR b), some (aR base), some (aR (base + 127)), some (aR (base + 133)), some (aI j), none, none, none, none] [] h := by
  have hcc := hcc1
  obtain ⟨hX, ⟨has, hro, th, re, du, hsh, hMod0⟩, hO⟩ := hI
  obtain ⟨⟨fs, hfx⟩, hok, h13, hst, hln, htr⟩ := hX.fx
  refine k_wid (k := cells + 1) (n := slots + 6) (by omega) (by omega) ?_
  refine k_aload_n C dL_law_421 rfl ?_
  have hC := ct_X7_forgive l D tc base base z hi tx st ln h hX
  refine k_callV C (ci := 7) (as := []) (rest := []) (n := 0) hC ml_L_100 im_X7_forgive se_X7_forgive ini_X7 co_X7_forgive ⟨rfl, by decide, by decide, by decide +kernel⟩ rfl rfl hfx ⟨by decide, by decide⟩ rfl (Nat.le_of_ble_eq_true rfl) hcc dL_law_422 ?_
  rintro r h1 ⟨rfl, hX1, hF1⟩
  have hMod := hMod0.fr (fun a a0 a1 => hF1 a (by omega))
  have hO1 := (hF1 (base + 133) (by omega)).trans hO
  refine k_aload_n C dL_law_425 rfl ?_
  have hMM := ct_X8_forgive l D tc base (base + 127) z hi tx has hro st ln th re du hsh h1 hMod hok.1 hst
  refine k_callV C (ci := 8) (as := []) (rest := [aI (zOwed z)]) (n := 0) hMM ml_L_103 im_X8_forgive se_X8_forgive ini_X8 co_X8_forgive ⟨rfl, by decide, by decide, by decide +kernel⟩ rfl rfl hMod.1 ⟨by decide, by decide⟩ rfl (Nat.le_of_ble_eq_true rfl) hcc dL_law_426 ?_
  rintro r h2 ⟨-, rfl, hM2, hF2⟩
  have kE := k h2 _ _ _ _ _ og ⟨hX1.fr (fun a a0 a1 => hF2 a (by omega)), ⟨_, _, _, _, _, _, hM2⟩, (hF2 (base + 133) (by omega)).trans hO1⟩
  exact k_icmp_same (tgt := 1386) C dL_law_429 (by decide) kE
set_option maxRecDepth 20000 in
set_option maxHeartbeats 2000000 in
theorem op_clearBuffer {D : va_G} {tc : Nat → ClassId} {base : Nat} {p : Program} {l : Launch} {e : Env} {s : State} {m : MethodId} {args : Array Value} {below : List Frame} {meth : Method} {c : Code} {cells slots : Nat} {Q : State → Prop} (C : Cx D tc base RL cL_law 9 p s m args meth c) {b : Nat} {j : Int} (hcc1 : cells + 1 ≤ room_1.cells ∧ slots + 6 ≤ room_1.slots) (h : AH) (z hi tx : Int → Int) (st ln : Int) (og : Int → Int) (hI : LI h base z hi tx st ln og) (k : LG D tc base b p l e s m args below meth c (cells + 1) (slots + 6) Q j) : Wk D tc base 9 p l e room_1 s m args below meth c cells slots Q 682 [some (aR b), some (aR base), some (aR (base + 127)), some (aR (base + 133)), some (aI j), none, none, none, none] [] h := by
  have hcc := hcc1
  obtain ⟨hX, ⟨has, hro, th, re, du, hsh, hMod0⟩, hO⟩ := hI
  obtain ⟨⟨fs, hfx⟩, hok, h13, hst, hln, htr⟩ := hX.fx
  refine k_wid (k := cells + 1) (n := slots + 6) (by omega) (by omega) ?_
  refine k_aload_n C dL_law_682 rfl ?_
  have hC := ct_X7_clearBuffer l D tc base base z hi tx st ln h hX
  refine k_callV C (ci := 7) (as := []) (rest := []) (n := 0) hC ml_L_117 im_X7_clearBuffer se_X7_clearBuffer ini_X7 co_X7_clearBuffer ⟨rfl, by decide, by decide, by decide +kernel⟩ rfl rfl hfx ⟨by decide, by decide⟩ rfl (Nat.le_of_ble_eq_true rfl) hcc dL_law_683 ?_
  rintro r h1 ⟨rfl, hX1, hF1⟩
  have hMod := hMod0.fr (fun a a0 a1 => hF1 a (by omega))
  have hO1 := (hF1 (base + 133) (by omega)).trans hO
  refine k_aload_n C dL_law_686 rfl ?_
  have hMM := ct_X8_clearBuffer l D tc base (base + 127) z hi tx has hro st ln th re du hsh h1 hMod 
  refine k_callV C (ci := 8) (as := []) (rest := [aI ln]) (n := 0) hMM ml_L_120 im_X8_clearBuffer se_X8_clearBuffer ini_X8 co_X8_clearBuffer ⟨rfl, by decide, by decide, by decide +kernel⟩ rfl rfl hMod.1 ⟨by decide, by decide⟩ rfl (Nat.le_of_ble_eq_true rfl) hcc dL_law_687 ?_
  rintro r h2 ⟨-, rfl, hM2, hF2⟩
  have kE := k h2 _ _ _ _ _ og ⟨hX1.fr (fun a a0 a1 => hF2 a (by omega)), ⟨_, _, _, _, _, _, hM2⟩, (hF2 (base + 133) (by omega)).trans hO1⟩
  exact k_icmp_same (tgt := 1386) C dL_law_690 (by decide) kE
set_option maxRecDepth 20000 in
set_option maxHeartbeats 2000000 in
theorem op_standsIn {D : va_G} {tc : Nat → ClassId} {base : Nat} {p : Program} {l : Launch} {e : Env} {s : State} {m : MethodId} {args : Array Value} {below : List Frame} {meth : Method} {c : Code} {cells slots : Nat} {Q : State → Prop} (C : Cx D tc base RL cL_law 9 p s m args meth c) {b : Nat} {j : Int} (hcc1 : cells + 1 ≤ room_1.cells ∧ slots + 6 ≤ room_1.slots) (h : AH) (z hi tx : Int → Int) (st ln : Int) (og : Int → Int) (hI : LI h base z hi tx st ln og) (k : LG D tc base b p l e s m args below meth c (cells + 1) (slots + 6) Q j) : Wk D tc base 9 p l e room_1 s m args below meth c cells slots Q 1236 [some (aR b), some (aR base), some (aR (base + 127)), some (aR (base + 133)), some (aI j), none, none, none, none] [] h := by
  have hcc := hcc1
  obtain ⟨hX, ⟨has, hro, th, re, du, hsh, hMod0⟩, hO⟩ := hI
  obtain ⟨⟨fs, hfx⟩, hok, h13, hst, hln, htr⟩ := hX.fx
  refine k_wid (k := cells + 1) (n := slots + 6) (by omega) (by omega) ?_
  refine k_aload_n C dL_law_1236 rfl ?_
  have hC := ct_X7_standsIn l D tc base base z hi tx st ln h hX
  refine k_callV C (ci := 7) (as := []) (rest := []) (n := 0) hC ml_L_153 im_X7_standsIn se_X7_standsIn ini_X7 co_X7_standsIn ⟨rfl, by decide, by decide, by decide +kernel⟩ rfl rfl hfx ⟨by decide, by decide⟩ rfl (Nat.le_of_ble_eq_true rfl) hcc dL_law_1237 ?_
  rintro r h1 ⟨rfl, hX1, hF1⟩
  have hMod := hMod0.fr (fun a a0 a1 => hF1 a (by omega))
  have hO1 := (hF1 (base + 133) (by omega)).trans hO
  refine k_aload_n C dL_law_1240 rfl ?_
  have hMM := ct_X8_standsIn l D tc base (base + 127) z hi tx has hro st ln th re du hsh h1 hMod hok.1 hok.2 h13
  refine k_callV C (ci := 8) (as := []) (rest := [aI (zStN z 1501)]) (n := 0) hMM ml_L_156 im_X8_standsIn se_X8_standsIn ini_X8 co_X8_standsIn ⟨rfl, by decide, by decide, by decide +kernel⟩ rfl rfl hMod.1 ⟨by decide, by decide⟩ rfl (Nat.le_of_ble_eq_true rfl) hcc dL_law_1241 ?_
  rintro r h2 ⟨-, rfl, ⟨hax, hM2⟩, hF2⟩
  have kE := k h2 _ _ _ _ _ og ⟨hX1.fr (fun a a0 a1 => hF2 a (by omega)), ⟨_, _, _, _, _, _, hM2⟩, (hF2 (base + 133) (by omega)).trans hO1⟩
  exact k_icmp_same (tgt := 1386) C dL_law_1244 (by decide) kE
set_option maxRecDepth 20000 in
set_option maxHeartbeats 2000000 in
theorem op_paidIn {D : va_G} {tc : Nat → ClassId} {base : Nat} {p : Program} {l : Launch} {e : Env} {s : State} {m : MethodId} {args : Array Value} {below : List Frame} {meth : Method} {c : Code} {cells slots : Nat} {Q : State → Prop} (C : Cx D tc base RL cL_law 9 p s m args meth c) {b : Nat} {j : Int} (hcc1 : cells + 1 ≤ room_1.cells ∧ slots + 6 ≤ room_1.slots) (h : AH) (z hi tx : Int → Int) (st ln : Int) (og : Int → Int) (hI : LI h base z hi tx st ln og) (k : LG D tc base b p l e s m args below meth c (cells + 1) (slots + 6) Q j) : Wk D tc base 9 p l e room_1 s m args below meth c cells slots Q 1249 [some (aR b), some (aR base), some (aR (base + 127)), some (aR (base + 133)), some (aI j), none, none, none, none] [] h := by
  have hcc := hcc1
  obtain ⟨hX, ⟨has, hro, th, re, du, hsh, hMod0⟩, hO⟩ := hI
  obtain ⟨⟨fs, hfx⟩, hok, h13, hst, hln, htr⟩ := hX.fx
  refine k_wid (k := cells + 1) (n := slots + 6) (by omega) (by omega) ?_
  refine k_aload_n C dL_law_1249 rfl ?_
  have hC := ct_X7_paidIn l D tc base base z hi tx st ln h hX
  refine k_callV C (ci := 7) (as := []) (rest := []) (n := 0) hC ml_L_157 im_X7_paidIn se_X7_paidIn ini_X7 co_X7_paidIn ⟨rfl, by decide, by decide, by decide +kernel⟩ rfl rfl hfx ⟨by decide, by decide⟩ rfl (Nat.le_of_ble_eq_true rfl) hcc dL_law_1250 ?_
  rintro r h1 ⟨rfl, hX1, hF1⟩
  have hMod := hMod0.fr (fun a a0 a1 => hF1 a (by omega))
  have hO1 := (hF1 (base + 133) (by omega)).trans hO
  refine k_aload_n C dL_law_1253 rfl ?_
  have hMM := ct_X8_paidIn l D tc base (base + 127) z hi tx has hro st ln th re du hsh h1 hMod hok.1 hok.2 h13
  refine k_callV C (ci := 8) (as := []) (rest := [aI (zPaN z 721)]) (n := 0) hMM ml_L_160 im_X8_paidIn se_X8_paidIn ini_X8 co_X8_paidIn ⟨rfl, by decide, by decide, by decide +kernel⟩ rfl rfl hMod.1 ⟨by decide, by decide⟩ rfl (Nat.le_of_ble_eq_true rfl) hcc dL_law_1254 ?_
  rintro r h2 ⟨-, rfl, ⟨hax, hM2⟩, hF2⟩
  have kE := k h2 _ _ _ _ _ og ⟨hX1.fr (fun a a0 a1 => hF2 a (by omega)), ⟨_, _, _, _, _, _, hM2⟩, (hF2 (base + 133) (by omega)).trans hO1⟩
  exact k_icmp_same (tgt := 1386) C dL_law_1257 (by decide) kE
set_option maxRecDepth 20000 in
set_option maxHeartbeats 2000000 in
theorem op_downFirst {D : va_G} {tc : Nat → ClassId} {base : Nat} {p : Program} {l : Launch} {e : Env} {s : State} {m : MethodId} {args : Array Value} {below : List Frame} {meth : Method} {c : Code} {cells slots : Nat} {Q : State → Prop} (C : Cx D tc base RL cL_law 9 p s m args meth c) {b : Nat} {j : Int} (hcc1 : cells + 1 ≤ room_1.cells ∧ slots + 6 ≤ room_1.slots) (h : AH) (z hi tx : Int → Int) (st ln : Int) (og : Int → Int) (hI : LI h base z hi tx st ln og) (k : LG D tc base b p l e s m args below meth c (cells + 1) (slots + 6) Q j) : Wk D tc base 9 p l e room_1 s m args below meth c cells slots Q 1318 [some (aR b), some (aR base), some (aR (base + 127)), some (aR (base + 133)), some (aI j), none, none, none, none] [] h := by
  have hcc := hcc1
  obtain ⟨hX, ⟨has, hro, th, re, du, hsh, hMod0⟩, hO⟩ := hI
  obtain ⟨⟨fs, hfx⟩, hok, h13, hst, hln, htr⟩ := hX.fx
  refine k_wid (k := cells + 1) (n := slots + 6) (by omega) (by omega) ?_
  refine k_aload_n C dL_law_1318 rfl ?_
  have hC := ct_X7_downFirst l D tc base base z hi tx st ln h hX
  refine k_callV C (ci := 7) (as := []) (rest := []) (n := 0) hC ml_L_164 im_X7_downFirst se_X7_downFirst ini_X7 co_X7_downFirst ⟨rfl, by decide, by decide, by decide +kernel⟩ rfl rfl hfx ⟨by decide, by decide⟩ rfl (Nat.le_of_ble_eq_true rfl) hcc dL_law_1319 ?_
  rintro r h1 ⟨rfl, hX1, hF1⟩
  have hMod := hMod0.fr (fun a a0 a1 => hF1 a (by omega))
  have hO1 := (hF1 (base + 133) (by omega)).trans hO
  refine k_aload_n C dL_law_1322 rfl ?_
  have hMM := ct_X8_downFirst l D tc base (base + 127) z hi tx has hro st ln th re du hsh h1 hMod hok.1 hok.2 h13
  refine k_callV C (ci := 8) (as := []) (rest := [aI (zFd z)]) (n := 0) hMM ml_L_167 im_X8_downFirst se_X8_downFirst ini_X8 co_X8_downFirst ⟨rfl, by decide, by decide, by decide +kernel⟩ rfl rfl hMod.1 ⟨by decide, by decide⟩ rfl (Nat.le_of_ble_eq_true rfl) hcc dL_law_1323 ?_
  rintro r h2 ⟨-, rfl, ⟨hax, hM2⟩, hF2⟩
  have kE := k h2 _ _ _ _ _ og ⟨hX1.fr (fun a a0 a1 => hF2 a (by omega)), ⟨_, _, _, _, _, _, hM2⟩, (hF2 (base + 133) (by omega)).trans hO1⟩
  exact k_icmp_same (tgt := 1386) C dL_law_1326 (by decide) kE
set_option maxRecDepth 20000 in
set_option maxHeartbeats 2000000 in
theorem op_firstError {D : va_G} {tc : Nat → ClassId} {base : Nat} {p : Program} {l : Launch} {e : Env} {s : State} {m : MethodId} {args : Array Value} {below : List Frame} {meth : Method} {c : Code} {cells slots : Nat} {Q : State → Prop} (C : Cx D tc base RL cL_law 9 p s m args meth c) {b : Nat} {j : Int} (hcc1 : cells + 1 ≤ room_1.cells ∧ slots + 6 ≤ room_1.slots) (h : AH) (z hi tx : Int → Int) (st ln : Int) (og : Int → Int) (hI : LI h base z hi tx st ln og) (k : LG D tc base b p l e s m args below meth c (cells + 1) (slots + 6) Q j) : Wk D tc base 9 p l e room_1 s m args below meth c cells slots Q 695 [some (aR b), some (aR base), some (aR (base + 127)), some (aR (base + 133)), some (aI j), none, none, none, none] [] h := by
  have hcc := hcc1
  obtain ⟨hX, ⟨has, hro, th, re, du, hsh, hMod0⟩, hO⟩ := hI
  obtain ⟨⟨fs, hfx⟩, hok, h13, hst, hln, htr⟩ := hX.fx
  refine k_wid (k := cells + 1) (n := slots + 6) (by omega) (by omega) ?_
  refine k_aload_n C dL_law_695 rfl ?_
  have hC := ct_X7_firstError l D tc base base z hi tx st ln h hX hro
  refine k_callV C (ci := 7) (as := []) (rest := []) (n := 0) hC ml_L_121 im_X7_firstError se_X7_firstError ini_X7 co_X7_firstError ⟨rfl, by decide, by decide, by decide +kernel⟩ rfl rfl hfx ⟨by decide, by decide⟩ rfl (Nat.le_of_ble_eq_true rfl) hcc dL_law_696 ?_
  rintro r h1 ⟨nn, rfl, hn1, hn2, hn3, hX1, hF1⟩
  have hMod := hMod0.fr (fun a a0 a1 => hF1 a (by omega))
  have hO1 := (hF1 (base + 133) (by omega)).trans hO
  refine k_aload_n C dL_law_699 rfl ?_
  have hMM := ct_X8_firstError l D tc base (base + 127) z hi tx has hro st ln th re du hsh h1 hMod hln htr
  refine k_callV C (ci := 8) (as := []) (rest := [aI nn]) (n := 0) hMM ml_L_124 im_X8_firstError se_X8_firstError ini_X8 co_X8_firstError ⟨rfl, by decide, by decide, by decide +kernel⟩ rfl rfl hMod.1 ⟨by decide, by decide⟩ rfl (Nat.le_of_ble_eq_true rfl) hcc dL_law_700 ?_
  rintro r h2 ⟨n2, rfl, hm1, hm2, hm3, ⟨rex, dux, hrx, hM2⟩, hF2⟩
  rw [pFine_one hm2 hm3 hn2 hn3]
  have kE := k h2 _ _ _ _ _ og ⟨hX1.fr (fun a a0 a1 => hF2 a (by omega)), ⟨_, _, _, _, _, _, hM2⟩, (hF2 (base + 133) (by omega)).trans hO1⟩
  exact k_icmp_same (tgt := 1386) C dL_law_703 (by decide) kE
set_option maxRecDepth 20000 in
set_option maxHeartbeats 2000000 in
theorem op_digest {D : va_G} {tc : Nat → ClassId} {base : Nat} {p : Program} {l : Launch} {e : Env} {s : State} {m : MethodId} {args : Array Value} {below : List Frame} {meth : Method} {c : Code} {cells slots : Nat} {Q : State → Prop} (C : Cx D tc base RL cL_law 9 p s m args meth c) {b : Nat} {j : Int} (hcc1 : cells + 1 ≤ room_1.cells ∧ slots + 6 ≤ room_1.slots) (h : AH) (z hi tx : Int → Int) (st ln : Int) (og : Int → Int) (hI : LI h base z hi tx st ln og) (k : LG D tc base b p l e s m args below meth c (cells + 1) (slots + 6) Q j) : Wk D tc base 9 p l e room_1 s m args below meth c cells slots Q 1372 [some (aR b), some (aR base), some (aR (base + 127)), some (aR (base + 133)), some (aI j), none, none, none, none] [] h := by
  have hcc := hcc1
  obtain ⟨hX, ⟨has, hro, th, re, du, hsh, hMod0⟩, hO⟩ := hI
  obtain ⟨⟨fs, hfx⟩, hok, h13, hst, hln, htr⟩ := hX.fx
  refine k_wid (k := cells + 1) (n := slots + 6) (by omega) (by omega) ?_
  refine k_aload_n C dL_law_1372 rfl ?_
  have hC := ct_X7_digest l D tc base base z hi tx st ln h hX
  refine k_callV C (ci := 7) (as := []) (rest := []) (n := 0) hC ml_L_173 im_X7_digest se_X7_digest ini_X7 co_X7_digest ⟨rfl, by decide, by decide, by decide +kernel⟩ rfl rfl hfx ⟨by decide, by decide⟩ rfl (Nat.le_of_ble_eq_true rfl) hcc dL_law_1373 ?_
  rintro r h1 ⟨lt, hlt, rfl, hX1, hF1⟩
  have hMod := hMod0.fr (fun a a0 a1 => hF1 a (by omega))
  have hO1 := (hF1 (base + 133) (by omega)).trans hO
  refine k_aload_n C dL_law_1376 rfl ?_
  have hMM := ct_X8_digest l D tc base (base + 127) z hi tx has hro st ln th re du hsh h1 hMod hok h13 hln hst
  refine k_callV C (ci := 8) (as := []) (rest := [aL (hDig z tx st ln lt)]) (n := 0) hMM ml_L_177 im_X8_digest se_X8_digest ini_X8 co_X8_digest ⟨rfl, by decide, by decide, by decide +kernel⟩ rfl rfl hMod.1 ⟨by decide, by decide⟩ rfl (Nat.le_of_ble_eq_true rfl) hcc dL_law_1377 ?_
  rintro r h2 ⟨l2, hl2, rfl, ⟨hax, hs2, hM2⟩, hF2⟩
  rw [zLeast_one hl2 hlt]
  have kE := k h2 _ _ _ _ _ og ⟨hX1.fr (fun a a0 a1 => hF2 a (by omega)), ⟨_, _, _, _, _, _, hM2⟩, (hF2 (base + 133) (by omega)).trans hO1⟩
  refine k_lcmpNe C dL_law_1380 (fun w hw he => ?_)
  exact k_if_eq (tgt := 1386) C dL_law_1381 (by decide) hw (fun _ => kE) (fun cw => absurd (he.mpr rfl) cw)
set_option maxRecDepth 20000 in
set_option maxHeartbeats 2000000 in
theorem op_lostShare {D : va_G} {tc : Nat → ClassId} {base : Nat} {p : Program} {l : Launch} {e : Env} {s : State} {m : MethodId} {args : Array Value} {below : List Frame} {meth : Method} {c : Code} {cells slots : Nat} {Q : State → Prop} (C : Cx D tc base RL cL_law 9 p s m args meth c) {b : Nat} {j : Int} (hcc1 : cells + 1 ≤ room_1.cells ∧ slots + 6 ≤ room_1.slots) (h : AH) (z hi tx : Int → Int) (st ln : Int) (og : Int → Int) (hI : LI h base z hi tx st ln og) (k : LG D tc base b p l e s m args below meth c (cells + 1) (slots + 6) Q j) : Wk D tc base 9 p l e room_1 s m args below meth c cells slots Q 1331 [some (aR b), some (aR base), some (aR (base + 127)), some (aR (base + 133)), some (aI j), none, none, none, none] [] h := by
  have hcc := hcc1
  obtain ⟨hX, ⟨has, hro, th, re, du, hsh, hMod0⟩, hO⟩ := hI
  obtain ⟨⟨fs, hfx⟩, hok, h13, hst, hln, htr⟩ := hX.fx
  refine k_wid (k := cells + 1) (n := slots + 6) (by omega) (by omega) ?_
  refine k_aload_n C dL_law_1331 rfl ?_
  have hC := ct_X7_lostShare l D tc base base z hi tx st ln h hX
  refine k_callV C (ci := 7) (as := []) (rest := []) (n := 0) hC ml_L_168 im_X7_lostShare se_X7_lostShare ini_X7 co_X7_lostShare ⟨rfl, by decide, by decide, by decide +kernel⟩ rfl rfl hfx ⟨by decide, by decide⟩ rfl (Nat.le_of_ble_eq_true rfl) hcc dL_law_1332 ?_
  rintro r h1 ⟨rfl, hhq⟩
  have hX1 : XA h1 base z hi tx st ln := by rw [← hhq]; exact hX
  have hF1 : Fr h h1 base 127 := by rw [← hhq]; exact Fr.rf _ _ _
  have hMod := hMod0.fr (fun a a0 a1 => hF1 a (by omega))
  have hO1 := (hF1 (base + 133) (by omega)).trans hO
  refine k_dstore C dL_law_1335 (by decide) rfl ?_
  refine k_aload_n C dL_law_1337 rfl ?_
  have hMM := ct_X8_lostShare l D tc base (base + 127) z hi tx has hro st ln th re du hsh h1 hMod hok h13
  refine k_callV C (ci := 8) (as := []) (rest := []) (n := 0) hMM ml_L_172 im_X8_lostShare se_X8_lostShare ini_X8 co_X8_lostShare ⟨rfl, by decide, by decide, by decide +kernel⟩ rfl rfl hMod.1 ⟨by decide, by decide⟩ rfl (Nat.le_of_ble_eq_true rfl) hcc dL_law_1338 ?_
  rintro r h2 ⟨rfl, hM2, hF2⟩
  have kE := k h2 _ _ _ _ _ og ⟨hX1.fr (fun a a0 a1 => hF2 a (by omega)), ⟨_, _, _, _, _, _, hM2⟩, (hF2 (base + 133) (by omega)).trans hO1⟩
  refine k_dstore C dL_law_1341 (by decide) rfl ?_
  refine k_dload C dL_law_1343 rfl ?_
  refine k_dload C dL_law_1345 rfl ?_
  have hx := (shOk_nn (shOk_z hok h13)).1
  refine k_dcmp C (v := 0) (by rw [show FP.dcmp (zSh z) (zSh z) = some .eq from FP.Core.dcmp_eq.mpr ⟨hx, hx, rfl⟩]; decide +kernel) dL_law_1347 ?_
  refine k_if_eq (tgt := 1369) C dL_law_1348 (by decide) ⟨by omega, by omega⟩ (fun _ => ?_) (fun cw => absurd rfl cw)
  refine k_goto (tgt := 1386) C dL_law_1369 (by decide) ?_
  exact k_sub kE (And.intro rfl (And.intro rfl (And.intro rfl (And.intro rfl (And.intro rfl trivial)))))
