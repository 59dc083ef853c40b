/-! THE LAW'S BODY: one round of the script, an op at a time -/
def LI (h : AH) (b0 : Nat) (z hi tx : Int → Int) (st ln : Int) (og : Int → Int) : Prop :=
  XA h b0 z hi tx st ln ∧ (∃ (has hro : Int → Int) (th re du hsh : Int), MA h (b0 + 127) z hi tx has hro st ln th re du hsh) ∧ h (b0 + 133) = some (eA 2 1 og)
abbrev LH (b base : Nat) (j : Int) : List (Option AV) := [some (aR b), some (aR base), some (aR (base + 127)), some (aR (base + 133)), some (aI j), none, none, none, none]
def LG (D : va_G) (tc : Nat → ClassId) (base b : Nat) (p : Program) (l : Launch) (e : Env) (s : State) (m : MethodId) (args : Array Value) (below : List Frame) (meth : Method) (c : Code) (cells slots : Nat) (Q : State → Prop) (j : Int) : Prop :=
  ∀ (h : AH) (z hi tx : Int → Int) (st ln : Int) (og : Int → Int), LI h base z hi tx st ln og → Wk D tc base 9 p l e room_1 s m args below meth c cells slots Q 1386 (LH b base j) [] h
theorem XA.fx {h : AH} {rc : Nat} {z hi tx : Int → Int} {st ln : Int} (hX : XA h rc z hi tx st ln) : (∃ fs : List AV, h rc = some (eO 7 fs)) ∧ zOk z ∧ z 13 ≤ 20000 ∧ (0 ≤ st ∧ st ≤ 6) ∧ (0 ≤ ln ∧ ln ≤ 60) ∧ (∀ jj : Int, 0 ≤ jj → jj < ln → 33 ≤ tx jj ∧ tx jj ≤ 126) := by
  obtain ⟨zt, g, x0, hS, hT, hH, ⟨sg, t0, t1, tl, ts, -⟩, x5, hok, h13, hst⟩ := hX
  exact ⟨⟨_, x0⟩, hok, h13, hst, tl, fun jj j0 j1 => (ts jj j0 j1).2⟩
section WKL
variable {D : va_G} {tc : Nat → ClassId} {base nL : Nat} {own : String} {cc : ByteArray} {p : Program} {l : Launch} {e : Env} {R : Room} {s : State} {m : MethodId} {args : Array Value} {below : List Frame} {meth : Method} {c : Code} {cells slots : Nat} {Q : State → Prop} {pc : Nat} {L : List (Option AV)} {st : List AV} {h : AH}
theorem k_icmp_same (C : Cx D tc base own cc nL p s m args meth c) {x off : Int} {tgt : Nat} (hd : decode cc pc = .ok (.if_icmp .eq off, 3)) (ht : (pc : Int) + off = (tgt : Int)) (kt : Wk D tc base nL p l e R s m args below meth c cells slots Q tgt L st h) : Wk D tc base nL p l e R s m args below meth c cells slots Q pc L (aI x :: aI x :: st) h :=
  fun H locs ls hR hS hL => lv_icmp_eq C.1 C.2.1 hd ht (fun _ => kt H locs ls hR hS hL) (fun q => absurd rfl q)
end WKL
set_option maxRecDepth 20000 in
theorem ct_X8_thrown (l : Launch) (D : va_G) (tc : Nat → ClassId) (base : Nat) (oo : Nat) (zrr hhi htx has hro : Int → Int) (st ln th re du hsh : Int) (hpp : AH) (hM : MA hpp oo zrr hhi htx has hro st ln th re du hsh) : CT l D tc base yX8_thrown cX8_thrown 1 (some .int) 0 [aR oo] hpp (fun r h' => r = some (aI th) ∧ hpp = h') := by
  refine CT.of [some (aR oo)] (by decide +kernel) rfl (Nat.le_of_ble_eq_true rfl) ?_
  intro p e s m args below meth c C hr hnm
  refine k_aload_n C dX8_thrown_0 rfl ?_
  refine k_get C (k := 5) inX8 (ci := 8) rfl (by decide) fl_X8_25 dX8_thrown_1 hM.1 rfl ?_
  exact k_iret C hr dX8_thrown_4 ⟨rfl, rfl⟩
set_option maxRecDepth 20000 in
set_option maxHeartbeats 1000000 in
theorem tl_wind {D : va_G} {tc : Nat → ClassId} {base : Nat} {p : Program} {l : Launch} {e : Env} {s : State} {m : MethodId} {args : Array Value} {below : List Frame} {meth : Method} {c : Code} {cells slots : Nat} {Q : State → Prop} (C : Cx D tc base RL cL_law 9 p s m args meth c) {b : Nat} {j : Int} (hcc : cells ≤ room_1.cells ∧ slots ≤ room_1.slots) (h : AH) (z hi tx : Int → Int) (st ln : Int) (og : Int → Int) (hX : XA h base z hi tx st ln) (has hro : Int → Int) (th re du hsh : Int) (hMod : MA h (base + 127) z hi tx has hro st ln th re du hsh) (hO : h (base + 133) = some (eA 2 1 og)) (v : Int) (hth : r32 th) (hv : th = 0 → og 0 = sx v) (k : LG D tc base b p l e s m args below meth c cells slots Q j) : Wk D tc base 9 p l e room_1 s m args below meth c cells slots Q 197 [some (aR b), some (aR base), some (aR (base + 127)), some (aR (base + 133)), some (aI j), some (aI th), some (aI v), none, none] [] h := by
  refine k_aload_n C dL_law_197 rfl ?_
  refine k_callV C (ci := 8) (as := []) (rest := []) (n := 0) (ct_X8_thrown l D tc base (base + 127) z hi tx has hro st ln th re du hsh h hMod) ml_L_83 im_X8_thrown se_X8_thrown ini_X8 co_X8_thrown ⟨rfl, by decide, by decide, by decide +kernel⟩ rfl rfl hMod.1 ⟨by decide, by decide⟩ rfl (Nat.le_of_ble_eq_true rfl) hcc dL_law_198 ?_
  rintro r h2 ⟨rfl, rfl⟩
  refine k_iload C dL_law_201 rfl ?_
  refine k_icmp_same (tgt := 208) C dL_law_203 (by decide) ?_
  refine k_iload C dL_law_208 rfl ?_
  have kE : Wk D tc base 9 p l e room_1 s m args below meth c cells slots Q 225 [some (aR b), some (aR base), some (aR (base + 127)), some (aR (base + 133)), some (aI j), some (aI th), some (aI v), none, none] [] h := by
    refine k_goto (tgt := 1386) C dL_law_225 (by decide) ?_
    have q1 := k h z hi tx st ln og ⟨hX, ⟨_, _, _, _, _, _, hMod⟩, hO⟩
    exact k_sub q1 (And.intro rfl (And.intro rfl (And.intro rfl (And.intro rfl (And.intro rfl trivial)))))
  refine k_if_ne (tgt := 225) C dL_law_210 (by decide) hth (fun _ => kE) (fun c0 => ?_)
  refine k_aload_n C dL_law_213 rfl ?_
  refine k_iconst C dL_law_214 ?_
  refine k_laload C dL_law_215 hO (by omega) (by omega) (by omega) ?_
  refine k_iload C dL_law_216 rfl ?_
  refine k_i2l C dL_law_218 ?_
  refine k_lcmpNe C dL_law_219 (fun w hw he => ?_)
  exact k_if_eq (tgt := 225) C dL_law_220 (by decide) hw (fun _ => kE) (fun cw => absurd (he.mpr (by rw [hv c0])) cw)
set_option maxRecDepth 20000 in
set_option maxHeartbeats 2000000 in
theorem op_wind {D : va_G} {tc : Nat → ClassId} {base : Nat} {p : Program} {l : Launch} {e : Env} {s : State} {m : MethodId} {args : Array Value} {below : List Frame} {meth : Method} {c : Code} {cells slots : Nat} {Q : State → Prop} (C : Cx D tc base RL cL_law 9 p s m args meth c) (hE : PE base s) {b LL : Nat} {xs : Nat → Int32} (hSc : Scr base b LL xs s) (hl : l.stackTraces = false) {j : Int} (hj : 0 ≤ j ∧ j + 4 ≤ LL) (hcc1 : cells + 1 ≤ room_1.cells ∧ slots + 6 ≤ room_1.slots) (h : AH) (z hi tx : Int → Int) (st ln : Int) (og : Int → Int) (hI : LI h base z hi tx st ln og) (k : LG D tc base b p l e s m args below meth c (cells + 1) (slots + 6) Q j) : Wk D tc base 9 p l e room_1 s m args below meth c cells slots Q 160 [some (aR b), some (aR base), some (aR (base + 127)), some (aR (base + 133)), some (aI j), none, none, none, none] [] h := by
  have hcc := hcc1
  obtain ⟨hX, ⟨has, hro, th, re, du, hsh, hMod0⟩, hO⟩ := hI
  obtain ⟨⟨fs, hfx⟩, hok, h13, hst, hln, htr⟩ := hX.fx
  have hj0 := hj.1
  have hj1 := hj.2
  have hr1 := sX_r xs (j + 1)
  have hr2 := sX_r xs (j + 2)
  by_cases c1 : 0 ≤ (sX xs (j + 1)) ∧ (sX xs (j + 1)) ≤ 2
  · by_cases c2 : 1 ≤ (sX xs (j + 2)) ∧ (sX xs (j + 2)) ≤ 200
    ·
      have hC := ct_X7_wind l D tc base base z hi tx st ln h hX (sX xs (j + 1)) (sX xs (j + 2)) c1 c2
      have hW := wn_wind l D tc base base (base + 133) og (sX xs (j + 1)) (sX xs (j + 2)) h _ 4 (by omega) hC fs hfx (fun r h' hp => ⟨_, hp.1, (hp.2.2 _ (by omega)).trans hO⟩)
      refine k_aload_n C dL_law_160 rfl ?_
      refine k_aload_n C dL_law_161 rfl ?_
      refine k_iload C dL_law_162 rfl ?_
      refine k_iconst C dL_law_164 ?_
      refine k_iadd C dL_law_165 ?_
      refine k_sld C hSc (by omega) (by omega) dL_law_166 ?_
      refine k_aload_n C dL_law_167 rfl ?_
      refine k_iload C dL_law_168 rfl ?_
      refine k_iconst C dL_law_170 ?_
      refine k_iadd C dL_law_171 ?_
      refine k_sld C hSc (by omega) (by omega) dL_law_172 ?_
      refine k_aload_n C dL_law_173 rfl ?_
      refine k_callW C hE (n := 4) (as := [aR base, aI (sX xs (j + 1)), aI (sX xs (j + 2)), aR (base + 133)]) (rest := []) hW ml_L_77 sm_L_wind ini_L co_L_wind ⟨by decide, by decide, by decide +kernel⟩ rfl ⟨by decide, by decide⟩ rfl (Nat.le_of_ble_eq_true rfl) hcc1 dL_law_174 ?_
      rintro r h2 ⟨rfl, v, h1, ⟨hv, hX1, hF1⟩, rfl⟩
      have hve := Sum.inl.inj (Option.some.inj hv)
      have hX2 := hX1.fr (h' := hs h1 (base + 133) (eA 2 1 (iu og 0 (sx v)))) (fun a a0 a1 => hs_ne (by omega) rfl)
      have hMod := hMod0.fr (h' := hs h1 (base + 133) (eA 2 1 (iu og 0 (sx v)))) (fun a a0 a1 => (hs_ne (by omega) rfl).trans (hF1 a (by omega)))
      have hO2 : hs h1 (base + 133) (eA 2 1 (iu og 0 (sx v))) (base + 133) = some (eA 2 1 (iu og 0 (sx v))) := hs_eq _ _ _
      refine k_istore C dL_law_177 (by decide) rfl ?_
      refine k_aload_n C dL_law_179 rfl ?_
      refine k_aload_n C dL_law_180 rfl ?_
      refine k_iload C dL_law_181 rfl ?_
      refine k_iconst C dL_law_183 ?_
      refine k_iadd C dL_law_184 ?_
      refine k_sld C hSc (by omega) (by omega) dL_law_185 ?_
      refine k_aload_n C dL_law_186 rfl ?_
      refine k_iload C dL_law_187 rfl ?_
      refine k_iconst C dL_law_189 ?_
      refine k_iadd C dL_law_190 ?_
      refine k_sld C hSc (by omega) (by omega) dL_law_191 ?_
      have hMM := CT.mono (post' := fun r h' => r = some (aI (zMore z (sX xs (j + 1)) (sX xs (j + 2)))) ∧ MA h' (base + 127) (zWind z (sX xs (j + 1)) (sX xs (j + 2))) (sHi z hi st) tx has hro (sSt st) ln 0 re du hsh ∧ Fr (hs h1 (base + 133) (eA 2 1 (iu og 0 (sx v)))) h' (base + 127) 6) (ct_X8_wind l D tc base (base + 127) z hi tx has hro st ln th re du hsh (hs h1 (base + 133) (eA 2 1 (iu og 0 (sx v)))) hMod (sX xs (j + 1)) (sX xs (j + 2)) hr1 hr2 hok.1 hst) (fun r h' hd => by rcases hd with ⟨cd, q⟩ | ⟨cd, q⟩ | ⟨cd, q⟩ <;> first | (exfalso; omega) | exact q)
      refine k_callV C (ci := 8) (as := [aI (sX xs (j + 1)), aI (sX xs (j + 2))]) (rest := []) (n := 2) hMM ml_L_82 im_X8_wind se_X8_wind ini_X8 co_X8_wind ⟨rfl, by decide, by decide, by decide +kernel⟩ rfl rfl hMod.1 ⟨by decide, by decide⟩ rfl (Nat.le_of_ble_eq_true rfl) hcc dL_law_192 ?_
      rintro r h3 ⟨rfl, hM3, hF3⟩
      refine k_istore C dL_law_195 (by decide) rfl ?_
      exact tl_wind C hcc h3 _ _ _ _ _ _ (hX2.fr (fun a a0 a1 => hF3 a (by omega))) _ _ _ _ _ _ hM3 ((hF3 (base + 133) (by omega)).trans hO2) _ ⟨by omega, by omega⟩ (fun _ => by rw [iu_eq, hve]) k
    ·
      have hC := tx_wind2 l D tc base hl base (sX xs (j + 1)) (sX xs (j + 2)) h hr2 c1 c2
      have hW := wt_wind_2 l D tc base base (base + 133) (sX xs (j + 1)) (sX xs (j + 2)) h _ hC fs hfx
      refine k_aload_n C dL_law_160 rfl ?_
      refine k_aload_n C dL_law_161 rfl ?_
      refine k_iload C dL_law_162 rfl ?_
      refine k_iconst C dL_law_164 ?_
      refine k_iadd C dL_law_165 ?_
      refine k_sld C hSc (by omega) (by omega) dL_law_166 ?_
      refine k_aload_n C dL_law_167 rfl ?_
      refine k_iload C dL_law_168 rfl ?_
      refine k_iconst C dL_law_170 ?_
      refine k_iadd C dL_law_171 ?_
      refine k_sld C hSc (by omega) (by omega) dL_law_172 ?_
      refine k_aload_n C dL_law_173 rfl ?_
      refine k_callW C hE (n := 4) (as := [aR base, aI (sX xs (j + 1)), aI (sX xs (j + 2)), aR (base + 133)]) (rest := []) hW ml_L_77 sm_L_wind ini_L co_L_wind ⟨by decide, by decide, by decide +kernel⟩ rfl ⟨by decide, by decide⟩ rfl (Nat.le_of_ble_eq_true rfl) hcc1 dL_law_174 ?_
      rintro r h2 ⟨rfl, rfl⟩
      have hMod := hMod0
      have hX2 := hX
      have hO2 := hO
      refine k_istore C dL_law_177 (by decide) rfl ?_
      refine k_aload_n C dL_law_179 rfl ?_
      refine k_aload_n C dL_law_180 rfl ?_
      refine k_iload C dL_law_181 rfl ?_
      refine k_iconst C dL_law_183 ?_
      refine k_iadd C dL_law_184 ?_
      refine k_sld C hSc (by omega) (by omega) dL_law_185 ?_
      refine k_aload_n C dL_law_186 rfl ?_
      refine k_iload C dL_law_187 rfl ?_
      refine k_iconst C dL_law_189 ?_
      refine k_iadd C dL_law_190 ?_
      refine k_sld C hSc (by omega) (by omega) dL_law_191 ?_
      have hMM := CT.mono (post' := fun r h' => r = some (aI 0) ∧ MA h' (base + 127) z hi tx has hro st ln 2 re du hsh ∧ Fr h h' (base + 127) 6) (ct_X8_wind l D tc base (base + 127) z hi tx has hro st ln th re du hsh h hMod (sX xs (j + 1)) (sX xs (j + 2)) hr1 hr2 hok.1 hst) (fun r h' hd => by rcases hd with ⟨cd, q⟩ | ⟨cd, q⟩ | ⟨cd, q⟩ <;> first | (exfalso; omega) | exact q)
      refine k_callV C (ci := 8) (as := [aI (sX xs (j + 1)), aI (sX xs (j + 2))]) (rest := []) (n := 2) hMM ml_L_82 im_X8_wind se_X8_wind ini_X8 co_X8_wind ⟨rfl, by decide, by decide, by decide +kernel⟩ rfl rfl hMod.1 ⟨by decide, by decide⟩ rfl (Nat.le_of_ble_eq_true rfl) hcc dL_law_192 ?_
      rintro r h3 ⟨rfl, hM3, hF3⟩
      refine k_istore C dL_law_195 (by decide) rfl ?_
      exact tl_wind C hcc h3 _ _ _ _ _ _ (hX2.fr (fun a a0 a1 => hF3 a (by omega))) _ _ _ _ _ _ hM3 ((hF3 (base + 133) (by omega)).trans hO2) _ ⟨by omega, by omega⟩ (fun q => by omega) k
  ·
    have hC := tx_wind1 l D tc base hl base (sX xs (j + 1)) (sX xs (j + 2)) h hr1 c1
    have hW := wt_wind_1 l D tc base base (base + 133) (sX xs (j + 1)) (sX xs (j + 2)) h _ hC fs hfx
    refine k_aload_n C dL_law_160 rfl ?_
    refine k_aload_n C dL_law_161 rfl ?_
    refine k_iload C dL_law_162 rfl ?_
    refine k_iconst C dL_law_164 ?_
    refine k_iadd C dL_law_165 ?_
    refine k_sld C hSc (by omega) (by omega) dL_law_166 ?_
    refine k_aload_n C dL_law_167 rfl ?_
    refine k_iload C dL_law_168 rfl ?_
    refine k_iconst C dL_law_170 ?_
    refine k_iadd C dL_law_171 ?_
    refine k_sld C hSc (by omega) (by omega) dL_law_172 ?_
    refine k_aload_n C dL_law_173 rfl ?_
    refine k_callW C hE (n := 4) (as := [aR base, aI (sX xs (j + 1)), aI (sX xs (j + 2)), aR (base + 133)]) (rest := []) hW ml_L_77 sm_L_wind ini_L co_L_wind ⟨by decide, by decide, by decide +kernel⟩ rfl ⟨by decide, by decide⟩ rfl (Nat.le_of_ble_eq_true rfl) hcc1 dL_law_174 ?_
    rintro r h2 ⟨rfl, rfl⟩
    have hMod := hMod0
    have hX2 := hX
    have hO2 := hO
    refine k_istore C dL_law_177 (by decide) rfl ?_
    refine k_aload_n C dL_law_179 rfl ?_
    refine k_aload_n C dL_law_180 rfl ?_
    refine k_iload C dL_law_181 rfl ?_
    refine k_iconst C dL_law_183 ?_
    refine k_iadd C dL_law_184 ?_
    refine k_sld C hSc (by omega) (by omega) dL_law_185 ?_
    refine k_aload_n C dL_law_186 rfl ?_
    refine k_iload C dL_law_187 rfl ?_
    refine k_iconst C dL_law_189 ?_
    refine k_iadd C dL_law_190 ?_
    refine k_sld C hSc (by omega) (by omega) dL_law_191 ?_
    have hMM := CT.mono (post' := fun r h' => r = some (aI 0) ∧ MA h' (base + 127) z hi tx has hro st ln 1 re du hsh ∧ Fr h h' (base + 127) 6) (ct_X8_wind l D tc base (base + 127) z hi tx has hro st ln th re du hsh h hMod (sX xs (j + 1)) (sX xs (j + 2)) hr1 hr2 hok.1 hst) (fun r h' hd => by rcases hd with ⟨cd, q⟩ | ⟨cd, q⟩ | ⟨cd, q⟩ <;> first | (exfalso; omega) | exact q)
    refine k_callV C (ci := 8) (as := [aI (sX xs (j + 1)), aI (sX xs (j + 2))]) (rest := []) (n := 2) hMM ml_L_82 im_X8_wind se_X8_wind ini_X8 co_X8_wind ⟨rfl, by decide, by decide, by decide +kernel⟩ rfl rfl hMod.1 ⟨by decide, by decide⟩ rfl (Nat.le_of_ble_eq_true rfl) hcc dL_law_192 ?_
    rintro r h3 ⟨rfl, hM3, hF3⟩
    refine k_istore C dL_law_195 (by decide) rfl ?_
    exact tl_wind C hcc h3 _ _ _ _ _ _ (hX2.fr (fun a a0 a1 => hF3 a (by omega))) _ _ _ _ _ _ hM3 ((hF3 (base + 133) (by omega)).trans hO2) _ ⟨by omega, by omega⟩ (fun q => by omega) k
set_option maxRecDepth 20000 in
set_option maxHeartbeats 1000000 in
theorem tl_set {D : va_G} {tc : Nat → ClassId} {base : Nat} {p : Program} {l : Launch} {e : Env} {s : State} {m : MethodId} {args : Array Value} {below : List Frame} {meth : Method} {c : Code} {cells slots : Nat} {Q : State → Prop} (C : Cx D tc base RL cL_law 9 p s m args meth c) {b : Nat} {j : Int} (hcc : cells ≤ room_1.cells ∧ slots ≤ room_1.slots) (h : AH) (z hi tx : Int → Int) (st ln : Int) (og : Int → Int) (hX : XA h base z hi tx st ln) (has hro : Int → Int) (th re du hsh : Int) (hMod : MA h (base + 127) z hi tx has hro st ln th re du hsh) (hO : h (base + 133) = some (eA 2 1 og)) (v : Int) (hth : r32 th) (hv : th = 0 → og 0 = sx v) (k : LG D tc base b p l e s m args below meth c cells slots Q j) : Wk D tc base 9 p l e room_1 s m args below meth c cells slots Q 265 [some (aR b), some (aR base), some (aR (base + 127)), some (aR (base + 133)), some (aI j), some (aI th), some (aI v), none, none] [] h := by
  refine k_aload_n C dL_law_265 rfl ?_
  refine k_callV C (ci := 8) (as := []) (rest := []) (n := 0) (ct_X8_thrown l D tc base (base + 127) z hi tx has hro st ln th re du hsh h hMod) ml_L_83 im_X8_thrown se_X8_thrown ini_X8 co_X8_thrown ⟨rfl, by decide, by decide, by decide +kernel⟩ rfl rfl hMod.1 ⟨by decide, by decide⟩ rfl (Nat.le_of_ble_eq_true rfl) hcc dL_law_266 ?_
  rintro r h2 ⟨rfl, rfl⟩
  refine k_iload C dL_law_269 rfl ?_
  refine k_icmp_same (tgt := 276) C dL_law_271 (by decide) ?_
  refine k_iload C dL_law_276 rfl ?_
  have kE : Wk D tc base 9 p l e room_1 s m args below meth c cells slots Q 293 [some (aR b), some (aR base), some (aR (base + 127)), some (aR (base + 133)), some (aI j), some (aI th), some (aI v), none, none] [] h := by
    refine k_goto (tgt := 1386) C dL_law_293 (by decide) ?_
    have q1 := k h z hi tx st ln og ⟨hX, ⟨_, _, _, _, _, _, hMod⟩, hO⟩
    exact k_sub q1 (And.intro rfl (And.intro rfl (And.intro rfl (And.intro rfl (And.intro rfl trivial)))))
  refine k_if_ne (tgt := 293) C dL_law_278 (by decide) hth (fun _ => kE) (fun c0 => ?_)
  refine k_aload_n C dL_law_281 rfl ?_
  refine k_iconst C dL_law_282 ?_
  refine k_laload C dL_law_283 hO (by omega) (by omega) (by omega) ?_
  refine k_iload C dL_law_284 rfl ?_
  refine k_i2l C dL_law_286 ?_
  refine k_lcmpNe C dL_law_287 (fun w hw he => ?_)
  exact k_if_eq (tgt := 293) C dL_law_288 (by decide) hw (fun _ => kE) (fun cw => absurd (he.mpr (by rw [hv c0])) cw)
set_option maxRecDepth 20000 in
set_option maxHeartbeats 2000000 in
theorem op_set {D : va_G} {tc : Nat → ClassId} {base : Nat} {p : Program} {l : Launch} {e : Env} {s : State} {m : MethodId} {args : Array Value} {below : List Frame} {meth : Method} {c : Code} {cells slots : Nat} {Q : State → Prop} (C : Cx D tc base RL cL_law 9 p s m args meth c) (hE : PE base s) {b LL : Nat} {xs : Nat → Int32} (hSc : Scr base b LL xs s) (hl : l.stackTraces = false) {j : Int} (hj : 0 ≤ j ∧ j + 4 ≤ LL) (hcc1 : cells + 1 ≤ room_1.cells ∧ slots + 6 ≤ room_1.slots) (h : AH) (z hi tx : Int → Int) (st ln : Int) (og : Int → Int) (hI : LI h base z hi tx st ln og) (k : LG D tc base b p l e s m args below meth c (cells + 1) (slots + 6) Q j) : Wk D tc base 9 p l e room_1 s m args below meth c cells slots Q 228 [some (aR b), some (aR base), some (aR (base + 127)), some (aR (base + 133)), some (aI j), none, none, none, none] [] h := by
  have hcc := hcc1
  obtain ⟨hX, ⟨has, hro, th, re, du, hsh, hMod0⟩, hO⟩ := hI
  obtain ⟨⟨fs, hfx⟩, hok, h13, hst, hln, htr⟩ := hX.fx
  have hj0 := hj.1
  have hj1 := hj.2
  have hr1 := sX_r xs (j + 1)
  have hr2 := sX_r xs (j + 2)
  by_cases c1 : 0 ≤ (sX xs (j + 1)) ∧ (sX xs (j + 1)) ≤ 5
  · by_cases c2 : zVal (sX xs (j + 1)) (sX xs (j + 2))
    ·
      have hC := ct_X7_set l D tc base base z hi tx st ln h hX (sX xs (j + 1)) (sX xs (j + 2)) c1 c2
      have hW := wn_set l D tc base base (base + 133) og (sX xs (j + 1)) (sX xs (j + 2)) h _ 4 (by omega) hC fs hfx (fun r h' hp => ⟨_, hp.1, (hp.2.2 _ (by omega)).trans hO⟩)
      refine k_aload_n C dL_law_228 rfl ?_
      refine k_aload_n C dL_law_229 rfl ?_
      refine k_iload C dL_law_230 rfl ?_
      refine k_iconst C dL_law_232 ?_
      refine k_iadd C dL_law_233 ?_
      refine k_sld C hSc (by omega) (by omega) dL_law_234 ?_
      refine k_aload_n C dL_law_235 rfl ?_
      refine k_iload C dL_law_236 rfl ?_
      refine k_iconst C dL_law_238 ?_
      refine k_iadd C dL_law_239 ?_
      refine k_sld C hSc (by omega) (by omega) dL_law_240 ?_
      refine k_aload_n C dL_law_241 rfl ?_
      refine k_callW C hE (n := 4) (as := [aR base, aI (sX xs (j + 1)), aI (sX xs (j + 2)), aR (base + 133)]) (rest := []) hW ml_L_86 sm_L_set ini_L co_L_set ⟨by decide, by decide, by decide +kernel⟩ rfl ⟨by decide, by decide⟩ rfl (Nat.le_of_ble_eq_true rfl) hcc1 dL_law_242 ?_
      rintro r h2 ⟨rfl, v, h1, ⟨hv, hX1, hF1⟩, rfl⟩
      have hve := Sum.inl.inj (Option.some.inj hv)
      have hX2 := hX1.fr (h' := hs h1 (base + 133) (eA 2 1 (iu og 0 (sx v)))) (fun a a0 a1 => hs_ne (by omega) rfl)
      have hMod := hMod0.fr (h' := hs h1 (base + 133) (eA 2 1 (iu og 0 (sx v)))) (fun a a0 a1 => (hs_ne (by omega) rfl).trans (hF1 a (by omega)))
      have hO2 : hs h1 (base + 133) (eA 2 1 (iu og 0 (sx v))) (base + 133) = some (eA 2 1 (iu og 0 (sx v))) := hs_eq _ _ _
      refine k_istore C dL_law_245 (by decide) rfl ?_
      refine k_aload_n C dL_law_247 rfl ?_
      refine k_aload_n C dL_law_248 rfl ?_
      refine k_iload C dL_law_249 rfl ?_
      refine k_iconst C dL_law_251 ?_
      refine k_iadd C dL_law_252 ?_
      refine k_sld C hSc (by omega) (by omega) dL_law_253 ?_
      refine k_aload_n C dL_law_254 rfl ?_
      refine k_iload C dL_law_255 rfl ?_
      refine k_iconst C dL_law_257 ?_
      refine k_iadd C dL_law_258 ?_
      refine k_sld C hSc (by omega) (by omega) dL_law_259 ?_
      have hMM := CT.mono (post' := fun r h' => r = some (aI (z (61 + (sX xs (j + 1))))) ∧ MA h' (base + 127) (iu (iu z (61 + (sX xs (j + 1))) (sX xs (j + 2))) 9 (mnI (z 9) (iu z (61 + (sX xs (j + 1))) (sX xs (j + 2)) 61))) (sHi z hi st) tx has hro (sSt st) ln 0 re du hsh ∧ Fr (hs h1 (base + 133) (eA 2 1 (iu og 0 (sx v)))) h' (base + 127) 6) (ct_X8_set l D tc base (base + 127) z hi tx has hro st ln th re du hsh (hs h1 (base + 133) (eA 2 1 (iu og 0 (sx v)))) hMod (sX xs (j + 1)) (sX xs (j + 2)) hr1 hr2 hok.1 hst) (fun r h' hd => by rcases hd with ⟨cd, q⟩ | ⟨cd, q⟩ | ⟨cd, q⟩ <;> first | exact absurd c2 cd.2 | exact absurd cd.2 c2 | (exfalso; omega) | exact q)
      refine k_callV C (ci := 8) (as := [aI (sX xs (j + 1)), aI (sX xs (j + 2))]) (rest := []) (n := 2) hMM ml_L_88 im_X8_set se_X8_set ini_X8 co_X8_set ⟨rfl, by decide, by decide, by decide +kernel⟩ rfl rfl hMod.1 ⟨by decide, by decide⟩ rfl (Nat.le_of_ble_eq_true rfl) hcc dL_law_260 ?_
      rintro r h3 ⟨rfl, hM3, hF3⟩
      refine k_istore C dL_law_263 (by decide) rfl ?_
      exact tl_set C hcc h3 _ _ _ _ _ _ (hX2.fr (fun a a0 a1 => hF3 a (by omega))) _ _ _ _ _ _ hM3 ((hF3 (base + 133) (by omega)).trans hO2) _ ⟨by omega, by omega⟩ (fun _ => by rw [iu_eq, hve]) k
    ·
      have hC := tx_set2 l D tc base hl base (sX xs (j + 1)) (sX xs (j + 2)) h hr2 c1 c2
      have hW := wt_set_2 l D tc base base (base + 133) (sX xs (j + 1)) (sX xs (j + 2)) h _ hC fs hfx
      refine k_aload_n C dL_law_228 rfl ?_
      refine k_aload_n C dL_law_229 rfl ?_
      refine k_iload C dL_law_230 rfl ?_
      refine k_iconst C dL_law_232 ?_
      refine k_iadd C dL_law_233 ?_
      refine k_sld C hSc (by omega) (by omega) dL_law_234 ?_
      refine k_aload_n C dL_law_235 rfl ?_
      refine k_iload C dL_law_236 rfl ?_
      refine k_iconst C dL_law_238 ?_
      refine k_iadd C dL_law_239 ?_
      refine k_sld C hSc (by omega) (by omega) dL_law_240 ?_
      refine k_aload_n C dL_law_241 rfl ?_
      refine k_callW C hE (n := 4) (as := [aR base, aI (sX xs (j + 1)), aI (sX xs (j + 2)), aR (base + 133)]) (rest := []) hW ml_L_86 sm_L_set ini_L co_L_set ⟨by decide, by decide, by decide +kernel⟩ rfl ⟨by decide, by decide⟩ rfl (Nat.le_of_ble_eq_true rfl) hcc1 dL_law_242 ?_
      rintro r h2 ⟨rfl, rfl⟩
      have hMod := hMod0
      have hX2 := hX
      have hO2 := hO
      refine k_istore C dL_law_245 (by decide) rfl ?_
      refine k_aload_n C dL_law_247 rfl ?_
      refine k_aload_n C dL_law_248 rfl ?_
      refine k_iload C dL_law_249 rfl ?_
      refine k_iconst C dL_law_251 ?_
      refine k_iadd C dL_law_252 ?_
      refine k_sld C hSc (by omega) (by omega) dL_law_253 ?_
      refine k_aload_n C dL_law_254 rfl ?_
      refine k_iload C dL_law_255 rfl ?_
      refine k_iconst C dL_law_257 ?_
      refine k_iadd C dL_law_258 ?_
      refine k_sld C hSc (by omega) (by omega) dL_law_259 ?_
      have hMM := CT.mono (post' := fun r h' => r = some (aI 0) ∧ MA h' (base + 127) z hi tx has hro st ln 2 re du hsh ∧ Fr h h' (base + 127) 6) (ct_X8_set l D tc base (base + 127) z hi tx has hro st ln th re du hsh h hMod (sX xs (j + 1)) (sX xs (j + 2)) hr1 hr2 hok.1 hst) (fun r h' hd => by rcases hd with ⟨cd, q⟩ | ⟨cd, q⟩ | ⟨cd, q⟩ <;> first | exact absurd c2 cd.2 | exact absurd cd.2 c2 | (exfalso; omega) | exact q)
      refine k_callV C (ci := 8) (as := [aI (sX xs (j + 1)), aI (sX xs (j + 2))]) (rest := []) (n := 2) hMM ml_L_88 im_X8_set se_X8_set ini_X8 co_X8_set ⟨rfl, by decide, by decide, by decide +kernel⟩ rfl rfl hMod.1 ⟨by decide, by decide⟩ rfl (Nat.le_of_ble_eq_true rfl) hcc dL_law_260 ?_
      rintro r h3 ⟨rfl, hM3, hF3⟩
      refine k_istore C dL_law_263 (by decide) rfl ?_
      exact tl_set C hcc h3 _ _ _ _ _ _ (hX2.fr (fun a a0 a1 => hF3 a (by omega))) _ _ _ _ _ _ hM3 ((hF3 (base + 133) (by omega)).trans hO2) _ ⟨by omega, by omega⟩ (fun q => by omega) k
  ·
    have hC := tx_set1 l D tc base hl base (sX xs (j + 1)) (sX xs (j + 2)) h hr1 c1
    have hW := wt_set_1 l D tc base base (base + 133) (sX xs (j + 1)) (sX xs (j + 2)) h _ hC fs hfx
    refine k_aload_n C dL_law_228 rfl ?_
    refine k_aload_n C dL_law_229 rfl ?_
    refine k_iload C dL_law_230 rfl ?_
    refine k_iconst C dL_law_232 ?_
    refine k_iadd C dL_law_233 ?_
    refine k_sld C hSc (by omega) (by omega) dL_law_234 ?_
    refine k_aload_n C dL_law_235 rfl ?_
    refine k_iload C dL_law_236 rfl ?_
    refine k_iconst C dL_law_238 ?_
    refine k_iadd C dL_law_239 ?_
    refine k_sld C hSc (by omega) (by omega) dL_law_240 ?_
    refine k_aload_n C dL_law_241 rfl ?_
    refine k_callW C hE (n := 4) (as := [aR base, aI (sX xs (j + 1)), aI (sX xs (j + 2)), aR (base + 133)]) (rest := []) hW ml_L_86 sm_L_set ini_L co_L_set ⟨by decide, by decide, by decide +kernel⟩ rfl ⟨by decide, by decide⟩ rfl (Nat.le_of_ble_eq_true rfl) hcc1 dL_law_242 ?_
    rintro r h2 ⟨rfl, rfl⟩
    have hMod := hMod0
    have hX2 := hX
    have hO2 := hO
    refine k_istore C dL_law_245 (by decide) rfl ?_
    refine k_aload_n C dL_law_247 rfl ?_
    refine k_aload_n C dL_law_248 rfl ?_
    refine k_iload C dL_law_249 rfl ?_
    refine k_iconst C dL_law_251 ?_
    refine k_iadd C dL_law_252 ?_
    refine k_sld C hSc (by omega) (by omega) dL_law_253 ?_
    refine k_aload_n C dL_law_254 rfl ?_
    refine k_iload C dL_law_255 rfl ?_
    refine k_iconst C dL_law_257 ?_
    refine k_iadd C dL_law_258 ?_
    refine k_sld C hSc (by omega) (by omega) dL_law_259 ?_
    have hMM := CT.mono (post' := fun r h' => r = some (aI 0) ∧ MA h' (base + 127) z hi tx has hro st ln 1 re du hsh ∧ Fr h h' (base + 127) 6) (ct_X8_set l D tc base (base + 127) z hi tx has hro st ln th re du hsh h hMod (sX xs (j + 1)) (sX xs (j + 2)) hr1 hr2 hok.1 hst) (fun r h' hd => by rcases hd with ⟨cd, q⟩ | ⟨cd, q⟩ | ⟨cd, q⟩ <;> first | (exfalso; omega) | exact q)
    refine k_callV C (ci := 8) (as := [aI (sX xs (j + 1)), aI (sX xs (j + 2))]) (rest := []) (n := 2) hMM ml_L_88 im_X8_set se_X8_set ini_X8 co_X8_set ⟨rfl, by decide, by decide, by decide +kernel⟩ rfl rfl hMod.1 ⟨by decide, by decide⟩ rfl (Nat.le_of_ble_eq_true rfl) hcc dL_law_260 ?_
    rintro r h3 ⟨rfl, hM3, hF3⟩
    refine k_istore C dL_law_263 (by decide) rfl ?_
    exact tl_set C hcc h3 _ _ _ _ _ _ (hX2.fr (fun a a0 a1 => hF3 a (by omega))) _ _ _ _ _ _ hM3 ((hF3 (base + 133) (by omega)).trans hO2) _ ⟨by omega, by omega⟩ (fun q => by omega) k
set_option maxRecDepth 20000 in
set_option maxHeartbeats 1000000 in
theorem tl_setSnow {D : va_G} {tc : Nat → ClassId} {base : Nat} {p : Program} {l : Launch} {e : Env} {s : State} {m : MethodId} {args : Array Value} {below : List Frame} {meth : Method} {c : Code} {cells slots : Nat} {Q : State → Prop} (C : Cx D tc base RL cL_law 9 p s m args meth c) {b : Nat} {j : Int} (hcc : cells ≤ room_1.cells ∧ slots ≤ room_1.slots) (h : AH) (z hi tx : Int → Int) (st ln : Int) (og : Int → Int) (hX : XA h base z hi tx st ln) (has hro : Int → Int) (th re du hsh : Int) (hMod : MA h (base + 127) z hi tx has hro st ln th re du hsh) (hO : h (base + 133) = some (eA 2 1 og)) (v : Int) (hth : r32 th) (hv : th = 0 → og 0 = sx v) (k : LG D tc base b p l e s m args below meth c cells slots Q j) : Wk D tc base 9 p l e room_1 s m args below meth c cells slots Q 321 [some (aR b), some (aR base), some (aR (base + 127)), some (aR (base + 133)), some (aI j), some (aI th), some (aI v), none, none] [] h := by
  refine k_aload_n C dL_law_321 rfl ?_
  refine k_callV C (ci := 8) (as := []) (rest := []) (n := 0) (ct_X8_thrown l D tc base (base + 127) z hi tx has hro st ln th re du hsh h hMod) ml_L_83 im_X8_thrown se_X8_thrown ini_X8 co_X8_thrown ⟨rfl, by decide, by decide, by decide +kernel⟩ rfl rfl hMod.1 ⟨by decide, by decide⟩ rfl (Nat.le_of_ble_eq_true rfl) hcc dL_law_322 ?_
  rintro r h2 ⟨rfl, rfl⟩
  refine k_iload C dL_law_325 rfl ?_
  refine k_icmp_same (tgt := 332) C dL_law_327 (by decide) ?_
  refine k_iload C dL_law_332 rfl ?_
  have kE : Wk D tc base 9 p l e room_1 s m args below meth c cells slots Q 349 [some (aR b), some (aR base), some (aR (base + 127)), some (aR (base + 133)), some (aI j), some (aI th), some (aI v), none, none] [] h := by
    refine k_goto (tgt := 1386) C dL_law_349 (by decide) ?_
    have q1 := k h z hi tx st ln og ⟨hX, ⟨_, _, _, _, _, _, hMod⟩, hO⟩
    exact k_sub q1 (And.intro rfl (And.intro rfl (And.intro rfl (And.intro rfl (And.intro rfl trivial)))))
  refine k_if_ne (tgt := 349) C dL_law_334 (by decide) hth (fun _ => kE) (fun c0 => ?_)
  refine k_aload_n C dL_law_337 rfl ?_
  refine k_iconst C dL_law_338 ?_
  refine k_laload C dL_law_339 hO (by omega) (by omega) (by omega) ?_
  refine k_iload C dL_law_340 rfl ?_
  refine k_i2l C dL_law_342 ?_
  refine k_lcmpNe C dL_law_343 (fun w hw he => ?_)
  exact k_if_eq (tgt := 349) C dL_law_344 (by decide) hw (fun _ => kE) (fun cw => absurd (he.mpr (by rw [hv c0])) cw)
set_option maxRecDepth 20000 in
set_option maxHeartbeats 2000000 in
theorem op_setSnow {D : va_G} {tc : Nat → ClassId} {base : Nat} {p : Program} {l : Launch} {e : Env} {s : State} {m : MethodId} {args : Array Value} {below : List Frame} {meth : Method} {c : Code} {cells slots : Nat} {Q : State → Prop} (C : Cx D tc base RL cL_law 9 p s m args meth c) (hE : PE base s) {b LL : Nat} {xs : Nat → Int32} (hSc : Scr base b LL xs s) (hl : l.stackTraces = false) {j : Int} (hj : 0 ≤ j ∧ j + 4 ≤ LL) (hcc1 : cells + 1 ≤ room_1.cells ∧ slots + 6 ≤ room_1.slots) (h : AH) (z hi tx : Int → Int) (st ln : Int) (og : Int → Int) (hI : LI h base z hi tx st ln og) (k : LG D tc base b p l e s m args below meth c (cells + 1) (slots + 6) Q j) : Wk D tc base 9 p l e room_1 s m args below meth c cells slots Q 296 [some (aR b), some (aR base), some (aR (base + 127)), some (aR (base + 133)), some (aI j), none, none, none, none] [] h := by
  have hcc := hcc1
  obtain ⟨hX, ⟨has, hro, th, re, du, hsh, hMod0⟩, hO⟩ := hI
  obtain ⟨⟨fs, hfx⟩, hok, h13, hst, hln, htr⟩ := hX.fx
  have hj0 := hj.1
  have hj1 := hj.2
  have hr1 := sX_r xs (j + 1)
  by_cases c1 : 0 ≤ (sX xs (j + 1)) ∧ (sX xs (j + 1)) ≤ 20
  ·
    have hC := ct_X7_setSnow l D tc base base z hi tx st ln h hX (sX xs (j + 1)) c1
    have hW := wn_setSnow l D tc base base (base + 133) og (sX xs (j + 1)) h _ 4 (by omega) hC fs hfx (fun r h' hp => ⟨_, hp.1, (hp.2.2 _ (by omega)).trans hO⟩)
    refine k_aload_n C dL_law_296 rfl ?_
    refine k_aload_n C dL_law_297 rfl ?_
    refine k_iload C dL_law_298 rfl ?_
    refine k_iconst C dL_law_300 ?_
    refine k_iadd C dL_law_301 ?_
    refine k_sld C hSc (by omega) (by omega) dL_law_302 ?_
    refine k_aload_n C dL_law_303 rfl ?_
    refine k_callW C hE (n := 3) (as := [aR base, aI (sX xs (j + 1)), aR (base + 133)]) (rest := []) hW ml_L_89 sm_L_setSnow ini_L co_L_setSnow ⟨by decide, by decide, by decide +kernel⟩ rfl ⟨by decide, by decide⟩ rfl (Nat.le_of_ble_eq_true rfl) hcc1 dL_law_304 ?_
    rintro r h2 ⟨rfl, v, h1, ⟨hv, hX1, hF1⟩, rfl⟩
    have hve := Sum.inl.inj (Option.some.inj hv)
    have hX2 := hX1.fr (h' := hs h1 (base + 133) (eA 2 1 (iu og 0 (sx v)))) (fun a a0 a1 => hs_ne (by omega) rfl)
    have hMod := hMod0.fr (h' := hs h1 (base + 133) (eA 2 1 (iu og 0 (sx v)))) (fun a a0 a1 => (hs_ne (by omega) rfl).trans (hF1 a (by omega)))
    have hO2 : hs h1 (base + 133) (eA 2 1 (iu og 0 (sx v))) (base + 133) = some (eA 2 1 (iu og 0 (sx v))) := hs_eq _ _ _
    refine k_istore C dL_law_307 (by decide) rfl ?_
    refine k_aload_n C dL_law_309 rfl ?_
    refine k_aload_n C dL_law_310 rfl ?_
    refine k_iload C dL_law_311 rfl ?_
    refine k_iconst C dL_law_313 ?_
    refine k_iadd C dL_law_314 ?_
    refine k_sld C hSc (by omega) (by omega) dL_law_315 ?_
    have hMM := CT.mono (post' := fun r h' => r = some (aI (z 11)) ∧ MA h' (base + 127) (iu z 11 (sX xs (j + 1))) (sHi z hi st) tx has hro (sSt st) ln 0 re du hsh ∧ Fr (hs h1 (base + 133) (eA 2 1 (iu og 0 (sx v)))) h' (base + 127) 6) (ct_X8_setSnow l D tc base (base + 127) z hi tx has hro st ln th re du hsh (hs h1 (base + 133) (eA 2 1 (iu og 0 (sx v)))) hMod (sX xs (j + 1)) hr1 hok.1 hst) (fun r h' hd => by rcases hd with ⟨cd, q⟩ | ⟨cd, q⟩ <;> first | (exfalso; omega) | exact q)
    refine k_callV C (ci := 8) (as := [aI (sX xs (j + 1))]) (rest := []) (n := 1) hMM ml_L_92 im_X8_setSnow se_X8_setSnow ini_X8 co_X8_setSnow ⟨rfl, by decide, by decide, by decide +kernel⟩ rfl rfl hMod.1 ⟨by decide, by decide⟩ rfl (Nat.le_of_ble_eq_true rfl) hcc dL_law_316 ?_
    rintro r h3 ⟨rfl, hM3, hF3⟩
    refine k_istore C dL_law_319 (by decide) rfl ?_
    exact tl_setSnow C hcc h3 _ _ _ _ _ _ (hX2.fr (fun a a0 a1 => hF3 a (by omega))) _ _ _ _ _ _ hM3 ((hF3 (base + 133) (by omega)).trans hO2) _ ⟨by omega, by omega⟩ (fun _ => by rw [iu_eq, hve]) k
  ·
    have hC := tx_setSnow l D tc base hl base (sX xs (j + 1)) h hr1 c1
    have hW := wt_setSnow_1 l D tc base base (base + 133) (sX xs (j + 1)) h _ hC fs hfx
    refine k_aload_n C dL_law_296 rfl ?_
    refine k_aload_n C dL_law_297 rfl ?_
    refine k_iload C dL_law_298 rfl ?_
    refine k_iconst C dL_law_300 ?_
    refine k_iadd C dL_law_301 ?_
    refine k_sld C hSc (by omega) (by omega) dL_law_302 ?_
    refine k_aload_n C dL_law_303 rfl ?_
    refine k_callW C hE (n := 3) (as := [aR base, aI (sX xs (j + 1)), aR (base + 133)]) (rest := []) hW ml_L_89 sm_L_setSnow ini_L co_L_setSnow ⟨by decide, by decide, by decide +kernel⟩ rfl ⟨by decide, by decide⟩ rfl (Nat.le_of_ble_eq_true rfl) hcc1 dL_law_304 ?_
    rintro r h2 ⟨rfl, rfl⟩
    have hMod := hMod0
    have hX2 := hX
    have hO2 := hO
    refine k_istore C dL_law_307 (by decide) rfl ?_
    refine k_aload_n C dL_law_309 rfl ?_
    refine k_aload_n C dL_law_310 rfl ?_
    refine k_iload C dL_law_311 rfl ?_
    refine k_iconst C dL_law_313 ?_
    refine k_iadd C dL_law_314 ?_
    refine k_sld C hSc (by omega) (by omega) dL_law_315 ?_
    have hMM := CT.mono (post' := fun r h' => r = some (aI 0) ∧ MA h' (base + 127) z hi tx has hro st ln 1 re du hsh ∧ Fr h h' (base + 127) 6) (ct_X8_setSnow l D tc base (base + 127) z hi tx has hro st ln th re du hsh h hMod (sX xs (j + 1)) hr1 hok.1 hst) (fun r h' hd => by rcases hd with ⟨cd, q⟩ | ⟨cd, q⟩ <;> first | (exfalso; omega) | exact q)
    refine k_callV C (ci := 8) (as := [aI (sX xs (j + 1))]) (rest := []) (n := 1) hMM ml_L_92 im_X8_setSnow se_X8_setSnow ini_X8 co_X8_setSnow ⟨rfl, by decide, by decide, by decide +kernel⟩ rfl rfl hMod.1 ⟨by decide, by decide⟩ rfl (Nat.le_of_ble_eq_true rfl) hcc dL_law_316 ?_
    rintro r h3 ⟨rfl, hM3, hF3⟩
    refine k_istore C dL_law_319 (by decide) rfl ?_
    exact tl_setSnow C hcc h3 _ _ _ _ _ _ (hX2.fr (fun a a0 a1 => hF3 a (by omega))) _ _ _ _ _ _ hM3 ((hF3 (base + 133) (by omega)).trans hO2) _ ⟨by omega, by omega⟩ (fun q => by omega) k
set_option maxRecDepth 20000 in
set_option maxHeartbeats 1000000 in
theorem tl_setHands {D : va_G} {tc : Nat → ClassId} {base : Nat} {p : Program} {l : Launch} {e : Env} {s : State} {m : MethodId} {args : Array Value} {below : List Frame} {meth : Method} {c : Code} {cells slots : Nat} {Q : State → Prop} (C : Cx D tc base RL cL_law 9 p s m args meth c) {b : Nat} {j : Int} (hcc : cells ≤ room_1.cells ∧ slots ≤ room_1.slots) (h : AH) (z hi tx : Int → Int) (st ln : Int) (og : Int → Int) (hX : XA h base z hi tx st ln) (has hro : Int → Int) (th re du hsh : Int) (hMod : MA h (base + 127) z hi tx has hro st ln th re du hsh) (hO : h (base + 133) = some (eA 2 1 og)) (v : Int) (hth : r32 th) (hv : th = 0 → og 0 = sx v) (k : LG D tc base b p l e s m args below meth c cells slots Q j) : Wk D tc base 9 p l e room_1 s m args below meth c cells slots Q 377 [some (aR b), some (aR base), some (aR (base + 127)), some (aR (base + 133)), some (aI j), some (aI th), some (aI v), none, none] [] h := by
  refine k_aload_n C dL_law_377 rfl ?_
  refine k_callV C (ci := 8) (as := []) (rest := []) (n := 0) (ct_X8_thrown l D tc base (base + 127) z hi tx has hro st ln th re du hsh h hMod) ml_L_83 im_X8_thrown se_X8_thrown ini_X8 co_X8_thrown ⟨rfl, by decide, by decide, by decide +kernel⟩ rfl rfl hMod.1 ⟨by decide, by decide⟩ rfl (Nat.le_of_ble_eq_true rfl) hcc dL_law_378 ?_
  rintro r h2 ⟨rfl, rfl⟩
  refine k_iload C dL_law_381 rfl ?_
  refine k_icmp_same (tgt := 388) C dL_law_383 (by decide) ?_
  refine k_iload C dL_law_388 rfl ?_
  have kE : Wk D tc base 9 p l e room_1 s m args below meth c cells slots Q 405 [some (aR b), some (aR base), some (aR (base + 127)), some (aR (base + 133)), some (aI j), some (aI th), some (aI v), none, none] [] h := by
    refine k_goto (tgt := 1386) C dL_law_405 (by decide) ?_
    have q1 := k h z hi tx st ln og ⟨hX, ⟨_, _, _, _, _, _, hMod⟩, hO⟩
    exact k_sub q1 (And.intro rfl (And.intro rfl (And.intro rfl (And.intro rfl (And.intro rfl trivial)))))
  refine k_if_ne (tgt := 405) C dL_law_390 (by decide) hth (fun _ => kE) (fun c0 => ?_)
  refine k_aload_n C dL_law_393 rfl ?_
  refine k_iconst C dL_law_394 ?_
  refine k_laload C dL_law_395 hO (by omega) (by omega) (by omega) ?_
  refine k_iload C dL_law_396 rfl ?_
  refine k_i2l C dL_law_398 ?_
  refine k_lcmpNe C dL_law_399 (fun w hw he => ?_)
  exact k_if_eq (tgt := 405) C dL_law_400 (by decide) hw (fun _ => kE) (fun cw => absurd (he.mpr (by rw [hv c0])) cw)
set_option maxRecDepth 20000 in
set_option maxHeartbeats 2000000 in
theorem op_setHands {D : va_G} {tc : Nat → ClassId} {base : Nat} {p : Program} {l : Launch} {e : Env} {s : State} {m : MethodId} {args : Array Value} {below : List Frame} {meth : Method} {c : Code} {cells slots : Nat} {Q : State → Prop} (C : Cx D tc base RL cL_law 9 p s m args meth c) (hE : PE base s) {b LL : Nat} {xs : Nat → Int32} (hSc : Scr base b LL xs s) (hl : l.stackTraces = false) {j : Int} (hj : 0 ≤ j ∧ j + 4 ≤ LL) (hcc1 : cells + 1 ≤ room_1.cells ∧ slots + 6 ≤ room_1.slots) (h : AH) (z hi tx : Int → Int) (st ln : Int) (og : Int → Int) (hI : LI h base z hi tx st ln og) (k : LG D tc base b p l e s m args below meth c (cells + 1) (slots + 6) Q j) : Wk D tc base 9 p l e room_1 s m args below meth c cells slots Q 352 [some (aR b), some (aR base), some (aR (base + 127)), some (aR (base + 133)), some (aI j), none, none, none, none] [] h := by
  have hcc := hcc1
  obtain ⟨hX, ⟨has, hro, th, re, du, hsh, hMod0⟩, hO⟩ := hI
  obtain ⟨⟨fs, hfx⟩, hok, h13, hst, hln, htr⟩ := hX.fx
  have hj0 := hj.1
  have hj1 := hj.2
  have hr1 := sX_r xs (j + 1)
  by_cases c1 : 0 ≤ (sX xs (j + 1)) ∧ (sX xs (j + 1)) ≤ 719
  ·
    have hC := ct_X7_setHands l D tc base base z hi tx st ln h hX (sX xs (j + 1)) c1
    have hW := wn_setHands l D tc base base (base + 133) og (sX xs (j + 1)) h _ 4 (by omega) hC fs hfx (fun r h' hp => ⟨_, hp.1, (hp.2.2 _ (by omega)).trans hO⟩)
    refine k_aload_n C dL_law_352 rfl ?_
    refine k_aload_n C dL_law_353 rfl ?_
    refine k_iload C dL_law_354 rfl ?_
    refine k_iconst C dL_law_356 ?_
    refine k_iadd C dL_law_357 ?_
    refine k_sld C hSc (by omega) (by omega) dL_law_358 ?_
    refine k_aload_n C dL_law_359 rfl ?_
    refine k_callW C hE (n := 3) (as := [aR base, aI (sX xs (j + 1)), aR (base + 133)]) (rest := []) hW ml_L_93 sm_L_setHands ini_L co_L_setHands ⟨by decide, by decide, by decide +kernel⟩ rfl ⟨by decide, by decide⟩ rfl (Nat.le_of_ble_eq_true rfl) hcc1 dL_law_360 ?_
    rintro r h2 ⟨rfl, v, h1, ⟨hv, hX1, hF1⟩, rfl⟩
    have hve := Sum.inl.inj (Option.some.inj hv)
    have hX2 := hX1.fr (h' := hs h1 (base + 133) (eA 2 1 (iu og 0 (sx v)))) (fun a a0 a1 => hs_ne (by omega) rfl)
    have hMod := hMod0.fr (h' := hs h1 (base + 133) (eA 2 1 (iu og 0 (sx v)))) (fun a a0 a1 => (hs_ne (by omega) rfl).trans (hF1 a (by omega)))
    have hO2 : hs h1 (base + 133) (eA 2 1 (iu og 0 (sx v))) (base + 133) = some (eA 2 1 (iu og 0 (sx v))) := hs_eq _ _ _
    refine k_istore C dL_law_363 (by decide) rfl ?_
    refine k_aload_n C dL_law_365 rfl ?_
    refine k_aload_n C dL_law_366 rfl ?_
    refine k_iload C dL_law_367 rfl ?_
    refine k_iconst C dL_law_369 ?_
    refine k_iadd C dL_law_370 ?_
    refine k_sld C hSc (by omega) (by omega) dL_law_371 ?_
    have hMM := CT.mono (post' := fun r h' => r = some (aI (z 10)) ∧ MA h' (base + 127) (iu z 10 (sX xs (j + 1))) (sHi z hi st) tx has hro (sSt st) ln 0 re du hsh ∧ Fr (hs h1 (base + 133) (eA 2 1 (iu og 0 (sx v)))) h' (base + 127) 6) (ct_X8_setHands l D tc base (base + 127) z hi tx has hro st ln th re du hsh (hs h1 (base + 133) (eA 2 1 (iu og 0 (sx v)))) hMod (sX xs (j + 1)) hr1 hok.1 hst) (fun r h' hd => by rcases hd with ⟨cd, q⟩ | ⟨cd, q⟩ <;> first | (exfalso; omega) | exact q)
    refine k_callV C (ci := 8) (as := [aI (sX xs (j + 1))]) (rest := []) (n := 1) hMM ml_L_95 im_X8_setHands se_X8_setHands ini_X8 co_X8_setHands ⟨rfl, by decide, by decide, by decide +kernel⟩ rfl rfl hMod.1 ⟨by decide, by decide⟩ rfl (Nat.le_of_ble_eq_true rfl) hcc dL_law_372 ?_
    rintro r h3 ⟨rfl, hM3, hF3⟩
    refine k_istore C dL_law_375 (by decide) rfl ?_
    exact tl_setHands C hcc h3 _ _ _ _ _ _ (hX2.fr (fun a a0 a1 => hF3 a (by omega))) _ _ _ _ _ _ hM3 ((hF3 (base + 133) (by omega)).trans hO2) _ ⟨by omega, by omega⟩ (fun _ => by rw [iu_eq, hve]) k
  ·
    have hC := tx_setHands l D tc base hl base (sX xs (j + 1)) h hr1 c1
    have hW := wt_setHands_1 l D tc base base (base + 133) (sX xs (j + 1)) h _ hC fs hfx
    refine k_aload_n C dL_law_352 rfl ?_
    refine k_aload_n C dL_law_353 rfl ?_
    refine k_iload C dL_law_354 rfl ?_
    refine k_iconst C dL_law_356 ?_
    refine k_iadd C dL_law_357 ?_
    refine k_sld C hSc (by omega) (by omega) dL_law_358 ?_
    refine k_aload_n C dL_law_359 rfl ?_
    refine k_callW C hE (n := 3) (as := [aR base, aI (sX xs (j + 1)), aR (base + 133)]) (rest := []) hW ml_L_93 sm_L_setHands ini_L co_L_setHands ⟨by decide, by decide, by decide +kernel⟩ rfl ⟨by decide, by decide⟩ rfl (Nat.le_of_ble_eq_true rfl) hcc1 dL_law_360 ?_
    rintro r h2 ⟨rfl, rfl⟩
    have hMod := hMod0
    have hX2 := hX
    have hO2 := hO
    refine k_istore C dL_law_363 (by decide) rfl ?_
    refine k_aload_n C dL_law_365 rfl ?_
    refine k_aload_n C dL_law_366 rfl ?_
    refine k_iload C dL_law_367 rfl ?_
    refine k_iconst C dL_law_369 ?_
    refine k_iadd C dL_law_370 ?_
    refine k_sld C hSc (by omega) (by omega) dL_law_371 ?_
    have hMM := CT.mono (post' := fun r h' => r = some (aI 0) ∧ MA h' (base + 127) z hi tx has hro st ln 1 re du hsh ∧ Fr h h' (base + 127) 6) (ct_X8_setHands l D tc base (base + 127) z hi tx has hro st ln th re du hsh h hMod (sX xs (j + 1)) hr1 hok.1 hst) (fun r h' hd => by rcases hd with ⟨cd, q⟩ | ⟨cd, q⟩ <;> first | (exfalso; omega) | exact q)
    refine k_callV C (ci := 8) (as := [aI (sX xs (j + 1))]) (rest := []) (n := 1) hMM ml_L_95 im_X8_setHands se_X8_setHands ini_X8 co_X8_setHands ⟨rfl, by decide, by decide, by decide +kernel⟩ rfl rfl hMod.1 ⟨by decide, by decide⟩ rfl (Nat.le_of_ble_eq_true rfl) hcc dL_law_372 ?_
    rintro r h3 ⟨rfl, hM3, hF3⟩
    refine k_istore C dL_law_375 (by decide) rfl ?_
    exact tl_setHands C hcc h3 _ _ _ _ _ _ (hX2.fr (fun a a0 a1 => hF3 a (by omega))) _ _ _ _ _ _ hM3 ((hF3 (base + 133) (by omega)).trans hO2) _ ⟨by omega, by omega⟩ (fun q => by omega) k
set_option maxRecDepth 20000 in
set_option maxHeartbeats 1000000 in
theorem tl_hire {D : va_G} {tc : Nat → ClassId} {base : Nat} {p : Program} {l : Launch} {e : Env} {s : State} {m : MethodId} {args : Array Value} {below : List Frame} {meth : Method} {c : Code} {cells slots : Nat} {Q : State → Prop} (C : Cx D tc base RL cL_law 9 p s m args meth c) {b : Nat} {j : Int} (hcc : cells ≤ room_1.cells ∧ slots ≤ room_1.slots) (h : AH) (z hi tx : Int → Int) (st ln : Int) (og : Int → Int) (hX : XA h base z hi tx st ln) (has hro : Int → Int) (th re du hsh : Int) (hMod : MA h (base + 127) z hi tx has hro st ln th re du hsh) (hO : h (base + 133) = some (eA 2 1 og)) (v : Int) (hth : r32 th) (hv : th = 0 → og 0 = sx v) (k : LG D tc base b p l e s m args below meth c cells slots Q j) : Wk D tc base 9 p l e room_1 s m args below meth c cells slots Q 483 [some (aR b), some (aR base), some (aR (base + 127)), some (aR (base + 133)), some (aI j), some (aI th), some (aI v), none, none] [] h := by
  refine k_aload_n C dL_law_483 rfl ?_
  refine k_callV C (ci := 8) (as := []) (rest := []) (n := 0) (ct_X8_thrown l D tc base (base + 127) z hi tx has hro st ln th re du hsh h hMod) ml_L_83 im_X8_thrown se_X8_thrown ini_X8 co_X8_thrown ⟨rfl, by decide, by decide, by decide +kernel⟩ rfl rfl hMod.1 ⟨by decide, by decide⟩ rfl (Nat.le_of_ble_eq_true rfl) hcc dL_law_484 ?_
  rintro r h2 ⟨rfl, rfl⟩
  refine k_iload C dL_law_487 rfl ?_
  refine k_icmp_same (tgt := 494) C dL_law_489 (by decide) ?_
  refine k_iload C dL_law_494 rfl ?_
  have kE : Wk D tc base 9 p l e room_1 s m args below meth c cells slots Q 511 [some (aR b), some (aR base), some (aR (base + 127)), some (aR (base + 133)), some (aI j), some (aI th), some (aI v), none, none] [] h := by
    refine k_goto (tgt := 1386) C dL_law_511 (by decide) ?_
    have q1 := k h z hi tx st ln og ⟨hX, ⟨_, _, _, _, _, _, hMod⟩, hO⟩
    exact k_sub q1 (And.intro rfl (And.intro rfl (And.intro rfl (And.intro rfl (And.intro rfl trivial)))))
  refine k_if_ne (tgt := 511) C dL_law_496 (by decide) hth (fun _ => kE) (fun c0 => ?_)
  refine k_aload_n C dL_law_499 rfl ?_
  refine k_iconst C dL_law_500 ?_
  refine k_laload C dL_law_501 hO (by omega) (by omega) (by omega) ?_
  refine k_iload C dL_law_502 rfl ?_
  refine k_i2l C dL_law_504 ?_
  refine k_lcmpNe C dL_law_505 (fun w hw he => ?_)
  exact k_if_eq (tgt := 511) C dL_law_506 (by decide) hw (fun _ => kE) (fun cw => absurd (he.mpr (by rw [hv c0])) cw)
set_option maxRecDepth 20000 in
set_option maxHeartbeats 2000000 in
theorem op_hire {D : va_G} {tc : Nat → ClassId} {base : Nat} {p : Program} {l : Launch} {e : Env} {s : State} {m : MethodId} {args : Array Value} {below : List Frame} {meth : Method} {c : Code} {cells slots : Nat} {Q : State → Prop} (C : Cx D tc base RL cL_law 9 p s m args meth c) (hE : PE base s) {b LL : Nat} {xs : Nat → Int32} (hSc : Scr base b LL xs s) (hl : l.stackTraces = false) {j : Int} (hj : 0 ≤ j ∧ j + 4 ≤ LL) (hcc1 : cells + 1 ≤ room_1.cells ∧ slots + 6 ≤ room_1.slots) (h : AH) (z hi tx : Int → Int) (st ln : Int) (og : Int → Int) (hI : LI h base z hi tx st ln og) (k : LG D tc base b p l e s m args below meth c (cells + 1) (slots + 6) Q j) : Wk D tc base 9 p l e room_1 s m args below meth c cells slots Q 434 [some (aR b), some (aR base), some (aR (base + 127)), some (aR (base + 133)), some (aI j), none, none, none, none] [] h := by
  have hcc := hcc1
  obtain ⟨hX, ⟨has, hro, th, re, du, hsh, hMod0⟩, hO⟩ := hI
  obtain ⟨⟨fs, hfx⟩, hok, h13, hst, hln, htr⟩ := hX.fx
  have hj0 := hj.1
  have hj1 := hj.2
  have hr1 := sX_r xs (j + 1)
  have hr2 := sX_r xs (j + 2)
  have hr3 := sX_r xs (j + 3)
  by_cases c1 : 0 ≤ (sX xs (j + 1)) ∧ (sX xs (j + 1)) ≤ 2
  · by_cases c2 : 1 ≤ (sX xs (j + 2)) ∧ (sX xs (j + 2)) ≤ 200
    · by_cases c3 : 1 ≤ (sX xs (j + 3)) ∧ (sX xs (j + 3)) ≤ 720
      · by_cases c4 : z 21 < 6
        ·
          have hC := ct_X7_hire l D tc base base z hi tx st ln h hX (sX xs (j + 1)) (sX xs (j + 2)) (sX xs (j + 3)) c1 c2 c3 c4
          have hW := wn_hire l D tc base base (base + 133) og (sX xs (j + 1)) (sX xs (j + 2)) (sX xs (j + 3)) h _ 4 (by omega) hC fs hfx (fun r h' hp => ⟨_, hp.1, (hp.2.2 _ (by omega)).trans hO⟩)
          refine k_aload_n C dL_law_434 rfl ?_
          refine k_aload_n C dL_law_435 rfl ?_
          refine k_iload C dL_law_436 rfl ?_
          refine k_iconst C dL_law_438 ?_
          refine k_iadd C dL_law_439 ?_
          refine k_sld C hSc (by omega) (by omega) dL_law_440 ?_
          refine k_aload_n C dL_law_441 rfl ?_
          refine k_iload C dL_law_442 rfl ?_
          refine k_iconst C dL_law_444 ?_
          refine k_iadd C dL_law_445 ?_
          refine k_sld C hSc (by omega) (by omega) dL_law_446 ?_
          refine k_aload_n C dL_law_447 rfl ?_
          refine k_iload C dL_law_448 rfl ?_
          refine k_iconst C dL_law_450 ?_
          refine k_iadd C dL_law_451 ?_
          refine k_sld C hSc (by omega) (by omega) dL_law_452 ?_
          refine k_aload_n C dL_law_453 rfl ?_
          refine k_callW C hE (n := 5) (as := [aR base, aI (sX xs (j + 1)), aI (sX xs (j + 2)), aI (sX xs (j + 3)), aR (base + 133)]) (rest := []) hW ml_L_104 sm_L_hire ini_L co_L_hire ⟨by decide, by decide, by decide +kernel⟩ rfl ⟨by decide, by decide⟩ rfl (Nat.le_of_ble_eq_true rfl) hcc1 dL_law_454 ?_
          rintro r h2 ⟨rfl, v, h1, ⟨hv, hX1, hF1⟩, rfl⟩
          have hve := Sum.inl.inj (Option.some.inj hv)
          have hX2 := hX1.fr (h' := hs h1 (base + 133) (eA 2 1 (iu og 0 (sx v)))) (fun a a0 a1 => hs_ne (by omega) rfl)
          have hMod := hMod0.fr (h' := hs h1 (base + 133) (eA 2 1 (iu og 0 (sx v)))) (fun a a0 a1 => (hs_ne (by omega) rfl).trans (hF1 a (by omega)))
          have hO2 : hs h1 (base + 133) (eA 2 1 (iu og 0 (sx v))) (base + 133) = some (eA 2 1 (iu og 0 (sx v))) := hs_eq _ _ _
          refine k_istore C dL_law_457 (by decide) rfl ?_
          refine k_aload_n C dL_law_459 rfl ?_
          refine k_aload_n C dL_law_460 rfl ?_
          refine k_iload C dL_law_461 rfl ?_
          refine k_iconst C dL_law_463 ?_
          refine k_iadd C dL_law_464 ?_
          refine k_sld C hSc (by omega) (by omega) dL_law_465 ?_
          refine k_aload_n C dL_law_466 rfl ?_
          refine k_iload C dL_law_467 rfl ?_
          refine k_iconst C dL_law_469 ?_
          refine k_iadd C dL_law_470 ?_
          refine k_sld C hSc (by omega) (by omega) dL_law_471 ?_
          refine k_aload_n C dL_law_472 rfl ?_
          refine k_iload C dL_law_473 rfl ?_
          refine k_iconst C dL_law_475 ?_
          refine k_iadd C dL_law_476 ?_
          refine k_sld C hSc (by omega) (by omega) dL_law_477 ?_
          have hMM := CT.mono (post' := fun r h' => r = some (aI (z 21)) ∧ MA h' (base + 127) (zComes z (sX xs (j + 1)) (sX xs (j + 2)) (sX xs (j + 3))) (sHi z hi st) tx has hro (sSt st) ln 0 re du hsh ∧ Fr (hs h1 (base + 133) (eA 2 1 (iu og 0 (sx v)))) h' (base + 127) 6) (ct_X8_hire l D tc base (base + 127) z hi tx has hro st ln th re du hsh (hs h1 (base + 133) (eA 2 1 (iu og 0 (sx v)))) hMod (sX xs (j + 1)) (sX xs (j + 2)) (sX xs (j + 3)) hr1 hr2 hr3 hok.1 hst) (fun r h' hd => by rcases hd with ⟨cd, q⟩ | ⟨cd, q⟩ | ⟨cd, q⟩ | ⟨cd, q⟩ <;> first | (exfalso; omega) | exact q)
          refine k_callV C (ci := 8) (as := [aI (sX xs (j + 1)), aI (sX xs (j + 2)), aI (sX xs (j + 3))]) (rest := []) (n := 3) hMM ml_L_107 im_X8_hire se_X8_hire ini_X8 co_X8_hire ⟨rfl, by decide, by decide, by decide +kernel⟩ rfl rfl hMod.1 ⟨by decide, by decide⟩ rfl (Nat.le_of_ble_eq_true rfl) hcc dL_law_478 ?_
          rintro r h3 ⟨rfl, hM3, hF3⟩
          refine k_istore C dL_law_481 (by decide) rfl ?_
          exact tl_hire C hcc h3 _ _ _ _ _ _ (hX2.fr (fun a a0 a1 => hF3 a (by omega))) _ _ _ _ _ _ hM3 ((hF3 (base + 133) (by omega)).trans hO2) _ ⟨by omega, by omega⟩ (fun _ => by rw [iu_eq, hve]) k
        · have h6 : z 21 = 6 := by have := hok.1.1; omega
          have hC := tx_hire4 l D tc base hl base z hi tx st ln h hX (sX xs (j + 1)) (sX xs (j + 2)) (sX xs (j + 3)) c1 c2 c3 h6
          have hW := wt_hire_3 l D tc base base (base + 133) (sX xs (j + 1)) (sX xs (j + 2)) (sX xs (j + 3)) h _ hC fs hfx
          refine k_aload_n C dL_law_434 rfl ?_
          refine k_aload_n C dL_law_435 rfl ?_
          refine k_iload C dL_law_436 rfl ?_
          refine k_iconst C dL_law_438 ?_
          refine k_iadd C dL_law_439 ?_
          refine k_sld C hSc (by omega) (by omega) dL_law_440 ?_
          refine k_aload_n C dL_law_441 rfl ?_
          refine k_iload C dL_law_442 rfl ?_
          refine k_iconst C dL_law_444 ?_
          refine k_iadd C dL_law_445 ?_
          refine k_sld C hSc (by omega) (by omega) dL_law_446 ?_
          refine k_aload_n C dL_law_447 rfl ?_
          refine k_iload C dL_law_448 rfl ?_
          refine k_iconst C dL_law_450 ?_
          refine k_iadd C dL_law_451 ?_
          refine k_sld C hSc (by omega) (by omega) dL_law_452 ?_
          refine k_aload_n C dL_law_453 rfl ?_
          refine k_callW C hE (n := 5) (as := [aR base, aI (sX xs (j + 1)), aI (sX xs (j + 2)), aI (sX xs (j + 3)), aR (base + 133)]) (rest := []) hW ml_L_104 sm_L_hire ini_L co_L_hire ⟨by decide, by decide, by decide +kernel⟩ rfl ⟨by decide, by decide⟩ rfl (Nat.le_of_ble_eq_true rfl) hcc1 dL_law_454 ?_
          rintro r h2 ⟨rfl, rfl⟩
          have hMod := hMod0
          have hX2 := hX
          have hO2 := hO
          refine k_istore C dL_law_457 (by decide) rfl ?_
          refine k_aload_n C dL_law_459 rfl ?_
          refine k_aload_n C dL_law_460 rfl ?_
          refine k_iload C dL_law_461 rfl ?_
          refine k_iconst C dL_law_463 ?_
          refine k_iadd C dL_law_464 ?_
          refine k_sld C hSc (by omega) (by omega) dL_law_465 ?_
          refine k_aload_n C dL_law_466 rfl ?_
          refine k_iload C dL_law_467 rfl ?_
          refine k_iconst C dL_law_469 ?_
          refine k_iadd C dL_law_470 ?_
          refine k_sld C hSc (by omega) (by omega) dL_law_471 ?_
          refine k_aload_n C dL_law_472 rfl ?_
          refine k_iload C dL_law_473 rfl ?_
          refine k_iconst C dL_law_475 ?_
          refine k_iadd C dL_law_476 ?_
          refine k_sld C hSc (by omega) (by omega) dL_law_477 ?_
          have hMM := CT.mono (post' := fun r h' => r = some (aI 0) ∧ MA h' (base + 127) z hi tx has hro st ln 3 re du hsh ∧ Fr h h' (base + 127) 6) (ct_X8_hire l D tc base (base + 127) z hi tx has hro st ln th re du hsh h hMod (sX xs (j + 1)) (sX xs (j + 2)) (sX xs (j + 3)) hr1 hr2 hr3 hok.1 hst) (fun r h' hd => by rcases hd with ⟨cd, q⟩ | ⟨cd, q⟩ | ⟨cd, q⟩ | ⟨cd, q⟩ <;> first | (exfalso; omega) | exact q)
          refine k_callV C (ci := 8) (as := [aI (sX xs (j + 1)), aI (sX xs (j + 2)), aI (sX xs (j + 3))]) (rest := []) (n := 3) hMM ml_L_107 im_X8_hire se_X8_hire ini_X8 co_X8_hire ⟨rfl, by decide, by decide, by decide +kernel⟩ rfl rfl hMod.1 ⟨by decide, by decide⟩ rfl (Nat.le_of_ble_eq_true rfl) hcc dL_law_478 ?_
          rintro r h3 ⟨rfl, hM3, hF3⟩
          refine k_istore C dL_law_481 (by decide) rfl ?_
          exact tl_hire C hcc h3 _ _ _ _ _ _ (hX2.fr (fun a a0 a1 => hF3 a (by omega))) _ _ _ _ _ _ hM3 ((hF3 (base + 133) (by omega)).trans hO2) _ ⟨by omega, by omega⟩ (fun q => by omega) k
      ·
        have hC := tx_hire3 l D tc base hl base (sX xs (j + 1)) (sX xs (j + 2)) (sX xs (j + 3)) h hr3 c1 c2 c3
        have hW := wt_hire_2 l D tc base base (base + 133) (sX xs (j + 1)) (sX xs (j + 2)) (sX xs (j + 3)) h _ hC fs hfx
        refine k_aload_n C dL_law_434 rfl ?_
        refine k_aload_n C dL_law_435 rfl ?_
        refine k_iload C dL_law_436 rfl ?_
        refine k_iconst C dL_law_438 ?_
        refine k_iadd C dL_law_439 ?_
        refine k_sld C hSc (by omega) (by omega) dL_law_440 ?_
        refine k_aload_n C dL_law_441 rfl ?_
        refine k_iload C dL_law_442 rfl ?_
        refine k_iconst C dL_law_444 ?_
        refine k_iadd C dL_law_445 ?_
        refine k_sld C hSc (by omega) (by omega) dL_law_446 ?_
        refine k_aload_n C dL_law_447 rfl ?_
        refine k_iload C dL_law_448 rfl ?_
        refine k_iconst C dL_law_450 ?_
        refine k_iadd C dL_law_451 ?_
        refine k_sld C hSc (by omega) (by omega) dL_law_452 ?_
        refine k_aload_n C dL_law_453 rfl ?_
        refine k_callW C hE (n := 5) (as := [aR base, aI (sX xs (j + 1)), aI (sX xs (j + 2)), aI (sX xs (j + 3)), aR (base + 133)]) (rest := []) hW ml_L_104 sm_L_hire ini_L co_L_hire ⟨by decide, by decide, by decide +kernel⟩ rfl ⟨by decide, by decide⟩ rfl (Nat.le_of_ble_eq_true rfl) hcc1 dL_law_454 ?_
        rintro r h2 ⟨rfl, rfl⟩
        have hMod := hMod0
        have hX2 := hX
        have hO2 := hO
        refine k_istore C dL_law_457 (by decide) rfl ?_
        refine k_aload_n C dL_law_459 rfl ?_
        refine k_aload_n C dL_law_460 rfl ?_
        refine k_iload C dL_law_461 rfl ?_
        refine k_iconst C dL_law_463 ?_
        refine k_iadd C dL_law_464 ?_
        refine k_sld C hSc (by omega) (by omega) dL_law_465 ?_
        refine k_aload_n C dL_law_466 rfl ?_
        refine k_iload C dL_law_467 rfl ?_
        refine k_iconst C dL_law_469 ?_
        refine k_iadd C dL_law_470 ?_
        refine k_sld C hSc (by omega) (by omega) dL_law_471 ?_
        refine k_aload_n C dL_law_472 rfl ?_
        refine k_iload C dL_law_473 rfl ?_
        refine k_iconst C dL_law_475 ?_
        refine k_iadd C dL_law_476 ?_
        refine k_sld C hSc (by omega) (by omega) dL_law_477 ?_
        have hMM := CT.mono (post' := fun r h' => r = some (aI 0) ∧ MA h' (base + 127) z hi tx has hro st ln 2 re du hsh ∧ Fr h h' (base + 127) 6) (ct_X8_hire l D tc base (base + 127) z hi tx has hro st ln th re du hsh h hMod (sX xs (j + 1)) (sX xs (j + 2)) (sX xs (j + 3)) hr1 hr2 hr3 hok.1 hst) (fun r h' hd => by rcases hd with ⟨cd, q⟩ | ⟨cd, q⟩ | ⟨cd, q⟩ | ⟨cd, q⟩ <;> first | (exfalso; omega) | exact q)
        refine k_callV C (ci := 8) (as := [aI (sX xs (j + 1)), aI (sX xs (j + 2)), aI (sX xs (j + 3))]) (rest := []) (n := 3) hMM ml_L_107 im_X8_hire se_X8_hire ini_X8 co_X8_hire ⟨rfl, by decide, by decide, by decide +kernel⟩ rfl rfl hMod.1 ⟨by decide, by decide⟩ rfl (Nat.le_of_ble_eq_true rfl) hcc dL_law_478 ?_
        rintro r h3 ⟨rfl, hM3, hF3⟩
        refine k_istore C dL_law_481 (by decide) rfl ?_
        exact tl_hire C hcc h3 _ _ _ _ _ _ (hX2.fr (fun a a0 a1 => hF3 a (by omega))) _ _ _ _ _ _ hM3 ((hF3 (base + 133) (by omega)).trans hO2) _ ⟨by omega, by omega⟩ (fun q => by omega) k
    ·
      have hC := tx_hire2 l D tc base hl base (sX xs (j + 1)) (sX xs (j + 2)) (sX xs (j + 3)) h hr2 c1 c2
      have hW := wt_hire_2 l D tc base base (base + 133) (sX xs (j + 1)) (sX xs (j + 2)) (sX xs (j + 3)) h _ hC fs hfx
      refine k_aload_n C dL_law_434 rfl ?_
      refine k_aload_n C dL_law_435 rfl ?_
      refine k_iload C dL_law_436 rfl ?_
      refine k_iconst C dL_law_438 ?_
      refine k_iadd C dL_law_439 ?_
      refine k_sld C hSc (by omega) (by omega) dL_law_440 ?_
      refine k_aload_n C dL_law_441 rfl ?_
      refine k_iload C dL_law_442 rfl ?_
      refine k_iconst C dL_law_444 ?_
      refine k_iadd C dL_law_445 ?_
      refine k_sld C hSc (by omega) (by omega) dL_law_446 ?_
      refine k_aload_n C dL_law_447 rfl ?_
      refine k_iload C dL_law_448 rfl ?_
      refine k_iconst C dL_law_450 ?_
      refine k_iadd C dL_law_451 ?_
      refine k_sld C hSc (by omega) (by omega) dL_law_452 ?_
      refine k_aload_n C dL_law_453 rfl ?_
      refine k_callW C hE (n := 5) (as := [aR base, aI (sX xs (j + 1)), aI (sX xs (j + 2)), aI (sX xs (j + 3)), aR (base + 133)]) (rest := []) hW ml_L_104 sm_L_hire ini_L co_L_hire ⟨by decide, by decide, by decide +kernel⟩ rfl ⟨by decide, by decide⟩ rfl (Nat.le_of_ble_eq_true rfl) hcc1 dL_law_454 ?_
      rintro r h2 ⟨rfl, rfl⟩
      have hMod := hMod0
      have hX2 := hX
      have hO2 := hO
      refine k_istore C dL_law_457 (by decide) rfl ?_
      refine k_aload_n C dL_law_459 rfl ?_
      refine k_aload_n C dL_law_460 rfl ?_
      refine k_iload C dL_law_461 rfl ?_
      refine k_iconst C dL_law_463 ?_
      refine k_iadd C dL_law_464 ?_
      refine k_sld C hSc (by omega) (by omega) dL_law_465 ?_
      refine k_aload_n C dL_law_466 rfl ?_
      refine k_iload C dL_law_467 rfl ?_
      refine k_iconst C dL_law_469 ?_
      refine k_iadd C dL_law_470 ?_
      refine k_sld C hSc (by omega) (by omega) dL_law_471 ?_
      refine k_aload_n C dL_law_472 rfl ?_
      refine k_iload C dL_law_473 rfl ?_
      refine k_iconst C dL_law_475 ?_
      refine k_iadd C dL_law_476 ?_
      refine k_sld C hSc (by omega) (by omega) dL_law_477 ?_
      have hMM := CT.mono (post' := fun r h' => r = some (aI 0) ∧ MA h' (base + 127) z hi tx has hro st ln 2 re du hsh ∧ Fr h h' (base + 127) 6) (ct_X8_hire l D tc base (base + 127) z hi tx has hro st ln th re du hsh h hMod (sX xs (j + 1)) (sX xs (j + 2)) (sX xs (j + 3)) hr1 hr2 hr3 hok.1 hst) (fun r h' hd => by rcases hd with ⟨cd, q⟩ | ⟨cd, q⟩ | ⟨cd, q⟩ | ⟨cd, q⟩ <;> first | (exfalso; omega) | exact q)
      refine k_callV C (ci := 8) (as := [aI (sX xs (j + 1)), aI (sX xs (j + 2)), aI (sX xs (j + 3))]) (rest := []) (n := 3) hMM ml_L_107 im_X8_hire se_X8_hire ini_X8 co_X8_hire ⟨rfl, by decide, by decide, by decide +kernel⟩ rfl rfl hMod.1 ⟨by decide, by decide⟩ rfl (Nat.le_of_ble_eq_true rfl) hcc dL_law_478 ?_
      rintro r h3 ⟨rfl, hM3, hF3⟩
      refine k_istore C dL_law_481 (by decide) rfl ?_
      exact tl_hire C hcc h3 _ _ _ _ _ _ (hX2.fr (fun a a0 a1 => hF3 a (by omega))) _ _ _ _ _ _ hM3 ((hF3 (base + 133) (by omega)).trans hO2) _ ⟨by omega, by omega⟩ (fun q => by omega) k
  ·
    have hC := tx_hire1 l D tc base hl base (sX xs (j + 1)) (sX xs (j + 2)) (sX xs (j + 3)) h hr1 c1
    have hW := wt_hire_1 l D tc base base (base + 133) (sX xs (j + 1)) (sX xs (j + 2)) (sX xs (j + 3)) h _ hC fs hfx
    refine k_aload_n C dL_law_434 rfl ?_
    refine k_aload_n C dL_law_435 rfl ?_
    refine k_iload C dL_law_436 rfl ?_
    refine k_iconst C dL_law_438 ?_
    refine k_iadd C dL_law_439 ?_
    refine k_sld C hSc (by omega) (by omega) dL_law_440 ?_
    refine k_aload_n C dL_law_441 rfl ?_
    refine k_iload C dL_law_442 rfl ?_
    refine k_iconst C dL_law_444 ?_
    refine k_iadd C dL_law_445 ?_
    refine k_sld C hSc (by omega) (by omega) dL_law_446 ?_
    refine k_aload_n C dL_law_447 rfl ?_
    refine k_iload C dL_law_448 rfl ?_
    refine k_iconst C dL_law_450 ?_
    refine k_iadd C dL_law_451 ?_
    refine k_sld C hSc (by omega) (by omega) dL_law_452 ?_
    refine k_aload_n C dL_law_453 rfl ?_
    refine k_callW C hE (n := 5) (as := [aR base, aI (sX xs (j + 1)), aI (sX xs (j + 2)), aI (sX xs (j + 3)), aR (base + 133)]) (rest := []) hW ml_L_104 sm_L_hire ini_L co_L_hire ⟨by decide, by decide, by decide +kernel⟩ rfl ⟨by decide, by decide⟩ rfl (Nat.le_of_ble_eq_true rfl) hcc1 dL_law_454 ?_
    rintro r h2 ⟨rfl, rfl⟩
    have hMod := hMod0
    have hX2 := hX
    have hO2 := hO
    refine k_istore C dL_law_457 (by decide) rfl ?_
    refine k_aload_n C dL_law_459 rfl ?_
    refine k_aload_n C dL_law_460 rfl ?_
    refine k_iload C dL_law_461 rfl ?_
    refine k_iconst C dL_law_463 ?_
    refine k_iadd C dL_law_464 ?_
    refine k_sld C hSc (by omega) (by omega) dL_law_465 ?_
    refine k_aload_n C dL_law_466 rfl ?_
    refine k_iload C dL_law_467 rfl ?_
    refine k_iconst C dL_law_469 ?_
    refine k_iadd C dL_law_470 ?_
    refine k_sld C hSc (by omega) (by omega) dL_law_471 ?_
    refine k_aload_n C dL_law_472 rfl ?_
    refine k_iload C dL_law_473 rfl ?_
    refine k_iconst C dL_law_475 ?_
    refine k_iadd C dL_law_476 ?_
    refine k_sld C hSc (by omega) (by omega) dL_law_477 ?_
    have hMM := CT.mono (post' := fun r h' => r = some (aI 0) ∧ MA h' (base + 127) z hi tx has hro st ln 1 re du hsh ∧ Fr h h' (base + 127) 6) (ct_X8_hire l D tc base (base + 127) z hi tx has hro st ln th re du hsh h hMod (sX xs (j + 1)) (sX xs (j + 2)) (sX xs (j + 3)) hr1 hr2 hr3 hok.1 hst) (fun r h' hd => by rcases hd with ⟨cd, q⟩ | ⟨cd, q⟩ | ⟨cd, q⟩ | ⟨cd, q⟩ <;> first | (exfalso; omega) | exact q)
    refine k_callV C (ci := 8) (as := [aI (sX xs (j + 1)), aI (sX xs (j + 2)), aI (sX xs (j + 3))]) (rest := []) (n := 3) hMM ml_L_107 im_X8_hire se_X8_hire ini_X8 co_X8_hire ⟨rfl, by decide, by decide, by decide +kernel⟩ rfl rfl hMod.1 ⟨by decide, by decide⟩ rfl (Nat.le_of_ble_eq_true rfl) hcc dL_law_478 ?_
    rintro r h3 ⟨rfl, hM3, hF3⟩
    refine k_istore C dL_law_481 (by decide) rfl ?_
    exact tl_hire C hcc h3 _ _ _ _ _ _ (hX2.fr (fun a a0 a1 => hF3 a (by omega))) _ _ _ _ _ _ hM3 ((hF3 (base + 133) (by omega)).trans hO2) _ ⟨by omega, by omega⟩ (fun q => by omega) k
set_option maxRecDepth 20000 in
set_option maxHeartbeats 1000000 in
theorem tl_dismiss {D : va_G} {tc : Nat → ClassId} {base : Nat} {p : Program} {l : Launch} {e : Env} {s : State} {m : MethodId} {args : Array Value} {below : List Frame} {meth : Method} {c : Code} {cells slots : Nat} {Q : State → Prop} (C : Cx D tc base RL cL_law 9 p s m args meth c) {b : Nat} {j : Int} (hcc : cells ≤ room_1.cells ∧ slots ≤ room_1.slots) (h : AH) (z hi tx : Int → Int) (st ln : Int) (og : Int → Int) (hX : XA h base z hi tx st ln) (has hro : Int → Int) (th re du hsh : Int) (hMod : MA h (base + 127) z hi tx has hro st ln th re du hsh) (hO : h (base + 133) = some (eA 2 1 og)) (v : Int) (hth : r32 th) (hv : th = 0 → og 0 = sx v) (k : LG D tc base b p l e s m args below meth c cells slots Q j) : Wk D tc base 9 p l e room_1 s m args below meth c cells slots Q 539 [some (aR b), some (aR base), some (aR (base + 127)), some (aR (base + 133)), some (aI j), some (aI th), some (aI v), none, none] [] h := by
  refine k_aload_n C dL_law_539 rfl ?_
  refine k_callV C (ci := 8) (as := []) (rest := []) (n := 0) (ct_X8_thrown l D tc base (base + 127) z hi tx has hro st ln th re du hsh h hMod) ml_L_83 im_X8_thrown se_X8_thrown ini_X8 co_X8_thrown ⟨rfl, by decide, by decide, by decide +kernel⟩ rfl rfl hMod.1 ⟨by decide, by decide⟩ rfl (Nat.le_of_ble_eq_true rfl) hcc dL_law_540 ?_
  rintro r h2 ⟨rfl, rfl⟩
  refine k_iload C dL_law_543 rfl ?_
  refine k_icmp_same (tgt := 550) C dL_law_545 (by decide) ?_
  refine k_iload C dL_law_550 rfl ?_
  have kE : Wk D tc base 9 p l e room_1 s m args below meth c cells slots Q 567 [some (aR b), some (aR base), some (aR (base + 127)), some (aR (base + 133)), some (aI j), some (aI th), some (aI v), none, none] [] h := by
    refine k_goto (tgt := 1386) C dL_law_567 (by decide) ?_
    have q1 := k h z hi tx st ln og ⟨hX, ⟨_, _, _, _, _, _, hMod⟩, hO⟩
    exact k_sub q1 (And.intro rfl (And.intro rfl (And.intro rfl (And.intro rfl (And.intro rfl trivial)))))
  refine k_if_ne (tgt := 567) C dL_law_552 (by decide) hth (fun _ => kE) (fun c0 => ?_)
  refine k_aload_n C dL_law_555 rfl ?_
  refine k_iconst C dL_law_556 ?_
  refine k_laload C dL_law_557 hO (by omega) (by omega) (by omega) ?_
  refine k_iload C dL_law_558 rfl ?_
  refine k_i2l C dL_law_560 ?_
  refine k_lcmpNe C dL_law_561 (fun w hw he => ?_)
  exact k_if_eq (tgt := 567) C dL_law_562 (by decide) hw (fun _ => kE) (fun cw => absurd (he.mpr (by rw [hv c0])) cw)
set_option maxRecDepth 20000 in
set_option maxHeartbeats 2000000 in
theorem op_dismiss {D : va_G} {tc : Nat → ClassId} {base : Nat} {p : Program} {l : Launch} {e : Env} {s : State} {m : MethodId} {args : Array Value} {below : List Frame} {meth : Method} {c : Code} {cells slots : Nat} {Q : State → Prop} (C : Cx D tc base RL cL_law 9 p s m args meth c) (hE : PE base s) {b LL : Nat} {xs : Nat → Int32} (hSc : Scr base b LL xs s) (hl : l.stackTraces = false) {j : Int} (hj : 0 ≤ j ∧ j + 4 ≤ LL) (hcc1 : cells + 1 ≤ room_1.cells ∧ slots + 6 ≤ room_1.slots) (h : AH) (z hi tx : Int → Int) (st ln : Int) (og : Int → Int) (hI : LI h base z hi tx st ln og) (k : LG D tc base b p l e s m args below meth c (cells + 1) (slots + 6) Q j) : Wk D tc base 9 p l e room_1 s m args below meth c cells slots Q 514 [some (aR b), some (aR base), some (aR (base + 127)), some (aR (base + 133)), some (aI j), none, none, none, none] [] h := by
  have hcc := hcc1
  obtain ⟨hX, ⟨has, hro, th, re, du, hsh, hMod0⟩, hO⟩ := hI
  obtain ⟨⟨fs, hfx⟩, hok, h13, hst, hln, htr⟩ := hX.fx
  have hj0 := hj.1
  have hj1 := hj.2
  have hr1 := sX_r xs (j + 1)
  by_cases c1 : 0 ≤ (sX xs (j + 1)) ∧ (sX xs (j + 1)) < z 21
  ·
    have hC := ct_X7_dismiss l D tc base base z hi tx st ln h hX (sX xs (j + 1)) c1
    have hW := wn_dismiss l D tc base base (base + 133) og (sX xs (j + 1)) h _ 4 (by omega) hC fs hfx (fun r h' hp => ⟨_, hp.1, (hp.2.2 _ (by omega)).trans hO⟩)
    refine k_aload_n C dL_law_514 rfl ?_
    refine k_aload_n C dL_law_515 rfl ?_
    refine k_iload C dL_law_516 rfl ?_
    refine k_iconst C dL_law_518 ?_
    refine k_iadd C dL_law_519 ?_
    refine k_sld C hSc (by omega) (by omega) dL_law_520 ?_
    refine k_aload_n C dL_law_521 rfl ?_
    refine k_callW C hE (n := 3) (as := [aR base, aI (sX xs (j + 1)), aR (base + 133)]) (rest := []) hW ml_L_108 sm_L_dismiss ini_L co_L_dismiss ⟨by decide, by decide, by decide +kernel⟩ rfl ⟨by decide, by decide⟩ rfl (Nat.le_of_ble_eq_true rfl) hcc1 dL_law_522 ?_
    rintro r h2 ⟨rfl, v, h1, ⟨hv, hX1, hF1⟩, rfl⟩
    have hve := Sum.inl.inj (Option.some.inj hv)
    have hX2 := hX1.fr (h' := hs h1 (base + 133) (eA 2 1 (iu og 0 (sx v)))) (fun a a0 a1 => hs_ne (by omega) rfl)
    have hMod := hMod0.fr (h' := hs h1 (base + 133) (eA 2 1 (iu og 0 (sx v)))) (fun a a0 a1 => (hs_ne (by omega) rfl).trans (hF1 a (by omega)))
    have hO2 : hs h1 (base + 133) (eA 2 1 (iu og 0 (sx v))) (base + 133) = some (eA 2 1 (iu og 0 (sx v))) := hs_eq _ _ _
    refine k_istore C dL_law_525 (by decide) rfl ?_
    refine k_aload_n C dL_law_527 rfl ?_
    refine k_aload_n C dL_law_528 rfl ?_
    refine k_iload C dL_law_529 rfl ?_
    refine k_iconst C dL_law_531 ?_
    refine k_iadd C dL_law_532 ?_
    refine k_sld C hSc (by omega) (by omega) dL_law_533 ?_
    have hMM := CT.mono (post' := fun r h' => r = some (aI (z 21 - 1)) ∧ MA h' (base + 127) (zDisK z (z 21 - 1) (22 + 5 * (sX xs (j + 1))) (22 + 5 * (z 21 - 1))) (sHi z hi st) tx has hro (sSt st) ln 0 re du hsh ∧ Fr (hs h1 (base + 133) (eA 2 1 (iu og 0 (sx v)))) h' (base + 127) 6) (ct_X8_dismiss l D tc base (base + 127) z hi tx has hro st ln th re du hsh (hs h1 (base + 133) (eA 2 1 (iu og 0 (sx v)))) hMod (sX xs (j + 1)) hr1 hok.1 hst) (fun r h' hd => by rcases hd with ⟨cd, q⟩ | ⟨cd, q⟩ <;> first | (exfalso; omega) | exact q)
    refine k_callV C (ci := 8) (as := [aI (sX xs (j + 1))]) (rest := []) (n := 1) hMM ml_L_110 im_X8_dismiss se_X8_dismiss ini_X8 co_X8_dismiss ⟨rfl, by decide, by decide, by decide +kernel⟩ rfl rfl hMod.1 ⟨by decide, by decide⟩ rfl (Nat.le_of_ble_eq_true rfl) hcc dL_law_534 ?_
    rintro r h3 ⟨rfl, hM3, hF3⟩
    refine k_istore C dL_law_537 (by decide) rfl ?_
    exact tl_dismiss C hcc h3 _ _ _ _ _ _ (hX2.fr (fun a a0 a1 => hF3 a (by omega))) _ _ _ _ _ _ hM3 ((hF3 (base + 133) (by omega)).trans hO2) _ ⟨by omega, by omega⟩ (fun _ => by rw [iu_eq, hve]) k
  ·
    have hC := tx_dismiss l D tc base hl base z hi tx st ln h hX (sX xs (j + 1)) hr1 c1
    have hW := wt_dismiss_1 l D tc base base (base + 133) (sX xs (j + 1)) h _ hC fs hfx
    refine k_aload_n C dL_law_514 rfl ?_
    refine k_aload_n C dL_law_515 rfl ?_
    refine k_iload C dL_law_516 rfl ?_
    refine k_iconst C dL_law_518 ?_
    refine k_iadd C dL_law_519 ?_
    refine k_sld C hSc (by omega) (by omega) dL_law_520 ?_
    refine k_aload_n C dL_law_521 rfl ?_
    refine k_callW C hE (n := 3) (as := [aR base, aI (sX xs (j + 1)), aR (base + 133)]) (rest := []) hW ml_L_108 sm_L_dismiss ini_L co_L_dismiss ⟨by decide, by decide, by decide +kernel⟩ rfl ⟨by decide, by decide⟩ rfl (Nat.le_of_ble_eq_true rfl) hcc1 dL_law_522 ?_
    rintro r h2 ⟨rfl, rfl⟩
    have hMod := hMod0
    have hX2 := hX
    have hO2 := hO
    refine k_istore C dL_law_525 (by decide) rfl ?_
    refine k_aload_n C dL_law_527 rfl ?_
    refine k_aload_n C dL_law_528 rfl ?_
    refine k_iload C dL_law_529 rfl ?_
    refine k_iconst C dL_law_531 ?_
    refine k_iadd C dL_law_532 ?_
    refine k_sld C hSc (by omega) (by omega) dL_law_533 ?_
    have hMM := CT.mono (post' := fun r h' => r = some (aI 0) ∧ MA h' (base + 127) z hi tx has hro st ln 1 re du hsh ∧ Fr h h' (base + 127) 6) (ct_X8_dismiss l D tc base (base + 127) z hi tx has hro st ln th re du hsh h hMod (sX xs (j + 1)) hr1 hok.1 hst) (fun r h' hd => by rcases hd with ⟨cd, q⟩ | ⟨cd, q⟩ <;> first | (exfalso; omega) | exact q)
    refine k_callV C (ci := 8) (as := [aI (sX xs (j + 1))]) (rest := []) (n := 1) hMM ml_L_110 im_X8_dismiss se_X8_dismiss ini_X8 co_X8_dismiss ⟨rfl, by decide, by decide, by decide +kernel⟩ rfl rfl hMod.1 ⟨by decide, by decide⟩ rfl (Nat.le_of_ble_eq_true rfl) hcc dL_law_534 ?_
    rintro r h3 ⟨rfl, hM3, hF3⟩
    refine k_istore C dL_law_537 (by decide) rfl ?_
    exact tl_dismiss C hcc h3 _ _ _ _ _ _ (hX2.fr (fun a a0 a1 => hF3 a (by omega))) _ _ _ _ _ _ hM3 ((hF3 (base + 133) (by omega)).trans hO2) _ ⟨by omega, by omega⟩ (fun q => by omega) k
set_option maxRecDepth 20000 in
set_option maxHeartbeats 1000000 in
theorem tl_pass {D : va_G} {tc : Nat → ClassId} {base : Nat} {p : Program} {l : Launch} {e : Env} {s : State} {m : MethodId} {args : Array Value} {below : List Frame} {meth : Method} {c : Code} {cells slots : Nat} {Q : State → Prop} (C : Cx D tc base RL cL_law 9 p s m args meth c) {b : Nat} {j : Int} (hcc : cells ≤ room_1.cells ∧ slots ≤ room_1.slots) (h : AH) (z hi tx : Int → Int) (st ln : Int) (og : Int → Int) (hX : XA h base z hi tx st ln) (has hro : Int → Int) (th re du hsh : Int) (hMod : MA h (base + 127) z hi tx has hro st ln th re du hsh) (hO : h (base + 133) = some (eA 2 1 og)) (v : Int) (hth : r32 th) (hv : th = 0 → og 0 = sx v) (k : LG D tc base b p l e s m args below meth c cells slots Q j) : Wk D tc base 9 p l e room_1 s m args below meth c cells slots Q 595 [some (aR b), some (aR base), some (aR (base + 127)), some (aR (base + 133)), some (aI j), some (aI th), some (aI v), none, none] [] h := by
  refine k_aload_n C dL_law_595 rfl ?_
  refine k_callV C (ci := 8) (as := []) (rest := []) (n := 0) (ct_X8_thrown l D tc base (base + 127) z hi tx has hro st ln th re du hsh h hMod) ml_L_83 im_X8_thrown se_X8_thrown ini_X8 co_X8_thrown ⟨rfl, by decide, by decide, by decide +kernel⟩ rfl rfl hMod.1 ⟨by decide, by decide⟩ rfl (Nat.le_of_ble_eq_true rfl) hcc dL_law_596 ?_
  rintro r h2 ⟨rfl, rfl⟩
  refine k_iload C dL_law_599 rfl ?_
  refine k_icmp_same (tgt := 606) C dL_law_601 (by decide) ?_
  refine k_iload C dL_law_606 rfl ?_
  have kE : Wk D tc base 9 p l e room_1 s m args below meth c cells slots Q 623 [some (aR b), some (aR base), some (aR (base + 127)), some (aR (base + 133)), some (aI j), some (aI th), some (aI v), none, none] [] h := by
    refine k_goto (tgt := 1386) C dL_law_623 (by decide) ?_
    have q1 := k h z hi tx st ln og ⟨hX, ⟨_, _, _, _, _, _, hMod⟩, hO⟩
    exact k_sub q1 (And.intro rfl (And.intro rfl (And.intro rfl (And.intro rfl (And.intro rfl trivial)))))
  refine k_if_ne (tgt := 623) C dL_law_608 (by decide) hth (fun _ => kE) (fun c0 => ?_)
  refine k_aload_n C dL_law_611 rfl ?_
  refine k_iconst C dL_law_612 ?_
  refine k_laload C dL_law_613 hO (by omega) (by omega) (by omega) ?_
  refine k_iload C dL_law_614 rfl ?_
  refine k_i2l C dL_law_616 ?_
  refine k_lcmpNe C dL_law_617 (fun w hw he => ?_)
  exact k_if_eq (tgt := 623) C dL_law_618 (by decide) hw (fun _ => kE) (fun cw => absurd (he.mpr (by rw [hv c0])) cw)
set_option maxRecDepth 20000 in
set_option maxHeartbeats 2000000 in
theorem op_pass {D : va_G} {tc : Nat → ClassId} {base : Nat} {p : Program} {l : Launch} {e : Env} {s : State} {m : MethodId} {args : Array Value} {below : List Frame} {meth : Method} {c : Code} {cells slots : Nat} {Q : State → Prop} (C : Cx D tc base RL cL_law 9 p s m args meth c) (hE : PE base s) {b LL : Nat} {xs : Nat → Int32} (hSc : Scr base b LL xs s) (hl : l.stackTraces = false) {j : Int} (hj : 0 ≤ j ∧ j + 4 ≤ LL) (hcc1 : cells + 1 ≤ room_1.cells ∧ slots + 6 ≤ room_1.slots) (h : AH) (z hi tx : Int → Int) (st ln : Int) (og : Int → Int) (hI : LI h base z hi tx st ln og) (k : LG D tc base b p l e s m args below meth c (cells + 1) (slots + 6) Q j) : Wk D tc base 9 p l e room_1 s m args below meth c cells slots Q 570 [some (aR b), some (aR base), some (aR (base + 127)), some (aR (base + 133)), some (aI j), none, none, none, none] [] h := by
  have hcc := hcc1
  obtain ⟨hX, ⟨has, hro, th, re, du, hsh, hMod0⟩, hO⟩ := hI
  obtain ⟨⟨fs, hfx⟩, hok, h13, hst, hln, htr⟩ := hX.fx
  have hj0 := hj.1
  have hj1 := hj.2
  have hr1 := sX_r xs (j + 1)
  by_cases c1 : 1 ≤ (sX xs (j + 1)) ∧ (sX xs (j + 1)) ≤ 720
  · by_cases c2 : z 13 + (sX xs (j + 1)) ≤ 20000
    ·
      have hC0 := ct_X7_pass l D tc base base z hi tx st ln h hX (sX xs (j + 1)).toNat ⟨by omega, by omega⟩ (by omega)
      rw [show (((sX xs (j + 1)).toNat : Nat) : Int) = (sX xs (j + 1)) by omega] at hC0
      have hC := hC0
      have hW := wn_pass l D tc base base (base + 133) og (sX xs (j + 1)) h _ 6 (by omega) hC fs hfx (fun r h' hp => ⟨_, hp.1, (hp.2.2 _ (by omega)).trans hO⟩)
      refine k_aload_n C dL_law_570 rfl ?_
      refine k_aload_n C dL_law_571 rfl ?_
      refine k_iload C dL_law_572 rfl ?_
      refine k_iconst C dL_law_574 ?_
      refine k_iadd C dL_law_575 ?_
      refine k_sld C hSc (by omega) (by omega) dL_law_576 ?_
      refine k_aload_n C dL_law_577 rfl ?_
      refine k_callW C hE (n := 3) (as := [aR base, aI (sX xs (j + 1)), aR (base + 133)]) (rest := []) hW ml_L_111 sm_L_pass ini_L co_L_pass ⟨by decide, by decide, by decide +kernel⟩ rfl ⟨by decide, by decide⟩ rfl (Nat.le_of_ble_eq_true rfl) hcc1 dL_law_578 ?_
      rintro r h2 ⟨rfl, v, h1, ⟨hv, hX1, hF1⟩, rfl⟩
      have hve := Sum.inl.inj (Option.some.inj hv)
      have hX2 := hX1.fr (h' := hs h1 (base + 133) (eA 2 1 (iu og 0 (sx v)))) (fun a a0 a1 => hs_ne (by omega) rfl)
      have hMod := hMod0.fr (h' := hs h1 (base + 133) (eA 2 1 (iu og 0 (sx v)))) (fun a a0 a1 => (hs_ne (by omega) rfl).trans (hF1 a (by omega)))
      have hO2 : hs h1 (base + 133) (eA 2 1 (iu og 0 (sx v))) (base + 133) = some (eA 2 1 (iu og 0 (sx v))) := hs_eq _ _ _
      refine k_istore C dL_law_581 (by decide) rfl ?_
      refine k_aload_n C dL_law_583 rfl ?_
      refine k_aload_n C dL_law_584 rfl ?_
      refine k_iload C dL_law_585 rfl ?_
      refine k_iconst C dL_law_587 ?_
      refine k_iadd C dL_law_588 ?_
      refine k_sld C hSc (by omega) (by omega) dL_law_589 ?_
      have hMM := CT.mono (post' := fun r h' => r = some (aI (zGo z (sX xs (j + 1)).toNat 14 - z 14)) ∧ MA h' (base + 127) (zGo z (sX xs (j + 1)).toNat) (sHi z hi st) tx has hro (sSt st) ln 0 re du hsh ∧ Fr (hs h1 (base + 133) (eA 2 1 (iu og 0 (sx v)))) h' (base + 127) 6) (ct_X8_pass l D tc base (base + 127) z hi tx has hro st ln th re du hsh (hs h1 (base + 133) (eA 2 1 (iu og 0 (sx v)))) hMod (sX xs (j + 1)) hr1 hok.1 hok.2 hst h13) (fun r h' hd => by rcases hd with ⟨cd, q⟩ | ⟨cd, q⟩ | ⟨cd, q⟩ <;> first | (exfalso; omega) | exact q)
      refine k_callV C (ci := 8) (as := [aI (sX xs (j + 1))]) (rest := []) (n := 1) hMM ml_L_113 im_X8_pass se_X8_pass ini_X8 co_X8_pass ⟨rfl, by decide, by decide, by decide +kernel⟩ rfl rfl hMod.1 ⟨by decide, by decide⟩ rfl (Nat.le_of_ble_eq_true rfl) hcc dL_law_590 ?_
      rintro r h3 ⟨rfl, hM3, hF3⟩
      refine k_istore C dL_law_593 (by decide) rfl ?_
      exact tl_pass C hcc h3 _ _ _ _ _ _ (hX2.fr (fun a a0 a1 => hF3 a (by omega))) _ _ _ _ _ _ hM3 ((hF3 (base + 133) (by omega)).trans hO2) _ ⟨by omega, by omega⟩ (fun _ => by rw [iu_eq, hve]) k
    ·
      have hC := tx_pass2 l D tc base hl base z hi tx st ln h hX (sX xs (j + 1)) c1 c2
      have hW := wt_pass_2 l D tc base base (base + 133) (sX xs (j + 1)) h _ hC fs hfx
      refine k_aload_n C dL_law_570 rfl ?_
      refine k_aload_n C dL_law_571 rfl ?_
      refine k_iload C dL_law_572 rfl ?_
      refine k_iconst C dL_law_574 ?_
      refine k_iadd C dL_law_575 ?_
      refine k_sld C hSc (by omega) (by omega) dL_law_576 ?_
      refine k_aload_n C dL_law_577 rfl ?_
      refine k_callW C hE (n := 3) (as := [aR base, aI (sX xs (j + 1)), aR (base + 133)]) (rest := []) hW ml_L_111 sm_L_pass ini_L co_L_pass ⟨by decide, by decide, by decide +kernel⟩ rfl ⟨by decide, by decide⟩ rfl (Nat.le_of_ble_eq_true rfl) hcc1 dL_law_578 ?_
      rintro r h2 ⟨rfl, rfl⟩
      have hMod := hMod0
      have hX2 := hX
      have hO2 := hO
      refine k_istore C dL_law_581 (by decide) rfl ?_
      refine k_aload_n C dL_law_583 rfl ?_
      refine k_aload_n C dL_law_584 rfl ?_
      refine k_iload C dL_law_585 rfl ?_
      refine k_iconst C dL_law_587 ?_
      refine k_iadd C dL_law_588 ?_
      refine k_sld C hSc (by omega) (by omega) dL_law_589 ?_
      have hMM := CT.mono (post' := fun r h' => r = some (aI 0) ∧ MA h' (base + 127) z hi tx has hro st ln 2 re du hsh ∧ Fr h h' (base + 127) 6) (ct_X8_pass l D tc base (base + 127) z hi tx has hro st ln th re du hsh h hMod (sX xs (j + 1)) hr1 hok.1 hok.2 hst h13) (fun r h' hd => by rcases hd with ⟨cd, q⟩ | ⟨cd, q⟩ | ⟨cd, q⟩ <;> first | (exfalso; omega) | exact q)
      refine k_callV C (ci := 8) (as := [aI (sX xs (j + 1))]) (rest := []) (n := 1) hMM ml_L_113 im_X8_pass se_X8_pass ini_X8 co_X8_pass ⟨rfl, by decide, by decide, by decide +kernel⟩ rfl rfl hMod.1 ⟨by decide, by decide⟩ rfl (Nat.le_of_ble_eq_true rfl) hcc dL_law_590 ?_
      rintro r h3 ⟨rfl, hM3, hF3⟩
      refine k_istore C dL_law_593 (by decide) rfl ?_
      exact tl_pass C hcc h3 _ _ _ _ _ _ (hX2.fr (fun a a0 a1 => hF3 a (by omega))) _ _ _ _ _ _ hM3 ((hF3 (base + 133) (by omega)).trans hO2) _ ⟨by omega, by omega⟩ (fun q => by omega) k
  ·
    have hC := tx_pass1 l D tc base hl base (sX xs (j + 1)) h hr1 c1
    have hW := wt_pass_1 l D tc base base (base + 133) (sX xs (j + 1)) h _ hC fs hfx
    refine k_aload_n C dL_law_570 rfl ?_
    refine k_aload_n C dL_law_571 rfl ?_
    refine k_iload C dL_law_572 rfl ?_
    refine k_iconst C dL_law_574 ?_
    refine k_iadd C dL_law_575 ?_
    refine k_sld C hSc (by omega) (by omega) dL_law_576 ?_
    refine k_aload_n C dL_law_577 rfl ?_
    refine k_callW C hE (n := 3) (as := [aR base, aI (sX xs (j + 1)), aR (base + 133)]) (rest := []) hW ml_L_111 sm_L_pass ini_L co_L_pass ⟨by decide, by decide, by decide +kernel⟩ rfl ⟨by decide, by decide⟩ rfl (Nat.le_of_ble_eq_true rfl) hcc1 dL_law_578 ?_
    rintro r h2 ⟨rfl, rfl⟩
    have hMod := hMod0
    have hX2 := hX
    have hO2 := hO
    refine k_istore C dL_law_581 (by decide) rfl ?_
    refine k_aload_n C dL_law_583 rfl ?_
    refine k_aload_n C dL_law_584 rfl ?_
    refine k_iload C dL_law_585 rfl ?_
    refine k_iconst C dL_law_587 ?_
    refine k_iadd C dL_law_588 ?_
    refine k_sld C hSc (by omega) (by omega) dL_law_589 ?_
    have hMM := CT.mono (post' := fun r h' => r = some (aI 0) ∧ MA h' (base + 127) z hi tx has hro st ln 1 re du hsh ∧ Fr h h' (base + 127) 6) (ct_X8_pass l D tc base (base + 127) z hi tx has hro st ln th re du hsh h hMod (sX xs (j + 1)) hr1 hok.1 hok.2 hst h13) (fun r h' hd => by rcases hd with ⟨cd, q⟩ | ⟨cd, q⟩ | ⟨cd, q⟩ <;> first | (exfalso; omega) | exact q)
    refine k_callV C (ci := 8) (as := [aI (sX xs (j + 1))]) (rest := []) (n := 1) hMM ml_L_113 im_X8_pass se_X8_pass ini_X8 co_X8_pass ⟨rfl, by decide, by decide, by decide +kernel⟩ rfl rfl hMod.1 ⟨by decide, by decide⟩ rfl (Nat.le_of_ble_eq_true rfl) hcc dL_law_590 ?_
    rintro r h3 ⟨rfl, hM3, hF3⟩
    refine k_istore C dL_law_593 (by decide) rfl ?_
    exact tl_pass C hcc h3 _ _ _ _ _ _ (hX2.fr (fun a a0 a1 => hF3 a (by omega))) _ _ _ _ _ _ hM3 ((hF3 (base + 133) (by omega)).trans hO2) _ ⟨by omega, by omega⟩ (fun q => by omega) k
set_option maxRecDepth 20000 in
set_option maxHeartbeats 1000000 in
theorem tl_append {D : va_G} {tc : Nat → ClassId} {base : Nat} {p : Program} {l : Launch} {e : Env} {s : State} {m : MethodId} {args : Array Value} {below : List Frame} {meth : Method} {c : Code} {cells slots : Nat} {Q : State → Prop} (C : Cx D tc base RL cL_law 9 p s m args meth c) {b : Nat} {j : Int} (hcc : cells ≤ room_1.cells ∧ slots ≤ room_1.slots) (h : AH) (z hi tx : Int → Int) (st ln : Int) (og : Int → Int) (hX : XA h base z hi tx st ln) (has hro : Int → Int) (th re du hsh : Int) (hMod : MA h (base + 127) z hi tx has hro st ln th re du hsh) (hO : h (base + 133) = some (eA 2 1 og)) (v : Int) (hth : r32 th) (hv : th = 0 → og 0 = sx v) (k : LG D tc base b p l e s m args below meth c cells slots Q j) : Wk D tc base 9 p l e room_1 s m args below meth c cells slots Q 651 [some (aR b), some (aR base), some (aR (base + 127)), some (aR (base + 133)), some (aI j), some (aI th), some (aI v), none, none] [] h := by
  refine k_aload_n C dL_law_651 rfl ?_
  refine k_callV C (ci := 8) (as := []) (rest := []) (n := 0) (ct_X8_thrown l D tc base (base + 127) z hi tx has hro st ln th re du hsh h hMod) ml_L_83 im_X8_thrown se_X8_thrown ini_X8 co_X8_thrown ⟨rfl, by decide, by decide, by decide +kernel⟩ rfl rfl hMod.1 ⟨by decide, by decide⟩ rfl (Nat.le_of_ble_eq_true rfl) hcc dL_law_652 ?_
  rintro r h2 ⟨rfl, rfl⟩
  refine k_iload C dL_law_655 rfl ?_
  refine k_icmp_same (tgt := 662) C dL_law_657 (by decide) ?_
  refine k_iload C dL_law_662 rfl ?_
  have kE : Wk D tc base 9 p l e room_1 s m args below meth c cells slots Q 679 [some (aR b), some (aR base), some (aR (base + 127)), some (aR (base + 133)), some (aI j), some (aI th), some (aI v), none, none] [] h := by
    refine k_goto (tgt := 1386) C dL_law_679 (by decide) ?_
    have q1 := k h z hi tx st ln og ⟨hX, ⟨_, _, _, _, _, _, hMod⟩, hO⟩
    exact k_sub q1 (And.intro rfl (And.intro rfl (And.intro rfl (And.intro rfl (And.intro rfl trivial)))))
  refine k_if_ne (tgt := 679) C dL_law_664 (by decide) hth (fun _ => kE) (fun c0 => ?_)
  refine k_aload_n C dL_law_667 rfl ?_
  refine k_iconst C dL_law_668 ?_
  refine k_laload C dL_law_669 hO (by omega) (by omega) (by omega) ?_
  refine k_iload C dL_law_670 rfl ?_
  refine k_i2l C dL_law_672 ?_
  refine k_lcmpNe C dL_law_673 (fun w hw he => ?_)
  exact k_if_eq (tgt := 679) C dL_law_674 (by decide) hw (fun _ => kE) (fun cw => absurd (he.mpr (by rw [hv c0])) cw)
set_option maxRecDepth 20000 in
set_option maxHeartbeats 2000000 in
theorem op_append {D : va_G} {tc : Nat → ClassId} {base : Nat} {p : Program} {l : Launch} {e : Env} {s : State} {m : MethodId} {args : Array Value} {below : List Frame} {meth : Method} {c : Code} {cells slots : Nat} {Q : State → Prop} (C : Cx D tc base RL cL_law 9 p s m args meth c) (hE : PE base s) {b LL : Nat} {xs : Nat → Int32} (hSc : Scr base b LL xs s) (hl : l.stackTraces = false) {j : Int} (hj : 0 ≤ j ∧ j + 4 ≤ LL) (hcc1 : cells + 1 ≤ room_1.cells ∧ slots + 6 ≤ room_1.slots) (h : AH) (z hi tx : Int → Int) (st ln : Int) (og : Int → Int) (hI : LI h base z hi tx st ln og) (k : LG D tc base b p l e s m args below meth c (cells + 1) (slots + 6) Q j) : Wk D tc base 9 p l e room_1 s m args below meth c cells slots Q 626 [some (aR b), some (aR base), some (aR (base + 127)), some (aR (base + 133)), some (aI j), none, none, none, none] [] h := by
  have hcc := hcc1
  obtain ⟨hX, ⟨has, hro, th, re, du, hsh, hMod0⟩, hO⟩ := hI
  obtain ⟨⟨fs, hfx⟩, hok, h13, hst, hln, htr⟩ := hX.fx
  have hj0 := hj.1
  have hj1 := hj.2
  have hr1 := sX_r xs (j + 1)
  by_cases c1 : 33 ≤ (sX xs (j + 1)) ∧ (sX xs (j + 1)) ≤ 126
  · by_cases c2 : ln < 60
    ·
      have hC := ct_X7_append l D tc base base z hi tx st ln h hX (sX xs (j + 1)) c1 c2
      have hW := wn_append l D tc base base (base + 133) og (sX xs (j + 1)) h _ 1 (by omega) hC fs hfx (fun r h' hp => ⟨_, hp.1, (hp.2.2 _ (by omega)).trans hO⟩)
      refine k_aload_n C dL_law_626 rfl ?_
      refine k_aload_n C dL_law_627 rfl ?_
      refine k_iload C dL_law_628 rfl ?_
      refine k_iconst C dL_law_630 ?_
      refine k_iadd C dL_law_631 ?_
      refine k_sld C hSc (by omega) (by omega) dL_law_632 ?_
      refine k_aload_n C dL_law_633 rfl ?_
      refine k_callW C hE (n := 3) (as := [aR base, aI (sX xs (j + 1)), aR (base + 133)]) (rest := []) hW ml_L_114 sm_L_append ini_L co_L_append ⟨by decide, by decide, by decide +kernel⟩ rfl ⟨by decide, by decide⟩ rfl (Nat.le_of_ble_eq_true rfl) hcc1 dL_law_634 ?_
      rintro r h2 ⟨rfl, v, h1, ⟨hv, hX1, hF1⟩, rfl⟩
      have hve := Sum.inl.inj (Option.some.inj hv)
      have hX2 := hX1.fr (h' := hs h1 (base + 133) (eA 2 1 (iu og 0 (sx v)))) (fun a a0 a1 => hs_ne (by omega) rfl)
      have hMod := hMod0.fr (h' := hs h1 (base + 133) (eA 2 1 (iu og 0 (sx v)))) (fun a a0 a1 => (hs_ne (by omega) rfl).trans (hF1 a (by omega)))
      have hO2 : hs h1 (base + 133) (eA 2 1 (iu og 0 (sx v))) (base + 133) = some (eA 2 1 (iu og 0 (sx v))) := hs_eq _ _ _
      refine k_istore C dL_law_637 (by decide) rfl ?_
      refine k_aload_n C dL_law_639 rfl ?_
      refine k_aload_n C dL_law_640 rfl ?_
      refine k_iload C dL_law_641 rfl ?_
      refine k_iconst C dL_law_643 ?_
      refine k_iadd C dL_law_644 ?_
      refine k_sld C hSc (by omega) (by omega) dL_law_645 ?_
      have hMM := CT.mono (post' := fun r h' => r = some (aI (ln + 1)) ∧ MA h' (base + 127) z hi (iu tx ln (sX xs (j + 1))) has hro st (ln + 1) 0 re du hsh ∧ Fr (hs h1 (base + 133) (eA 2 1 (iu og 0 (sx v)))) h' (base + 127) 6) (ct_X8_append l D tc base (base + 127) z hi tx has hro st ln th re du hsh (hs h1 (base + 133) (eA 2 1 (iu og 0 (sx v)))) hMod (sX xs (j + 1)) hr1 hln) (fun r h' hd => by rcases hd with ⟨cd, q⟩ | ⟨cd, q⟩ | ⟨cd, q⟩ <;> first | (exfalso; omega) | exact q)
      refine k_callV C (ci := 8) (as := [aI (sX xs (j + 1))]) (rest := []) (n := 1) hMM ml_L_116 im_X8_append se_X8_append ini_X8 co_X8_append ⟨rfl, by decide, by decide, by decide +kernel⟩ rfl rfl hMod.1 ⟨by decide, by decide⟩ rfl (Nat.le_of_ble_eq_true rfl) hcc dL_law_646 ?_
      rintro r h3 ⟨rfl, hM3, hF3⟩
      refine k_istore C dL_law_649 (by decide) rfl ?_
      exact tl_append C hcc h3 _ _ _ _ _ _ (hX2.fr (fun a a0 a1 => hF3 a (by omega))) _ _ _ _ _ _ hM3 ((hF3 (base + 133) (by omega)).trans hO2) _ ⟨by omega, by omega⟩ (fun _ => by rw [iu_eq, hve]) k
    ·
      have hC := tx_append2 l D tc base hl base z hi tx st ln h hX (sX xs (j + 1)) c1 (by omega)
      have hW := wt_append_2 l D tc base base (base + 133) (sX xs (j + 1)) h _ hC fs hfx
      refine k_aload_n C dL_law_626 rfl ?_
      refine k_aload_n C dL_law_627 rfl ?_
      refine k_iload C dL_law_628 rfl ?_
      refine k_iconst C dL_law_630 ?_
      refine k_iadd C dL_law_631 ?_
      refine k_sld C hSc (by omega) (by omega) dL_law_632 ?_
      refine k_aload_n C dL_law_633 rfl ?_
      refine k_callW C hE (n := 3) (as := [aR base, aI (sX xs (j + 1)), aR (base + 133)]) (rest := []) hW ml_L_114 sm_L_append ini_L co_L_append ⟨by decide, by decide, by decide +kernel⟩ rfl ⟨by decide, by decide⟩ rfl (Nat.le_of_ble_eq_true rfl) hcc1 dL_law_634 ?_
      rintro r h2 ⟨rfl, rfl⟩
      have hMod := hMod0
      have hX2 := hX
      have hO2 := hO
      refine k_istore C dL_law_637 (by decide) rfl ?_
      refine k_aload_n C dL_law_639 rfl ?_
      refine k_aload_n C dL_law_640 rfl ?_
      refine k_iload C dL_law_641 rfl ?_
      refine k_iconst C dL_law_643 ?_
      refine k_iadd C dL_law_644 ?_
      refine k_sld C hSc (by omega) (by omega) dL_law_645 ?_
      have hMM := CT.mono (post' := fun r h' => r = some (aI 0) ∧ MA h' (base + 127) z hi tx has hro st ln 2 re du hsh ∧ Fr h h' (base + 127) 6) (ct_X8_append l D tc base (base + 127) z hi tx has hro st ln th re du hsh h hMod (sX xs (j + 1)) hr1 hln) (fun r h' hd => by rcases hd with ⟨cd, q⟩ | ⟨cd, q⟩ | ⟨cd, q⟩ <;> first | (exfalso; omega) | exact q)
      refine k_callV C (ci := 8) (as := [aI (sX xs (j + 1))]) (rest := []) (n := 1) hMM ml_L_116 im_X8_append se_X8_append ini_X8 co_X8_append ⟨rfl, by decide, by decide, by decide +kernel⟩ rfl rfl hMod.1 ⟨by decide, by decide⟩ rfl (Nat.le_of_ble_eq_true rfl) hcc dL_law_646 ?_
      rintro r h3 ⟨rfl, hM3, hF3⟩
      refine k_istore C dL_law_649 (by decide) rfl ?_
      exact tl_append C hcc h3 _ _ _ _ _ _ (hX2.fr (fun a a0 a1 => hF3 a (by omega))) _ _ _ _ _ _ hM3 ((hF3 (base + 133) (by omega)).trans hO2) _ ⟨by omega, by omega⟩ (fun q => by omega) k
  ·
    have hC := tx_append1 l D tc base hl base (sX xs (j + 1)) h hr1 c1
    have hW := wt_append_1 l D tc base base (base + 133) (sX xs (j + 1)) h _ hC fs hfx
    refine k_aload_n C dL_law_626 rfl ?_
    refine k_aload_n C dL_law_627 rfl ?_
    refine k_iload C dL_law_628 rfl ?_
    refine k_iconst C dL_law_630 ?_
    refine k_iadd C dL_law_631 ?_
    refine k_sld C hSc (by omega) (by omega) dL_law_632 ?_
    refine k_aload_n C dL_law_633 rfl ?_
    refine k_callW C hE (n := 3) (as := [aR base, aI (sX xs (j + 1)), aR (base + 133)]) (rest := []) hW ml_L_114 sm_L_append ini_L co_L_append ⟨by decide, by decide, by decide +kernel⟩ rfl ⟨by decide, by decide⟩ rfl (Nat.le_of_ble_eq_true rfl) hcc1 dL_law_634 ?_
    rintro r h2 ⟨rfl, rfl⟩
    have hMod := hMod0
    have hX2 := hX
    have hO2 := hO
    refine k_istore C dL_law_637 (by decide) rfl ?_
    refine k_aload_n C dL_law_639 rfl ?_
    refine k_aload_n C dL_law_640 rfl ?_
    refine k_iload C dL_law_641 rfl ?_
    refine k_iconst C dL_law_643 ?_
    refine k_iadd C dL_law_644 ?_
    refine k_sld C hSc (by omega) (by omega) dL_law_645 ?_
    have hMM := CT.mono (post' := fun r h' => r = some (aI 0) ∧ MA h' (base + 127) z hi tx has hro st ln 1 re du hsh ∧ Fr h h' (base + 127) 6) (ct_X8_append l D tc base (base + 127) z hi tx has hro st ln th re du hsh h hMod (sX xs (j + 1)) hr1 hln) (fun r h' hd => by rcases hd with ⟨cd, q⟩ | ⟨cd, q⟩ | ⟨cd, q⟩ <;> first | (exfalso; omega) | exact q)
    refine k_callV C (ci := 8) (as := [aI (sX xs (j + 1))]) (rest := []) (n := 1) hMM ml_L_116 im_X8_append se_X8_append ini_X8 co_X8_append ⟨rfl, by decide, by decide, by decide +kernel⟩ rfl rfl hMod.1 ⟨by decide, by decide⟩ rfl (Nat.le_of_ble_eq_true rfl) hcc dL_law_646 ?_
    rintro r h3 ⟨rfl, hM3, hF3⟩
    refine k_istore C dL_law_649 (by decide) rfl ?_
    exact tl_append C hcc h3 _ _ _ _ _ _ (hX2.fr (fun a a0 a1 => hF3 a (by omega))) _ _ _ _ _ _ hM3 ((hF3 (base + 133) (by omega)).trans hO2) _ ⟨by omega, by omega⟩ (fun q => by omega) k
set_option maxRecDepth 20000 in
set_option maxHeartbeats 1000000 in
theorem tl_load {D : va_G} {tc : Nat → ClassId} {base : Nat} {p : Program} {l : Launch} {e : Env} {s : State} {m : MethodId} {args : Array Value} {below : List Frame} {meth : Method} {c : Code} {cells slots : Nat} {Q : State → Prop} (C : Cx D tc base RL cL_law 9 p s m args meth c) {b : Nat} {j : Int} (hcc : cells ≤ room_1.cells ∧ slots ≤ room_1.slots) (h : AH) (z hi tx : Int → Int) (st ln : Int) (og : Int → Int) (hX : XA h base z hi tx st ln) (has hro : Int → Int) (th re du hsh : Int) (hMod : MA h (base + 127) z hi tx has hro st ln th re du hsh) (hO : h (base + 133) = some (eA 2 1 og)) (v : Int) (hth : r32 th) (hv : th = 0 → og 0 = sx v) (k : LG D tc base b p l e s m args below meth c cells slots Q j) : Wk D tc base 9 p l e room_1 s m args below meth c cells slots Q 721 [some (aR b), some (aR base), some (aR (base + 127)), some (aR (base + 133)), some (aI j), some (aI th), some (aI v), none, none] [] h := by
  refine k_aload_n C dL_law_721 rfl ?_
  refine k_callV C (ci := 8) (as := []) (rest := []) (n := 0) (ct_X8_thrown l D tc base (base + 127) z hi tx has hro st ln th re du hsh h hMod) ml_L_83 im_X8_thrown se_X8_thrown ini_X8 co_X8_thrown ⟨rfl, by decide, by decide, by decide +kernel⟩ rfl rfl hMod.1 ⟨by decide, by decide⟩ rfl (Nat.le_of_ble_eq_true rfl) hcc dL_law_722 ?_
  rintro r h2 ⟨rfl, rfl⟩
  refine k_iload C dL_law_725 rfl ?_
  refine k_icmp_same (tgt := 732) C dL_law_727 (by decide) ?_
  refine k_iload C dL_law_732 rfl ?_
  have kE : Wk D tc base 9 p l e room_1 s m args below meth c cells slots Q 749 [some (aR b), some (aR base), some (aR (base + 127)), some (aR (base + 133)), some (aI j), some (aI th), some (aI v), none, none] [] h := by
    refine k_goto (tgt := 1386) C dL_law_749 (by decide) ?_
    have q1 := k h z hi tx st ln og ⟨hX, ⟨_, _, _, _, _, _, hMod⟩, hO⟩
    exact k_sub q1 (And.intro rfl (And.intro rfl (And.intro rfl (And.intro rfl (And.intro rfl trivial)))))
  refine k_if_ne (tgt := 749) C dL_law_734 (by decide) hth (fun _ => kE) (fun c0 => ?_)
  refine k_aload_n C dL_law_737 rfl ?_
  refine k_iconst C dL_law_738 ?_
  refine k_laload C dL_law_739 hO (by omega) (by omega) (by omega) ?_
  refine k_iload C dL_law_740 rfl ?_
  refine k_i2l C dL_law_742 ?_
  refine k_lcmpNe C dL_law_743 (fun w hw he => ?_)
  exact k_if_eq (tgt := 749) C dL_law_744 (by decide) hw (fun _ => kE) (fun cw => absurd (he.mpr (by rw [hv c0])) cw)
set_option maxRecDepth 20000 in
set_option maxHeartbeats 2000000 in
theorem op_load {D : va_G} {tc : Nat → ClassId} {base : Nat} {p : Program} {l : Launch} {e : Env} {s : State} {m : MethodId} {args : Array Value} {below : List Frame} {meth : Method} {c : Code} {cells slots : Nat} {Q : State → Prop} (C : Cx D tc base RL cL_law 9 p s m args meth c) (hE : PE base s) {b LL : Nat} {xs : Nat → Int32} (hSc : Scr base b LL xs s) (hl : l.stackTraces = false) {j : Int} (hj : 0 ≤ j ∧ j + 4 ≤ LL) (hcc1 : cells + 1 ≤ room_1.cells ∧ slots + 6 ≤ room_1.slots) (h : AH) (z hi tx : Int → Int) (st ln : Int) (og : Int → Int) (hI : LI h base z hi tx st ln og) (k : LG D tc base b p l e s m args below meth c (cells + 1) (slots + 6) Q j) : Wk D tc base 9 p l e room_1 s m args below meth c cells slots Q 708 [some (aR b), some (aR base), some (aR (base + 127)), some (aR (base + 133)), some (aI j), none, none, none, none] [] h := by
  have hcc := hcc1
  obtain ⟨hX, ⟨has, hro, th, re, du, hsh, hMod0⟩, hO⟩ := hI
  obtain ⟨⟨fs, hfx⟩, hok, h13, hst, hln, htr⟩ := hX.fx
  have hj0 := hj.1
  have hj1 := hj.2
  by_cases c1 : pWhole tx hro ln.toNat
  · by_cases c2 : (pS tx hro ln.toNat).1 + 1 ≤ 6
    ·
      have hC := ct_X7_load l D tc base base z hi tx st ln h hX hro c1 c2
      have hW := wn_load l D tc base base (base + 133) og h _ 5 (by omega) hC fs hfx (fun r h' hp => ⟨_, hp.1, (hp.2.2 _ (by omega)).trans hO⟩)
      refine k_aload_n C dL_law_708 rfl ?_
      refine k_aload_n C dL_law_709 rfl ?_
      refine k_callW C hE (n := 2) (as := [aR base, aR (base + 133)]) (rest := []) hW ml_L_125 sm_L_load ini_L co_L_load ⟨by decide, by decide, by decide +kernel⟩ rfl ⟨by decide, by decide⟩ rfl (Nat.le_of_ble_eq_true rfl) hcc1 dL_law_710 ?_
      rintro r h2 ⟨rfl, v, h1, ⟨hv, hX1, hF1⟩, rfl⟩
      have hve := Sum.inl.inj (Option.some.inj hv)
      have hX2 := hX1.fr (h' := hs h1 (base + 133) (eA 2 1 (iu og 0 (sx v)))) (fun a a0 a1 => hs_ne (by omega) rfl)
      have hMod := hMod0.fr (h' := hs h1 (base + 133) (eA 2 1 (iu og 0 (sx v)))) (fun a a0 a1 => (hs_ne (by omega) rfl).trans (hF1 a (by omega)))
      have hO2 : hs h1 (base + 133) (eA 2 1 (iu og 0 (sx v))) (base + 133) = some (eA 2 1 (iu og 0 (sx v))) := hs_eq _ _ _
      refine k_istore C dL_law_713 (by decide) rfl ?_
      refine k_aload_n C dL_law_715 rfl ?_
      have hMM := CT.mono (post' := fun r h' => r = some (aI ((pS tx hro ln.toNat).1 + 1)) ∧ MA h' (base + 127) (zLd z (pS tx hro ln.toNat).2.2 ((pS tx hro ln.toNat).1 + 1).toNat) (sHi z hi st) tx has (pS tx hro ln.toNat).2.2 (sSt st) 0 0 (pS tx hro ln.toNat).1 (pS tx hro ln.toNat).2.1 hsh ∧ Fr (hs h1 (base + 133) (eA 2 1 (iu og 0 (sx v)))) h' (base + 127) 6) (ct_X8_load l D tc base (base + 127) z hi tx has hro st ln th re du hsh (hs h1 (base + 133) (eA 2 1 (iu og 0 (sx v)))) hMod  hst hln htr) (fun r h' hd => by rcases hd with ⟨cd, ce, q⟩ | ⟨cd, q⟩ | ⟨cd, ce, q⟩ <;> first | exact absurd c1 cd | exact absurd cd c1 | exact absurd c2 ce | exact absurd ce c2 | exact q)
      refine k_callV C (ci := 8) (as := []) (rest := []) (n := 0) hMM ml_L_128 im_X8_load se_X8_load ini_X8 co_X8_load ⟨rfl, by decide, by decide, by decide +kernel⟩ rfl rfl hMod.1 ⟨by decide, by decide⟩ rfl (Nat.le_of_ble_eq_true rfl) hcc dL_law_716 ?_
      rintro r h3 ⟨rfl, hM3, hF3⟩
      refine k_istore C dL_law_719 (by decide) rfl ?_
      exact tl_load C hcc h3 _ _ _ _ _ _ (hX2.fr (fun a a0 a1 => hF3 a (by omega))) _ _ _ _ _ _ hM3 ((hF3 (base + 133) (by omega)).trans hO2) _ ⟨by omega, by omega⟩ (fun _ => by rw [iu_eq, hve]) k
    ·
      have hC := tx_load2 l D tc base hl base z hi tx st ln h hX hro c1 c2
      have hW := wt_load_2 l D tc base base (base + 133) h _ hC fs hfx
      refine k_aload_n C dL_law_708 rfl ?_
      refine k_aload_n C dL_law_709 rfl ?_
      refine k_callW C hE (n := 2) (as := [aR base, aR (base + 133)]) (rest := []) hW ml_L_125 sm_L_load ini_L co_L_load ⟨by decide, by decide, by decide +kernel⟩ rfl ⟨by decide, by decide⟩ rfl (Nat.le_of_ble_eq_true rfl) hcc1 dL_law_710 ?_
      rintro r h2 ⟨rfl, ⟨hX1, hF1⟩⟩
      have hMod := hMod0.fr (fun a a0 a1 => hF1 a (by omega))
      have hX2 := hX1
      have hO2 := (hF1 (base + 133) (by omega)).trans hO
      refine k_istore C dL_law_713 (by decide) rfl ?_
      refine k_aload_n C dL_law_715 rfl ?_
      have hMM := CT.mono (post' := fun r h' => r = some (aI 0) ∧ (∃ (rex dux : Int) (hrx : Int → Int), MA h' (base + 127) z hi tx has hrx st ln 2 rex dux hsh) ∧ Fr h2 h' (base + 127) 6) (ct_X8_load l D tc base (base + 127) z hi tx has hro st ln th re du hsh h2 hMod  hst hln htr) (fun r h' hd => by rcases hd with ⟨cd, ce, q⟩ | ⟨cd, q⟩ | ⟨cd, ce, q⟩ <;> first | exact absurd c1 cd | exact absurd cd c1 | exact absurd c2 ce | exact absurd ce c2 | exact q)
      refine k_callV C (ci := 8) (as := []) (rest := []) (n := 0) hMM ml_L_128 im_X8_load se_X8_load ini_X8 co_X8_load ⟨rfl, by decide, by decide, by decide +kernel⟩ rfl rfl hMod.1 ⟨by decide, by decide⟩ rfl (Nat.le_of_ble_eq_true rfl) hcc dL_law_716 ?_
      rintro r h3 ⟨rfl, ⟨rex, dux, hrx, hM3⟩, hF3⟩
      refine k_istore C dL_law_719 (by decide) rfl ?_
      exact tl_load C hcc h3 _ _ _ _ _ _ (hX2.fr (fun a a0 a1 => hF3 a (by omega))) _ _ _ _ _ _ hM3 ((hF3 (base + 133) (by omega)).trans hO2) _ ⟨by omega, by omega⟩ (fun q => by omega) k
  ·
    have hC := tx_load1 l D tc base hl base z hi tx st ln h hX hro c1
    have hW := wt_load_1 l D tc base base (base + 133) h _ hC fs hfx
    refine k_aload_n C dL_law_708 rfl ?_
    refine k_aload_n C dL_law_709 rfl ?_
    refine k_callW C hE (n := 2) (as := [aR base, aR (base + 133)]) (rest := []) hW ml_L_125 sm_L_load ini_L co_L_load ⟨by decide, by decide, by decide +kernel⟩ rfl ⟨by decide, by decide⟩ rfl (Nat.le_of_ble_eq_true rfl) hcc1 dL_law_710 ?_
    rintro r h2 ⟨rfl, ⟨hX1, hF1⟩⟩
    have hMod := hMod0.fr (fun a a0 a1 => hF1 a (by omega))
    have hX2 := hX1
    have hO2 := (hF1 (base + 133) (by omega)).trans hO
    refine k_istore C dL_law_713 (by decide) rfl ?_
    refine k_aload_n C dL_law_715 rfl ?_
    have hMM := CT.mono (post' := fun r h' => r = some (aI 0) ∧ (∃ (rex dux : Int) (hrx : Int → Int), MA h' (base + 127) z hi tx has hrx st ln 1 rex dux hsh) ∧ Fr h2 h' (base + 127) 6) (ct_X8_load l D tc base (base + 127) z hi tx has hro st ln th re du hsh h2 hMod  hst hln htr) (fun r h' hd => by rcases hd with ⟨cd, ce, q⟩ | ⟨cd, q⟩ | ⟨cd, ce, q⟩ <;> first | exact absurd c1 cd | exact absurd cd c1 | exact q)
    refine k_callV C (ci := 8) (as := []) (rest := []) (n := 0) hMM ml_L_128 im_X8_load se_X8_load ini_X8 co_X8_load ⟨rfl, by decide, by decide, by decide +kernel⟩ rfl rfl hMod.1 ⟨by decide, by decide⟩ rfl (Nat.le_of_ble_eq_true rfl) hcc dL_law_716 ?_
    rintro r h3 ⟨rfl, ⟨rex, dux, hrx, hM3⟩, hF3⟩
    refine k_istore C dL_law_719 (by decide) rfl ?_
    exact tl_load C hcc h3 _ _ _ _ _ _ (hX2.fr (fun a a0 a1 => hF3 a (by omega))) _ _ _ _ _ _ hM3 ((hF3 (base + 133) (by omega)).trans hO2) _ ⟨by omega, by omega⟩ (fun q => by omega) k
set_option maxRecDepth 20000 in
set_option maxHeartbeats 1000000 in
theorem tl_undo {D : va_G} {tc : Nat → ClassId} {base : Nat} {p : Program} {l : Launch} {e : Env} {s : State} {m : MethodId} {args : Array Value} {below : List Frame} {meth : Method} {c : Code} {cells slots : Nat} {Q : State → Prop} (C : Cx D tc base RL cL_law 9 p s m args meth c) {b : Nat} {j : Int} (hcc : cells ≤ room_1.cells ∧ slots ≤ room_1.slots) (h : AH) (z hi tx : Int → Int) (st ln : Int) (og : Int → Int) (hX : XA h base z hi tx st ln) (has hro : Int → Int) (th re du hsh : Int) (hMod : MA h (base + 127) z hi tx has hro st ln th re du hsh) (hO : h (base + 133) = some (eA 2 1 og)) (v : Int) (hth : r32 th) (hv : th = 0 → og 0 = sx v) (k : LG D tc base b p l e s m args below meth c cells slots Q j) : Wk D tc base 9 p l e room_1 s m args below meth c cells slots Q 765 [some (aR b), some (aR base), some (aR (base + 127)), some (aR (base + 133)), some (aI j), some (aI th), some (aI v), none, none] [] h := by
  refine k_aload_n C dL_law_765 rfl ?_
  refine k_callV C (ci := 8) (as := []) (rest := []) (n := 0) (ct_X8_thrown l D tc base (base + 127) z hi tx has hro st ln th re du hsh h hMod) ml_L_83 im_X8_thrown se_X8_thrown ini_X8 co_X8_thrown ⟨rfl, by decide, by decide, by decide +kernel⟩ rfl rfl hMod.1 ⟨by decide, by decide⟩ rfl (Nat.le_of_ble_eq_true rfl) hcc dL_law_766 ?_
  rintro r h2 ⟨rfl, rfl⟩
  refine k_iload C dL_law_769 rfl ?_
  refine k_icmp_same (tgt := 776) C dL_law_771 (by decide) ?_
  refine k_iload C dL_law_776 rfl ?_
  have kE : Wk D tc base 9 p l e room_1 s m args below meth c cells slots Q 793 [some (aR b), some (aR base), some (aR (base + 127)), some (aR (base + 133)), some (aI j), some (aI th), some (aI v), none, none] [] h := by
    refine k_goto (tgt := 1386) C dL_law_793 (by decide) ?_
    have q1 := k h z hi tx st ln og ⟨hX, ⟨_, _, _, _, _, _, hMod⟩, hO⟩
    exact k_sub q1 (And.intro rfl (And.intro rfl (And.intro rfl (And.intro rfl (And.intro rfl trivial)))))
  refine k_if_ne (tgt := 793) C dL_law_778 (by decide) hth (fun _ => kE) (fun c0 => ?_)
  refine k_aload_n C dL_law_781 rfl ?_
  refine k_iconst C dL_law_782 ?_
  refine k_laload C dL_law_783 hO (by omega) (by omega) (by omega) ?_
  refine k_iload C dL_law_784 rfl ?_
  refine k_i2l C dL_law_786 ?_
  refine k_lcmpNe C dL_law_787 (fun w hw he => ?_)
  exact k_if_eq (tgt := 793) C dL_law_788 (by decide) hw (fun _ => kE) (fun cw => absurd (he.mpr (by rw [hv c0])) cw)
set_option maxRecDepth 20000 in
set_option maxHeartbeats 2000000 in
theorem op_undo {D : va_G} {tc : Nat → ClassId} {base : Nat} {p : Program} {l : Launch} {e : Env} {s : State} {m : MethodId} {args : Array Value} {below : List Frame} {meth : Method} {c : Code} {cells slots : Nat} {Q : State → Prop} (C : Cx D tc base RL cL_law 9 p s m args meth c) (hE : PE base s) {b LL : Nat} {xs : Nat → Int32} (hSc : Scr base b LL xs s) (hl : l.stackTraces = false) {j : Int} (hj : 0 ≤ j ∧ j + 4 ≤ LL) (hcc1 : cells + 1 ≤ room_1.cells ∧ slots + 6 ≤ room_1.slots) (h : AH) (z hi tx : Int → Int) (st ln : Int) (og : Int → Int) (hI : LI h base z hi tx st ln og) (k : LG D tc base b p l e s m args below meth c (cells + 1) (slots + 6) Q j) : Wk D tc base 9 p l e room_1 s m args below meth c cells slots Q 752 [some (aR b), some (aR base), some (aR (base + 127)), some (aR (base + 133)), some (aI j), none, none, none, none] [] h := by
  have hcc := hcc1
  obtain ⟨hX, ⟨has, hro, th, re, du, hsh, hMod0⟩, hO⟩ := hI
  obtain ⟨⟨fs, hfx⟩, hok, h13, hst, hln, htr⟩ := hX.fx
  have hj0 := hj.1
  have hj1 := hj.2
  by_cases c1 : 1 ≤ st
  ·
    have hC := ct_X7_undo l D tc base base z hi tx st ln h hX  c1
    have hW := wn_undo l D tc base base (base + 133) og h _ 4 (by omega) hC fs hfx (fun r h' hp => ⟨_, hp.1, (hp.2.2 _ (by omega)).trans hO⟩)
    refine k_aload_n C dL_law_752 rfl ?_
    refine k_aload_n C dL_law_753 rfl ?_
    refine k_callW C hE (n := 2) (as := [aR base, aR (base + 133)]) (rest := []) hW ml_L_129 sm_L_undo ini_L co_L_undo ⟨by decide, by decide, by decide +kernel⟩ rfl ⟨by decide, by decide⟩ rfl (Nat.le_of_ble_eq_true rfl) hcc1 dL_law_754 ?_
    rintro r h2 ⟨rfl, v, h1, ⟨hv, hX1, hF1⟩, rfl⟩
    have hve := Sum.inl.inj (Option.some.inj hv)
    have hX2 := hX1.fr (h' := hs h1 (base + 133) (eA 2 1 (iu og 0 (sx v)))) (fun a a0 a1 => hs_ne (by omega) rfl)
    have hMod := hMod0.fr (h' := hs h1 (base + 133) (eA 2 1 (iu og 0 (sx v)))) (fun a a0 a1 => (hs_ne (by omega) rfl).trans (hF1 a (by omega)))
    have hO2 : hs h1 (base + 133) (eA 2 1 (iu og 0 (sx v))) (base + 133) = some (eA 2 1 (iu og 0 (sx v))) := hs_eq _ _ _
    refine k_istore C dL_law_757 (by decide) rfl ?_
    refine k_aload_n C dL_law_759 rfl ?_
    have hMM := CT.mono (post' := fun r h' => r = some (aI (st - 1)) ∧ MA h' (base + 127) (hRow hi (st - 1).toNat) hi tx has hro (st - 1) ln 0 re du hsh ∧ Fr (hs h1 (base + 133) (eA 2 1 (iu og 0 (sx v)))) h' (base + 127) 6) (ct_X8_undo l D tc base (base + 127) z hi tx has hro st ln th re du hsh (hs h1 (base + 133) (eA 2 1 (iu og 0 (sx v)))) hMod  hst (hRow hi (st - 1).toNat) (fun c jj _ _ => by show _ = hi (67 * (((st - 1).toNat : Nat) : Int) + jj); rw [show (((st - 1).toNat : Nat) : Int) = st - 1 by omega])) (fun r h' hd => by rcases hd with ⟨cd, q⟩ | ⟨cd, q⟩ <;> first | (exfalso; omega) | exact q)
    refine k_callV C (ci := 8) (as := []) (rest := []) (n := 0) hMM ml_L_131 im_X8_undo se_X8_undo ini_X8 co_X8_undo ⟨rfl, by decide, by decide, by decide +kernel⟩ rfl rfl hMod.1 ⟨by decide, by decide⟩ rfl (Nat.le_of_ble_eq_true rfl) hcc dL_law_760 ?_
    rintro r h3 ⟨rfl, hM3, hF3⟩
    refine k_istore C dL_law_763 (by decide) rfl ?_
    exact tl_undo C hcc h3 _ _ _ _ _ _ (hX2.fr (fun a a0 a1 => hF3 a (by omega))) _ _ _ _ _ _ hM3 ((hF3 (base + 133) (by omega)).trans hO2) _ ⟨by omega, by omega⟩ (fun _ => by rw [iu_eq, hve]) k
  ·
    have hC := tx_undo l D tc base hl base z hi tx st ln h hX (by omega)
    have hW := wt_undo_1 l D tc base base (base + 133) h _ hC fs hfx
    refine k_aload_n C dL_law_752 rfl ?_
    refine k_aload_n C dL_law_753 rfl ?_
    refine k_callW C hE (n := 2) (as := [aR base, aR (base + 133)]) (rest := []) hW ml_L_129 sm_L_undo ini_L co_L_undo ⟨by decide, by decide, by decide +kernel⟩ rfl ⟨by decide, by decide⟩ rfl (Nat.le_of_ble_eq_true rfl) hcc1 dL_law_754 ?_
    rintro r h2 ⟨rfl, rfl⟩
    have hMod := hMod0
    have hX2 := hX
    have hO2 := hO
    refine k_istore C dL_law_757 (by decide) rfl ?_
    refine k_aload_n C dL_law_759 rfl ?_
    have hMM := CT.mono (post' := fun r h' => r = some (aI 0) ∧ MA h' (base + 127) z hi tx has hro st ln 1 re du hsh ∧ Fr h h' (base + 127) 6) (ct_X8_undo l D tc base (base + 127) z hi tx has hro st ln th re du hsh h hMod  hst (hRow hi (st - 1).toNat) (fun c jj _ _ => by show _ = hi (67 * (((st - 1).toNat : Nat) : Int) + jj); rw [show (((st - 1).toNat : Nat) : Int) = st - 1 by omega])) (fun r h' hd => by rcases hd with ⟨cd, q⟩ | ⟨cd, q⟩ <;> first | (exfalso; omega) | exact q)
    refine k_callV C (ci := 8) (as := []) (rest := []) (n := 0) hMM ml_L_131 im_X8_undo se_X8_undo ini_X8 co_X8_undo ⟨rfl, by decide, by decide, by decide +kernel⟩ rfl rfl hMod.1 ⟨by decide, by decide⟩ rfl (Nat.le_of_ble_eq_true rfl) hcc dL_law_760 ?_
    rintro r h3 ⟨rfl, hM3, hF3⟩
    refine k_istore C dL_law_763 (by decide) rfl ?_
    exact tl_undo C hcc h3 _ _ _ _ _ _ (hX2.fr (fun a a0 a1 => hF3 a (by omega))) _ _ _ _ _ _ hM3 ((hF3 (base + 133) (by omega)).trans hO2) _ ⟨by omega, by omega⟩ (fun q => by omega) k
set_option maxRecDepth 20000 in
set_option maxHeartbeats 1000000 in
theorem tl_weight {D : va_G} {tc : Nat → ClassId} {base : Nat} {p : Program} {l : Launch} {e : Env} {s : State} {m : MethodId} {args : Array Value} {below : List Frame} {meth : Method} {c : Code} {cells slots : Nat} {Q : State → Prop} (C : Cx D tc base RL cL_law 9 p s m args meth c) {b : Nat} {j : Int} (hcc : cells ≤ room_1.cells ∧ slots ≤ room_1.slots) (h : AH) (z hi tx : Int → Int) (st ln : Int) (og : Int → Int) (hX : XA h base z hi tx st ln) (has hro : Int → Int) (th re du hsh : Int) (hMod : MA h (base + 127) z hi tx has hro st ln th re du hsh) (hO : h (base + 133) = some (eA 2 1 og)) (v : Int) (hth : r32 th) (hv : th = 0 → og 0 = sx v) (k : LG D tc base b p l e s m args below meth c cells slots Q j) : Wk D tc base 9 p l e room_1 s m args below meth c cells slots Q 833 [some (aR b), some (aR base), some (aR (base + 127)), some (aR (base + 133)), some (aI j), some (aI th), some (aI v), none, none] [] h := by
  refine k_aload_n C dL_law_833 rfl ?_
  refine k_callV C (ci := 8) (as := []) (rest := []) (n := 0) (ct_X8_thrown l D tc base (base + 127) z hi tx has hro st ln th re du hsh h hMod) ml_L_83 im_X8_thrown se_X8_thrown ini_X8 co_X8_thrown ⟨rfl, by decide, by decide, by decide +kernel⟩ rfl rfl hMod.1 ⟨by decide, by decide⟩ rfl (Nat.le_of_ble_eq_true rfl) hcc dL_law_834 ?_
  rintro r h2 ⟨rfl, rfl⟩
  refine k_iload C dL_law_837 rfl ?_
  refine k_icmp_same (tgt := 844) C dL_law_839 (by decide) ?_
  refine k_iload C dL_law_844 rfl ?_
  have kE : Wk D tc base 9 p l e room_1 s m args below meth c cells slots Q 861 [some (aR b), some (aR base), some (aR (base + 127)), some (aR (base + 133)), some (aI j), some (aI th), some (aI v), none, none] [] h := by
    refine k_goto (tgt := 1386) C dL_law_861 (by decide) ?_
    have q1 := k h z hi tx st ln og ⟨hX, ⟨_, _, _, _, _, _, hMod⟩, hO⟩
    exact k_sub q1 (And.intro rfl (And.intro rfl (And.intro rfl (And.intro rfl (And.intro rfl trivial)))))
  refine k_if_ne (tgt := 861) C dL_law_846 (by decide) hth (fun _ => kE) (fun c0 => ?_)
  refine k_aload_n C dL_law_849 rfl ?_
  refine k_iconst C dL_law_850 ?_
  refine k_laload C dL_law_851 hO (by omega) (by omega) (by omega) ?_
  refine k_iload C dL_law_852 rfl ?_
  refine k_i2l C dL_law_854 ?_
  refine k_lcmpNe C dL_law_855 (fun w hw he => ?_)
  exact k_if_eq (tgt := 861) C dL_law_856 (by decide) hw (fun _ => kE) (fun cw => absurd (he.mpr (by rw [hv c0])) cw)
set_option maxRecDepth 20000 in
set_option maxHeartbeats 2000000 in
theorem op_weight {D : va_G} {tc : Nat → ClassId} {base : Nat} {p : Program} {l : Launch} {e : Env} {s : State} {m : MethodId} {args : Array Value} {below : List Frame} {meth : Method} {c : Code} {cells slots : Nat} {Q : State → Prop} (C : Cx D tc base RL cL_law 9 p s m args meth c) (hE : PE base s) {b LL : Nat} {xs : Nat → Int32} (hSc : Scr base b LL xs s) (hl : l.stackTraces = false) {j : Int} (hj : 0 ≤ j ∧ j + 4 ≤ LL) (hcc1 : cells + 1 ≤ room_1.cells ∧ slots + 6 ≤ room_1.slots) (h : AH) (z hi tx : Int → Int) (st ln : Int) (og : Int → Int) (hI : LI h base z hi tx st ln og) (k : LG D tc base b p l e s m args below meth c (cells + 1) (slots + 6) Q j) : Wk D tc base 9 p l e room_1 s m args below meth c cells slots Q 796 [some (aR b), some (aR base), some (aR (base + 127)), some (aR (base + 133)), some (aI j), none, none, none, none] [] h := by
  have hcc := hcc1
  obtain ⟨hX, ⟨has, hro, th, re, du, hsh, hMod0⟩, hO⟩ := hI
  obtain ⟨⟨fs, hfx⟩, hok, h13, hst, hln, htr⟩ := hX.fx
  have hj0 := hj.1
  have hj1 := hj.2
  have hr1 := sX_r xs (j + 1)
  have hr2 := sX_r xs (j + 2)
  by_cases c1 : 0 ≤ (sX xs (j + 1)) ∧ (sX xs (j + 1)) ≤ 2
  · by_cases c2 : 0 ≤ (sX xs (j + 2)) ∧ (sX xs (j + 2)) ≤ 2
    ·
      have hC := ct_X7_weight l D tc base base z hi tx st ln h hX (sX xs (j + 1)) (sX xs (j + 2)) c1 c2
      have hW := wn_weight l D tc base base (base + 133) og (sX xs (j + 1)) (sX xs (j + 2)) h _ 1 (by omega) hC fs hfx (fun r h' hp => ⟨_, hp.1, by rw [← hp.2]; exact hO⟩)
      refine k_aload_n C dL_law_796 rfl ?_
      refine k_aload_n C dL_law_797 rfl ?_
      refine k_iload C dL_law_798 rfl ?_
      refine k_iconst C dL_law_800 ?_
      refine k_iadd C dL_law_801 ?_
      refine k_sld C hSc (by omega) (by omega) dL_law_802 ?_
      refine k_aload_n C dL_law_803 rfl ?_
      refine k_iload C dL_law_804 rfl ?_
      refine k_iconst C dL_law_806 ?_
      refine k_iadd C dL_law_807 ?_
      refine k_sld C hSc (by omega) (by omega) dL_law_808 ?_
      refine k_aload_n C dL_law_809 rfl ?_
      refine k_callW C hE (n := 4) (as := [aR base, aI (sX xs (j + 1)), aI (sX xs (j + 2)), aR (base + 133)]) (rest := []) hW ml_L_132 sm_L_weight ini_L co_L_weight ⟨by decide, by decide, by decide +kernel⟩ rfl ⟨by decide, by decide⟩ rfl (Nat.le_of_ble_eq_true rfl) hcc1 dL_law_810 ?_
      rintro r h2 ⟨rfl, v, h1, ⟨hv, hhq⟩, rfl⟩
      have hve := Sum.inl.inj (Option.some.inj hv)
      have hX1 : XA h1 base z hi tx st ln := by rw [← hhq]; exact hX
      have hF1 : Fr h h1 base 127 := by rw [← hhq]; exact Fr.rf _ _ _
      have hX2 := hX1.fr (h' := hs h1 (base + 133) (eA 2 1 (iu og 0 (sx v)))) (fun a a0 a1 => hs_ne (by omega) rfl)
      have hMod := hMod0.fr (h' := hs h1 (base + 133) (eA 2 1 (iu og 0 (sx v)))) (fun a a0 a1 => (hs_ne (by omega) rfl).trans (hF1 a (by omega)))
      have hO2 : hs h1 (base + 133) (eA 2 1 (iu og 0 (sx v))) (base + 133) = some (eA 2 1 (iu og 0 (sx v))) := hs_eq _ _ _
      refine k_istore C dL_law_813 (by decide) rfl ?_
      refine k_aload_n C dL_law_815 rfl ?_
      refine k_aload_n C dL_law_816 rfl ?_
      refine k_iload C dL_law_817 rfl ?_
      refine k_iconst C dL_law_819 ?_
      refine k_iadd C dL_law_820 ?_
      refine k_sld C hSc (by omega) (by omega) dL_law_821 ?_
      refine k_aload_n C dL_law_822 rfl ?_
      refine k_iload C dL_law_823 rfl ?_
      refine k_iconst C dL_law_825 ?_
      refine k_iadd C dL_law_826 ?_
      refine k_sld C hSc (by omega) (by omega) dL_law_827 ?_
      have hMM := CT.mono (post' := fun r h' => r = some (aI (z (3 * (sX xs (j + 2)) + (sX xs (j + 1))))) ∧ MA h' (base + 127) z hi tx has hro st ln 0 re du hsh ∧ Fr (hs h1 (base + 133) (eA 2 1 (iu og 0 (sx v)))) h' (base + 127) 6) (ct_X8_weight l D tc base (base + 127) z hi tx has hro st ln th re du hsh (hs h1 (base + 133) (eA 2 1 (iu og 0 (sx v)))) hMod (sX xs (j + 1)) (sX xs (j + 2)) hr1 hr2) (fun r h' hd => by rcases hd with ⟨cd, q⟩ | ⟨cd, q⟩ | ⟨cd, q⟩ <;> first | (exfalso; omega) | exact q)
      refine k_callV C (ci := 8) (as := [aI (sX xs (j + 1)), aI (sX xs (j + 2))]) (rest := []) (n := 2) hMM ml_L_134 im_X8_weight se_X8_weight ini_X8 co_X8_weight ⟨rfl, by decide, by decide, by decide +kernel⟩ rfl rfl hMod.1 ⟨by decide, by decide⟩ rfl (Nat.le_of_ble_eq_true rfl) hcc dL_law_828 ?_
      rintro r h3 ⟨rfl, hM3, hF3⟩
      refine k_istore C dL_law_831 (by decide) rfl ?_
      exact tl_weight C hcc h3 _ _ _ _ _ _ (hX2.fr (fun a a0 a1 => hF3 a (by omega))) _ _ _ _ _ _ hM3 ((hF3 (base + 133) (by omega)).trans hO2) _ ⟨by omega, by omega⟩ (fun _ => by rw [iu_eq, hve]) k
    ·
      have hC := tx_weight2 l D tc base hl base (sX xs (j + 1)) (sX xs (j + 2)) h hr2 c1 c2
      have hW := wt_weight_2 l D tc base base (base + 133) (sX xs (j + 1)) (sX xs (j + 2)) h _ hC fs hfx
      refine k_aload_n C dL_law_796 rfl ?_
      refine k_aload_n C dL_law_797 rfl ?_
      refine k_iload C dL_law_798 rfl ?_
      refine k_iconst C dL_law_800 ?_
      refine k_iadd C dL_law_801 ?_
      refine k_sld C hSc (by omega) (by omega) dL_law_802 ?_
      refine k_aload_n C dL_law_803 rfl ?_
      refine k_iload C dL_law_804 rfl ?_
      refine k_iconst C dL_law_806 ?_
      refine k_iadd C dL_law_807 ?_
      refine k_sld C hSc (by omega) (by omega) dL_law_808 ?_
      refine k_aload_n C dL_law_809 rfl ?_
      refine k_callW C hE (n := 4) (as := [aR base, aI (sX xs (j + 1)), aI (sX xs (j + 2)), aR (base + 133)]) (rest := []) hW ml_L_132 sm_L_weight ini_L co_L_weight ⟨by decide, by decide, by decide +kernel⟩ rfl ⟨by decide, by decide⟩ rfl (Nat.le_of_ble_eq_true rfl) hcc1 dL_law_810 ?_
      rintro r h2 ⟨rfl, rfl⟩
      have hMod := hMod0
      have hX2 := hX
      have hO2 := hO
      refine k_istore C dL_law_813 (by decide) rfl ?_
      refine k_aload_n C dL_law_815 rfl ?_
      refine k_aload_n C dL_law_816 rfl ?_
      refine k_iload C dL_law_817 rfl ?_
      refine k_iconst C dL_law_819 ?_
      refine k_iadd C dL_law_820 ?_
      refine k_sld C hSc (by omega) (by omega) dL_law_821 ?_
      refine k_aload_n C dL_law_822 rfl ?_
      refine k_iload C dL_law_823 rfl ?_
      refine k_iconst C dL_law_825 ?_
      refine k_iadd C dL_law_826 ?_
      refine k_sld C hSc (by omega) (by omega) dL_law_827 ?_
      have hMM := CT.mono (post' := fun r h' => r = some (aI 0) ∧ MA h' (base + 127) z hi tx has hro st ln 2 re du hsh ∧ Fr h h' (base + 127) 6) (ct_X8_weight l D tc base (base + 127) z hi tx has hro st ln th re du hsh h hMod (sX xs (j + 1)) (sX xs (j + 2)) hr1 hr2) (fun r h' hd => by rcases hd with ⟨cd, q⟩ | ⟨cd, q⟩ | ⟨cd, q⟩ <;> first | (exfalso; omega) | exact q)
      refine k_callV C (ci := 8) (as := [aI (sX xs (j + 1)), aI (sX xs (j + 2))]) (rest := []) (n := 2) hMM ml_L_134 im_X8_weight se_X8_weight ini_X8 co_X8_weight ⟨rfl, by decide, by decide, by decide +kernel⟩ rfl rfl hMod.1 ⟨by decide, by decide⟩ rfl (Nat.le_of_ble_eq_true rfl) hcc dL_law_828 ?_
      rintro r h3 ⟨rfl, hM3, hF3⟩
      refine k_istore C dL_law_831 (by decide) rfl ?_
      exact tl_weight C hcc h3 _ _ _ _ _ _ (hX2.fr (fun a a0 a1 => hF3 a (by omega))) _ _ _ _ _ _ hM3 ((hF3 (base + 133) (by omega)).trans hO2) _ ⟨by omega, by omega⟩ (fun q => by omega) k
  ·
    have hC := tx_weight1 l D tc base hl base (sX xs (j + 1)) (sX xs (j + 2)) h hr1 c1
    have hW := wt_weight_1 l D tc base base (base + 133) (sX xs (j + 1)) (sX xs (j + 2)) h _ hC fs hfx
    refine k_aload_n C dL_law_796 rfl ?_
    refine k_aload_n C dL_law_797 rfl ?_
    refine k_iload C dL_law_798 rfl ?_
    refine k_iconst C dL_law_800 ?_
    refine k_iadd C dL_law_801 ?_
    refine k_sld C hSc (by omega) (by omega) dL_law_802 ?_
    refine k_aload_n C dL_law_803 rfl ?_
    refine k_iload C dL_law_804 rfl ?_
    refine k_iconst C dL_law_806 ?_
    refine k_iadd C dL_law_807 ?_
    refine k_sld C hSc (by omega) (by omega) dL_law_808 ?_
    refine k_aload_n C dL_law_809 rfl ?_
    refine k_callW C hE (n := 4) (as := [aR base, aI (sX xs (j + 1)), aI (sX xs (j + 2)), aR (base + 133)]) (rest := []) hW ml_L_132 sm_L_weight ini_L co_L_weight ⟨by decide, by decide, by decide +kernel⟩ rfl ⟨by decide, by decide⟩ rfl (Nat.le_of_ble_eq_true rfl) hcc1 dL_law_810 ?_
    rintro r h2 ⟨rfl, rfl⟩
    have hMod := hMod0
    have hX2 := hX
    have hO2 := hO
    refine k_istore C dL_law_813 (by decide) rfl ?_
    refine k_aload_n C dL_law_815 rfl ?_
    refine k_aload_n C dL_law_816 rfl ?_
    refine k_iload C dL_law_817 rfl ?_
    refine k_iconst C dL_law_819 ?_
    refine k_iadd C dL_law_820 ?_
    refine k_sld C hSc (by omega) (by omega) dL_law_821 ?_
    refine k_aload_n C dL_law_822 rfl ?_
    refine k_iload C dL_law_823 rfl ?_
    refine k_iconst C dL_law_825 ?_
    refine k_iadd C dL_law_826 ?_
    refine k_sld C hSc (by omega) (by omega) dL_law_827 ?_
    have hMM := CT.mono (post' := fun r h' => r = some (aI 0) ∧ MA h' (base + 127) z hi tx has hro st ln 1 re du hsh ∧ Fr h h' (base + 127) 6) (ct_X8_weight l D tc base (base + 127) z hi tx has hro st ln th re du hsh h hMod (sX xs (j + 1)) (sX xs (j + 2)) hr1 hr2) (fun r h' hd => by rcases hd with ⟨cd, q⟩ | ⟨cd, q⟩ | ⟨cd, q⟩ <;> first | (exfalso; omega) | exact q)
    refine k_callV C (ci := 8) (as := [aI (sX xs (j + 1)), aI (sX xs (j + 2))]) (rest := []) (n := 2) hMM ml_L_134 im_X8_weight se_X8_weight ini_X8 co_X8_weight ⟨rfl, by decide, by decide, by decide +kernel⟩ rfl rfl hMod.1 ⟨by decide, by decide⟩ rfl (Nat.le_of_ble_eq_true rfl) hcc dL_law_828 ?_
    rintro r h3 ⟨rfl, hM3, hF3⟩
    refine k_istore C dL_law_831 (by decide) rfl ?_
    exact tl_weight C hcc h3 _ _ _ _ _ _ (hX2.fr (fun a a0 a1 => hF3 a (by omega))) _ _ _ _ _ _ hM3 ((hF3 (base + 133) (by omega)).trans hO2) _ ⟨by omega, by omega⟩ (fun q => by omega) k
set_option maxRecDepth 20000 in
set_option maxHeartbeats 1000000 in
theorem tl_winder {D : va_G} {tc : Nat → ClassId} {base : Nat} {p : Program} {l : Launch} {e : Env} {s : State} {m : MethodId} {args : Array Value} {below : List Frame} {meth : Method} {c : Code} {cells slots : Nat} {Q : State → Prop} (C : Cx D tc base RL cL_law 9 p s m args meth c) {b : Nat} {j : Int} (hcc : cells ≤ room_1.cells ∧ slots ≤ room_1.slots) (h : AH) (z hi tx : Int → Int) (st ln : Int) (og : Int → Int) (hX : XA h base z hi tx st ln) (has hro : Int → Int) (th re du hsh : Int) (hMod : MA h (base + 127) z hi tx has hro st ln th re du hsh) (hO : h (base + 133) = some (eA 2 1 og)) (v : Int) (hth : r32 th) (hv : th = 0 → og 0 = sx v) (k : LG D tc base b p l e s m args below meth c cells slots Q j) : Wk D tc base 9 p l e room_1 s m args below meth c cells slots Q 901 [some (aR b), some (aR base), some (aR (base + 127)), some (aR (base + 133)), some (aI j), some (aI th), some (aI v), none, none] [] h := by
  refine k_aload_n C dL_law_901 rfl ?_
  refine k_callV C (ci := 8) (as := []) (rest := []) (n := 0) (ct_X8_thrown l D tc base (base + 127) z hi tx has hro st ln th re du hsh h hMod) ml_L_83 im_X8_thrown se_X8_thrown ini_X8 co_X8_thrown ⟨rfl, by decide, by decide, by decide +kernel⟩ rfl rfl hMod.1 ⟨by decide, by decide⟩ rfl (Nat.le_of_ble_eq_true rfl) hcc dL_law_902 ?_
  rintro r h2 ⟨rfl, rfl⟩
  refine k_iload C dL_law_905 rfl ?_
  refine k_icmp_same (tgt := 912) C dL_law_907 (by decide) ?_
  refine k_iload C dL_law_912 rfl ?_
  have kE : Wk D tc base 9 p l e room_1 s m args below meth c cells slots Q 929 [some (aR b), some (aR base), some (aR (base + 127)), some (aR (base + 133)), some (aI j), some (aI th), some (aI v), none, none] [] h := by
    refine k_goto (tgt := 1386) C dL_law_929 (by decide) ?_
    have q1 := k h z hi tx st ln og ⟨hX, ⟨_, _, _, _, _, _, hMod⟩, hO⟩
    exact k_sub q1 (And.intro rfl (And.intro rfl (And.intro rfl (And.intro rfl (And.intro rfl trivial)))))
  refine k_if_ne (tgt := 929) C dL_law_914 (by decide) hth (fun _ => kE) (fun c0 => ?_)
  refine k_aload_n C dL_law_917 rfl ?_
  refine k_iconst C dL_law_918 ?_
  refine k_laload C dL_law_919 hO (by omega) (by omega) (by omega) ?_
  refine k_iload C dL_law_920 rfl ?_
  refine k_i2l C dL_law_922 ?_
  refine k_lcmpNe C dL_law_923 (fun w hw he => ?_)
  exact k_if_eq (tgt := 929) C dL_law_924 (by decide) hw (fun _ => kE) (fun cw => absurd (he.mpr (by rw [hv c0])) cw)
set_option maxRecDepth 20000 in
set_option maxHeartbeats 2000000 in
theorem op_winder {D : va_G} {tc : Nat → ClassId} {base : Nat} {p : Program} {l : Launch} {e : Env} {s : State} {m : MethodId} {args : Array Value} {below : List Frame} {meth : Method} {c : Code} {cells slots : Nat} {Q : State → Prop} (C : Cx D tc base RL cL_law 9 p s m args meth c) (hE : PE base s) {b LL : Nat} {xs : Nat → Int32} (hSc : Scr base b LL xs s) (hl : l.stackTraces = false) {j : Int} (hj : 0 ≤ j ∧ j + 4 ≤ LL) (hcc1 : cells + 1 ≤ room_1.cells ∧ slots + 6 ≤ room_1.slots) (h : AH) (z hi tx : Int → Int) (st ln : Int) (og : Int → Int) (hI : LI h base z hi tx st ln og) (k : LG D tc base b p l e s m args below meth c (cells + 1) (slots + 6) Q j) : Wk D tc base 9 p l e room_1 s m args below meth c cells slots Q 864 [some (aR b), some (aR base), some (aR (base + 127)), some (aR (base + 133)), some (aI j), none, none, none, none] [] h := by
  have hcc := hcc1
  obtain ⟨hX, ⟨has, hro, th, re, du, hsh, hMod0⟩, hO⟩ := hI
  obtain ⟨⟨fs, hfx⟩, hok, h13, hst, hln, htr⟩ := hX.fx
  have hj0 := hj.1
  have hj1 := hj.2
  have hr1 := sX_r xs (j + 1)
  have hr2 := sX_r xs (j + 2)
  by_cases c1 : 0 ≤ (sX xs (j + 1)) ∧ (sX xs (j + 1)) < z 21
  · by_cases c2 : 0 ≤ (sX xs (j + 2)) ∧ (sX xs (j + 2)) ≤ 5
    ·
      have hC := ct_X7_winder l D tc base base z hi tx st ln h hX (sX xs (j + 1)) (sX xs (j + 2)) c1 c2
      have hW := wn_winder l D tc base base (base + 133) og (sX xs (j + 1)) (sX xs (j + 2)) h _ 2 (by omega) hC fs hfx (fun r h' hp => ⟨_, hp.1, by rw [← hp.2]; exact hO⟩)
      refine k_aload_n C dL_law_864 rfl ?_
      refine k_aload_n C dL_law_865 rfl ?_
      refine k_iload C dL_law_866 rfl ?_
      refine k_iconst C dL_law_868 ?_
      refine k_iadd C dL_law_869 ?_
      refine k_sld C hSc (by omega) (by omega) dL_law_870 ?_
      refine k_aload_n C dL_law_871 rfl ?_
      refine k_iload C dL_law_872 rfl ?_
      refine k_iconst C dL_law_874 ?_
      refine k_iadd C dL_law_875 ?_
      refine k_sld C hSc (by omega) (by omega) dL_law_876 ?_
      refine k_aload_n C dL_law_877 rfl ?_
      refine k_callW C hE (n := 4) (as := [aR base, aI (sX xs (j + 1)), aI (sX xs (j + 2)), aR (base + 133)]) (rest := []) hW ml_L_135 sm_L_winder ini_L co_L_winder ⟨by decide, by decide, by decide +kernel⟩ rfl ⟨by decide, by decide⟩ rfl (Nat.le_of_ble_eq_true rfl) hcc1 dL_law_878 ?_
      rintro r h2 ⟨rfl, v, h1, ⟨hv, hhq⟩, rfl⟩
      have hve := Sum.inl.inj (Option.some.inj hv)
      have hX1 : XA h1 base z hi tx st ln := by rw [← hhq]; exact hX
      have hF1 : Fr h h1 base 127 := by rw [← hhq]; exact Fr.rf _ _ _
      have hX2 := hX1.fr (h' := hs h1 (base + 133) (eA 2 1 (iu og 0 (sx v)))) (fun a a0 a1 => hs_ne (by omega) rfl)
      have hMod := hMod0.fr (h' := hs h1 (base + 133) (eA 2 1 (iu og 0 (sx v)))) (fun a a0 a1 => (hs_ne (by omega) rfl).trans (hF1 a (by omega)))
      have hO2 : hs h1 (base + 133) (eA 2 1 (iu og 0 (sx v))) (base + 133) = some (eA 2 1 (iu og 0 (sx v))) := hs_eq _ _ _
      refine k_istore C dL_law_881 (by decide) rfl ?_
      refine k_aload_n C dL_law_883 rfl ?_
      refine k_aload_n C dL_law_884 rfl ?_
      refine k_iload C dL_law_885 rfl ?_
      refine k_iconst C dL_law_887 ?_
      refine k_iadd C dL_law_888 ?_
      refine k_sld C hSc (by omega) (by omega) dL_law_889 ?_
      refine k_aload_n C dL_law_890 rfl ?_
      refine k_iload C dL_law_891 rfl ?_
      refine k_iconst C dL_law_893 ?_
      refine k_iadd C dL_law_894 ?_
      refine k_sld C hSc (by omega) (by omega) dL_law_895 ?_
      have hMM := CT.mono (post' := fun r h' => r = some (aI (zWin z (sX xs (j + 1)) (sX xs (j + 2)))) ∧ MA h' (base + 127) z hi tx has hro st ln 0 re du hsh ∧ Fr (hs h1 (base + 133) (eA 2 1 (iu og 0 (sx v)))) h' (base + 127) 6) (ct_X8_winder l D tc base (base + 127) z hi tx has hro st ln th re du hsh (hs h1 (base + 133) (eA 2 1 (iu og 0 (sx v)))) hMod (sX xs (j + 1)) (sX xs (j + 2)) hok.1 (by omega) hr1 hr2) (fun r h' hd => by rcases hd with ⟨cd, q⟩ | ⟨cd, q⟩ | ⟨cd, q⟩ <;> first | (exfalso; omega) | exact q)
      refine k_callV C (ci := 8) (as := [aI (sX xs (j + 1)), aI (sX xs (j + 2))]) (rest := []) (n := 2) hMM ml_L_137 im_X8_winder se_X8_winder ini_X8 co_X8_winder ⟨rfl, by decide, by decide, by decide +kernel⟩ rfl rfl hMod.1 ⟨by decide, by decide⟩ rfl (Nat.le_of_ble_eq_true rfl) hcc dL_law_896 ?_
      rintro r h3 ⟨rfl, hM3, hF3⟩
      refine k_istore C dL_law_899 (by decide) rfl ?_
      exact tl_winder C hcc h3 _ _ _ _ _ _ (hX2.fr (fun a a0 a1 => hF3 a (by omega))) _ _ _ _ _ _ hM3 ((hF3 (base + 133) (by omega)).trans hO2) _ ⟨by omega, by omega⟩ (fun _ => by rw [iu_eq, hve]) k
    ·
      have hC := tx_winder2 l D tc base hl base z hi tx st ln h hX (sX xs (j + 1)) (sX xs (j + 2)) hr2 c1 c2
      have hW := wt_winder_2 l D tc base base (base + 133) (sX xs (j + 1)) (sX xs (j + 2)) h _ hC fs hfx
      refine k_aload_n C dL_law_864 rfl ?_
      refine k_aload_n C dL_law_865 rfl ?_
      refine k_iload C dL_law_866 rfl ?_
      refine k_iconst C dL_law_868 ?_
      refine k_iadd C dL_law_869 ?_
      refine k_sld C hSc (by omega) (by omega) dL_law_870 ?_
      refine k_aload_n C dL_law_871 rfl ?_
      refine k_iload C dL_law_872 rfl ?_
      refine k_iconst C dL_law_874 ?_
      refine k_iadd C dL_law_875 ?_
      refine k_sld C hSc (by omega) (by omega) dL_law_876 ?_
      refine k_aload_n C dL_law_877 rfl ?_
      refine k_callW C hE (n := 4) (as := [aR base, aI (sX xs (j + 1)), aI (sX xs (j + 2)), aR (base + 133)]) (rest := []) hW ml_L_135 sm_L_winder ini_L co_L_winder ⟨by decide, by decide, by decide +kernel⟩ rfl ⟨by decide, by decide⟩ rfl (Nat.le_of_ble_eq_true rfl) hcc1 dL_law_878 ?_
      rintro r h2 ⟨rfl, rfl⟩
      have hMod := hMod0
      have hX2 := hX
      have hO2 := hO
      refine k_istore C dL_law_881 (by decide) rfl ?_
      refine k_aload_n C dL_law_883 rfl ?_
      refine k_aload_n C dL_law_884 rfl ?_
      refine k_iload C dL_law_885 rfl ?_
      refine k_iconst C dL_law_887 ?_
      refine k_iadd C dL_law_888 ?_
      refine k_sld C hSc (by omega) (by omega) dL_law_889 ?_
      refine k_aload_n C dL_law_890 rfl ?_
      refine k_iload C dL_law_891 rfl ?_
      refine k_iconst C dL_law_893 ?_
      refine k_iadd C dL_law_894 ?_
      refine k_sld C hSc (by omega) (by omega) dL_law_895 ?_
      have hMM := CT.mono (post' := fun r h' => r = some (aI 0) ∧ MA h' (base + 127) z hi tx has hro st ln 2 re du hsh ∧ Fr h h' (base + 127) 6) (ct_X8_winder l D tc base (base + 127) z hi tx has hro st ln th re du hsh h hMod (sX xs (j + 1)) (sX xs (j + 2)) hok.1 (by omega) hr1 hr2) (fun r h' hd => by rcases hd with ⟨cd, q⟩ | ⟨cd, q⟩ | ⟨cd, q⟩ <;> first | (exfalso; omega) | exact q)
      refine k_callV C (ci := 8) (as := [aI (sX xs (j + 1)), aI (sX xs (j + 2))]) (rest := []) (n := 2) hMM ml_L_137 im_X8_winder se_X8_winder ini_X8 co_X8_winder ⟨rfl, by decide, by decide, by decide +kernel⟩ rfl rfl hMod.1 ⟨by decide, by decide⟩ rfl (Nat.le_of_ble_eq_true rfl) hcc dL_law_896 ?_
      rintro r h3 ⟨rfl, hM3, hF3⟩
      refine k_istore C dL_law_899 (by decide) rfl ?_
      exact tl_winder C hcc h3 _ _ _ _ _ _ (hX2.fr (fun a a0 a1 => hF3 a (by omega))) _ _ _ _ _ _ hM3 ((hF3 (base + 133) (by omega)).trans hO2) _ ⟨by omega, by omega⟩ (fun q => by omega) k
  ·
    have hC := tx_winder1 l D tc base hl base z hi tx st ln h hX (sX xs (j + 1)) (sX xs (j + 2)) hr1 c1
    have hW := wt_winder_1 l D tc base base (base + 133) (sX xs (j + 1)) (sX xs (j + 2)) h _ hC fs hfx
    refine k_aload_n C dL_law_864 rfl ?_
    refine k_aload_n C dL_law_865 rfl ?_
    refine k_iload C dL_law_866 rfl ?_
    refine k_iconst C dL_law_868 ?_
    refine k_iadd C dL_law_869 ?_
    refine k_sld C hSc (by omega) (by omega) dL_law_870 ?_
    refine k_aload_n C dL_law_871 rfl ?_
    refine k_iload C dL_law_872 rfl ?_
    refine k_iconst C dL_law_874 ?_
    refine k_iadd C dL_law_875 ?_
    refine k_sld C hSc (by omega) (by omega) dL_law_876 ?_
    refine k_aload_n C dL_law_877 rfl ?_
    refine k_callW C hE (n := 4) (as := [aR base, aI (sX xs (j + 1)), aI (sX xs (j + 2)), aR (base + 133)]) (rest := []) hW ml_L_135 sm_L_winder ini_L co_L_winder ⟨by decide, by decide, by decide +kernel⟩ rfl ⟨by decide, by decide⟩ rfl (Nat.le_of_ble_eq_true rfl) hcc1 dL_law_878 ?_
    rintro r h2 ⟨rfl, rfl⟩
    have hMod := hMod0
    have hX2 := hX
    have hO2 := hO
    refine k_istore C dL_law_881 (by decide) rfl ?_
    refine k_aload_n C dL_law_883 rfl ?_
    refine k_aload_n C dL_law_884 rfl ?_
    refine k_iload C dL_law_885 rfl ?_
    refine k_iconst C dL_law_887 ?_
    refine k_iadd C dL_law_888 ?_
    refine k_sld C hSc (by omega) (by omega) dL_law_889 ?_
    refine k_aload_n C dL_law_890 rfl ?_
    refine k_iload C dL_law_891 rfl ?_
    refine k_iconst C dL_law_893 ?_
    refine k_iadd C dL_law_894 ?_
    refine k_sld C hSc (by omega) (by omega) dL_law_895 ?_
    have hMM := CT.mono (post' := fun r h' => r = some (aI 0) ∧ MA h' (base + 127) z hi tx has hro st ln 1 re du hsh ∧ Fr h h' (base + 127) 6) (ct_X8_winder l D tc base (base + 127) z hi tx has hro st ln th re du hsh h hMod (sX xs (j + 1)) (sX xs (j + 2)) hok.1 (by omega) hr1 hr2) (fun r h' hd => by rcases hd with ⟨cd, q⟩ | ⟨cd, q⟩ | ⟨cd, q⟩ <;> first | (exfalso; omega) | exact q)
    refine k_callV C (ci := 8) (as := [aI (sX xs (j + 1)), aI (sX xs (j + 2))]) (rest := []) (n := 2) hMM ml_L_137 im_X8_winder se_X8_winder ini_X8 co_X8_winder ⟨rfl, by decide, by decide, by decide +kernel⟩ rfl rfl hMod.1 ⟨by decide, by decide⟩ rfl (Nat.le_of_ble_eq_true rfl) hcc dL_law_896 ?_
    rintro r h3 ⟨rfl, hM3, hF3⟩
    refine k_istore C dL_law_899 (by decide) rfl ?_
    exact tl_winder C hcc h3 _ _ _ _ _ _ (hX2.fr (fun a a0 a1 => hF3 a (by omega))) _ _ _ _ _ _ hM3 ((hF3 (base + 133) (by omega)).trans hO2) _ ⟨by omega, by omega⟩ (fun q => by omega) k
set_option maxRecDepth 20000 in
set_option maxHeartbeats 1000000 in
theorem tl_debt {D : va_G} {tc : Nat → ClassId} {base : Nat} {p : Program} {l : Launch} {e : Env} {s : State} {m : MethodId} {args : Array Value} {below : List Frame} {meth : Method} {c : Code} {cells slots : Nat} {Q : State → Prop} (C : Cx D tc base RL cL_law 9 p s m args meth c) {b : Nat} {j : Int} (hcc : cells ≤ room_1.cells ∧ slots ≤ room_1.slots) (h : AH) (z hi tx : Int → Int) (st ln : Int) (og : Int → Int) (hX : XA h base z hi tx st ln) (has hro : Int → Int) (th re du hsh : Int) (hMod : MA h (base + 127) z hi tx has hro st ln th re du hsh) (hO : h (base + 133) = some (eA 2 1 og)) (v : Int) (hth : r32 th) (hv : th = 0 → og 0 = sx v) (k : LG D tc base b p l e s m args below meth c cells slots Q j) : Wk D tc base 9 p l e room_1 s m args below meth c cells slots Q 969 [some (aR b), some (aR base), some (aR (base + 127)), some (aR (base + 133)), some (aI j), some (aI th), some (aI v), none, none] [] h := by
  refine k_aload_n C dL_law_969 rfl ?_
  refine k_callV C (ci := 8) (as := []) (rest := []) (n := 0) (ct_X8_thrown l D tc base (base + 127) z hi tx has hro st ln th re du hsh h hMod) ml_L_83 im_X8_thrown se_X8_thrown ini_X8 co_X8_thrown ⟨rfl, by decide, by decide, by decide +kernel⟩ rfl rfl hMod.1 ⟨by decide, by decide⟩ rfl (Nat.le_of_ble_eq_true rfl) hcc dL_law_970 ?_
  rintro r h2 ⟨rfl, rfl⟩
  refine k_iload C dL_law_973 rfl ?_
  refine k_icmp_same (tgt := 980) C dL_law_975 (by decide) ?_
  refine k_iload C dL_law_980 rfl ?_
  have kE : Wk D tc base 9 p l e room_1 s m args below meth c cells slots Q 997 [some (aR b), some (aR base), some (aR (base + 127)), some (aR (base + 133)), some (aI j), some (aI th), some (aI v), none, none] [] h := by
    refine k_goto (tgt := 1386) C dL_law_997 (by decide) ?_
    have q1 := k h z hi tx st ln og ⟨hX, ⟨_, _, _, _, _, _, hMod⟩, hO⟩
    exact k_sub q1 (And.intro rfl (And.intro rfl (And.intro rfl (And.intro rfl (And.intro rfl trivial)))))
  refine k_if_ne (tgt := 997) C dL_law_982 (by decide) hth (fun _ => kE) (fun c0 => ?_)
  refine k_aload_n C dL_law_985 rfl ?_
  refine k_iconst C dL_law_986 ?_
  refine k_laload C dL_law_987 hO (by omega) (by omega) (by omega) ?_
  refine k_iload C dL_law_988 rfl ?_
  refine k_i2l C dL_law_990 ?_
  refine k_lcmpNe C dL_law_991 (fun w hw he => ?_)
  exact k_if_eq (tgt := 997) C dL_law_992 (by decide) hw (fun _ => kE) (fun cw => absurd (he.mpr (by rw [hv c0])) cw)
set_option maxRecDepth 20000 in
set_option maxHeartbeats 2000000 in
theorem op_debt {D : va_G} {tc : Nat → ClassId} {base : Nat} {p : Program} {l : Launch} {e : Env} {s : State} {m : MethodId} {args : Array Value} {below : List Frame} {meth : Method} {c : Code} {cells slots : Nat} {Q : State → Prop} (C : Cx D tc base RL cL_law 9 p s m args meth c) (hE : PE base s) {b LL : Nat} {xs : Nat → Int32} (hSc : Scr base b LL xs s) (hl : l.stackTraces = false) {j : Int} (hj : 0 ≤ j ∧ j + 4 ≤ LL) (hcc1 : cells + 1 ≤ room_1.cells ∧ slots + 6 ≤ room_1.slots) (h : AH) (z hi tx : Int → Int) (st ln : Int) (og : Int → Int) (hI : LI h base z hi tx st ln og) (k : LG D tc base b p l e s m args below meth c (cells + 1) (slots + 6) Q j) : Wk D tc base 9 p l e room_1 s m args below meth c cells slots Q 932 [some (aR b), some (aR base), some (aR (base + 127)), some (aR (base + 133)), some (aI j), none, none, none, none] [] h := by
  have hcc := hcc1
  obtain ⟨hX, ⟨has, hro, th, re, du, hsh, hMod0⟩, hO⟩ := hI
  obtain ⟨⟨fs, hfx⟩, hok, h13, hst, hln, htr⟩ := hX.fx
  have hj0 := hj.1
  have hj1 := hj.2
  have hr1 := sX_r xs (j + 1)
  have hr2 := sX_r xs (j + 2)
  by_cases c1 : 0 ≤ (sX xs (j + 1)) ∧ (sX xs (j + 1)) < z 52
  · by_cases c2 : 0 ≤ (sX xs (j + 2)) ∧ (sX xs (j + 2)) ≤ 1
    ·
      have hC := ct_X7_debt l D tc base base z hi tx st ln h hX (sX xs (j + 1)) (sX xs (j + 2)) c1 c2
      have hW := wn_debt l D tc base base (base + 133) og (sX xs (j + 1)) (sX xs (j + 2)) h _ 0 (by omega) hC fs hfx (fun r h' hp => ⟨_, hp.1, by rw [← hp.2]; exact hO⟩)
      refine k_aload_n C dL_law_932 rfl ?_
      refine k_aload_n C dL_law_933 rfl ?_
      refine k_iload C dL_law_934 rfl ?_
      refine k_iconst C dL_law_936 ?_
      refine k_iadd C dL_law_937 ?_
      refine k_sld C hSc (by omega) (by omega) dL_law_938 ?_
      refine k_aload_n C dL_law_939 rfl ?_
      refine k_iload C dL_law_940 rfl ?_
      refine k_iconst C dL_law_942 ?_
      refine k_iadd C dL_law_943 ?_
      refine k_sld C hSc (by omega) (by omega) dL_law_944 ?_
      refine k_aload_n C dL_law_945 rfl ?_
      refine k_callW C hE (n := 4) (as := [aR base, aI (sX xs (j + 1)), aI (sX xs (j + 2)), aR (base + 133)]) (rest := []) hW ml_L_138 sm_L_debt ini_L co_L_debt ⟨by decide, by decide, by decide +kernel⟩ rfl ⟨by decide, by decide⟩ rfl (Nat.le_of_ble_eq_true rfl) hcc1 dL_law_946 ?_
      rintro r h2 ⟨rfl, v, h1, ⟨hv, hhq⟩, rfl⟩
      have hve := Sum.inl.inj (Option.some.inj hv)
      have hX1 : XA h1 base z hi tx st ln := by rw [← hhq]; exact hX
      have hF1 : Fr h h1 base 127 := by rw [← hhq]; exact Fr.rf _ _ _
      have hX2 := hX1.fr (h' := hs h1 (base + 133) (eA 2 1 (iu og 0 (sx v)))) (fun a a0 a1 => hs_ne (by omega) rfl)
      have hMod := hMod0.fr (h' := hs h1 (base + 133) (eA 2 1 (iu og 0 (sx v)))) (fun a a0 a1 => (hs_ne (by omega) rfl).trans (hF1 a (by omega)))
      have hO2 : hs h1 (base + 133) (eA 2 1 (iu og 0 (sx v))) (base + 133) = some (eA 2 1 (iu og 0 (sx v))) := hs_eq _ _ _
      refine k_istore C dL_law_949 (by decide) rfl ?_
      refine k_aload_n C dL_law_951 rfl ?_
      refine k_aload_n C dL_law_952 rfl ?_
      refine k_iload C dL_law_953 rfl ?_
      refine k_iconst C dL_law_955 ?_
      refine k_iadd C dL_law_956 ?_
      refine k_sld C hSc (by omega) (by omega) dL_law_957 ?_
      refine k_aload_n C dL_law_958 rfl ?_
      refine k_iload C dL_law_959 rfl ?_
      refine k_iconst C dL_law_961 ?_
      refine k_iadd C dL_law_962 ?_
      refine k_sld C hSc (by omega) (by omega) dL_law_963 ?_
      have hMM := CT.mono (post' := fun r h' => r = some (aI (z (53 + 2 * (sX xs (j + 1)) + (sX xs (j + 2))))) ∧ MA h' (base + 127) z hi tx has hro st ln 0 re du hsh ∧ Fr (hs h1 (base + 133) (eA 2 1 (iu og 0 (sx v)))) h' (base + 127) 6) (ct_X8_debt l D tc base (base + 127) z hi tx has hro st ln th re du hsh (hs h1 (base + 133) (eA 2 1 (iu og 0 (sx v)))) hMod (sX xs (j + 1)) (sX xs (j + 2)) hok.1 hr1 hr2) (fun r h' hd => by rcases hd with ⟨cd, q⟩ | ⟨cd, q⟩ | ⟨cd, q⟩ <;> first | (exfalso; omega) | exact q)
      refine k_callV C (ci := 8) (as := [aI (sX xs (j + 1)), aI (sX xs (j + 2))]) (rest := []) (n := 2) hMM ml_L_140 im_X8_debt se_X8_debt ini_X8 co_X8_debt ⟨rfl, by decide, by decide, by decide +kernel⟩ rfl rfl hMod.1 ⟨by decide, by decide⟩ rfl (Nat.le_of_ble_eq_true rfl) hcc dL_law_964 ?_
      rintro r h3 ⟨rfl, hM3, hF3⟩
      refine k_istore C dL_law_967 (by decide) rfl ?_
      exact tl_debt C hcc h3 _ _ _ _ _ _ (hX2.fr (fun a a0 a1 => hF3 a (by omega))) _ _ _ _ _ _ hM3 ((hF3 (base + 133) (by omega)).trans hO2) _ ⟨by omega, by omega⟩ (fun _ => by rw [iu_eq, hve]) k
    ·
      have hC := tx_debt2 l D tc base hl base z hi tx st ln h hX (sX xs (j + 1)) (sX xs (j + 2)) hr2 c1 c2
      have hW := wt_debt_2 l D tc base base (base + 133) (sX xs (j + 1)) (sX xs (j + 2)) h _ hC fs hfx
      refine k_aload_n C dL_law_932 rfl ?_
      refine k_aload_n C dL_law_933 rfl ?_
      refine k_iload C dL_law_934 rfl ?_
      refine k_iconst C dL_law_936 ?_
      refine k_iadd C dL_law_937 ?_
      refine k_sld C hSc (by omega) (by omega) dL_law_938 ?_
      refine k_aload_n C dL_law_939 rfl ?_
      refine k_iload C dL_law_940 rfl ?_
      refine k_iconst C dL_law_942 ?_
      refine k_iadd C dL_law_943 ?_
      refine k_sld C hSc (by omega) (by omega) dL_law_944 ?_
      refine k_aload_n C dL_law_945 rfl ?_
      refine k_callW C hE (n := 4) (as := [aR base, aI (sX xs (j + 1)), aI (sX xs (j + 2)), aR (base + 133)]) (rest := []) hW ml_L_138 sm_L_debt ini_L co_L_debt ⟨by decide, by decide, by decide +kernel⟩ rfl ⟨by decide, by decide⟩ rfl (Nat.le_of_ble_eq_true rfl) hcc1 dL_law_946 ?_
      rintro r h2 ⟨rfl, rfl⟩
      have hMod := hMod0
      have hX2 := hX
      have hO2 := hO
      refine k_istore C dL_law_949 (by decide) rfl ?_
      refine k_aload_n C dL_law_951 rfl ?_
      refine k_aload_n C dL_law_952 rfl ?_
      refine k_iload C dL_law_953 rfl ?_
      refine k_iconst C dL_law_955 ?_
      refine k_iadd C dL_law_956 ?_
      refine k_sld C hSc (by omega) (by omega) dL_law_957 ?_
      refine k_aload_n C dL_law_958 rfl ?_
      refine k_iload C dL_law_959 rfl ?_
      refine k_iconst C dL_law_961 ?_
      refine k_iadd C dL_law_962 ?_
      refine k_sld C hSc (by omega) (by omega) dL_law_963 ?_
      have hMM := CT.mono (post' := fun r h' => r = some (aI 0) ∧ MA h' (base + 127) z hi tx has hro st ln 2 re du hsh ∧ Fr h h' (base + 127) 6) (ct_X8_debt l D tc base (base + 127) z hi tx has hro st ln th re du hsh h hMod (sX xs (j + 1)) (sX xs (j + 2)) hok.1 hr1 hr2) (fun r h' hd => by rcases hd with ⟨cd, q⟩ | ⟨cd, q⟩ | ⟨cd, q⟩ <;> first | (exfalso; omega) | exact q)
      refine k_callV C (ci := 8) (as := [aI (sX xs (j + 1)), aI (sX xs (j + 2))]) (rest := []) (n := 2) hMM ml_L_140 im_X8_debt se_X8_debt ini_X8 co_X8_debt ⟨rfl, by decide, by decide, by decide +kernel⟩ rfl rfl hMod.1 ⟨by decide, by decide⟩ rfl (Nat.le_of_ble_eq_true rfl) hcc dL_law_964 ?_
      rintro r h3 ⟨rfl, hM3, hF3⟩
      refine k_istore C dL_law_967 (by decide) rfl ?_
      exact tl_debt C hcc h3 _ _ _ _ _ _ (hX2.fr (fun a a0 a1 => hF3 a (by omega))) _ _ _ _ _ _ hM3 ((hF3 (base + 133) (by omega)).trans hO2) _ ⟨by omega, by omega⟩ (fun q => by omega) k
  ·
    have hC := tx_debt1 l D tc base hl base z hi tx st ln h hX (sX xs (j + 1)) (sX xs (j + 2)) hr1 c1
    have hW := wt_debt_1 l D tc base base (base + 133) (sX xs (j + 1)) (sX xs (j + 2)) h _ hC fs hfx
    refine k_aload_n C dL_law_932 rfl ?_
    refine k_aload_n C dL_law_933 rfl ?_
    refine k_iload C dL_law_934 rfl ?_
    refine k_iconst C dL_law_936 ?_
    refine k_iadd C dL_law_937 ?_
    refine k_sld C hSc (by omega) (by omega) dL_law_938 ?_
    refine k_aload_n C dL_law_939 rfl ?_
    refine k_iload C dL_law_940 rfl ?_
    refine k_iconst C dL_law_942 ?_
    refine k_iadd C dL_law_943 ?_
    refine k_sld C hSc (by omega) (by omega) dL_law_944 ?_
    refine k_aload_n C dL_law_945 rfl ?_
    refine k_callW C hE (n := 4) (as := [aR base, aI (sX xs (j + 1)), aI (sX xs (j + 2)), aR (base + 133)]) (rest := []) hW ml_L_138 sm_L_debt ini_L co_L_debt ⟨by decide, by decide, by decide +kernel⟩ rfl ⟨by decide, by decide⟩ rfl (Nat.le_of_ble_eq_true rfl) hcc1 dL_law_946 ?_
    rintro r h2 ⟨rfl, rfl⟩
    have hMod := hMod0
    have hX2 := hX
    have hO2 := hO
    refine k_istore C dL_law_949 (by decide) rfl ?_
    refine k_aload_n C dL_law_951 rfl ?_
    refine k_aload_n C dL_law_952 rfl ?_
    refine k_iload C dL_law_953 rfl ?_
    refine k_iconst C dL_law_955 ?_
    refine k_iadd C dL_law_956 ?_
    refine k_sld C hSc (by omega) (by omega) dL_law_957 ?_
    refine k_aload_n C dL_law_958 rfl ?_
    refine k_iload C dL_law_959 rfl ?_
    refine k_iconst C dL_law_961 ?_
    refine k_iadd C dL_law_962 ?_
    refine k_sld C hSc (by omega) (by omega) dL_law_963 ?_
    have hMM := CT.mono (post' := fun r h' => r = some (aI 0) ∧ MA h' (base + 127) z hi tx has hro st ln 1 re du hsh ∧ Fr h h' (base + 127) 6) (ct_X8_debt l D tc base (base + 127) z hi tx has hro st ln th re du hsh h hMod (sX xs (j + 1)) (sX xs (j + 2)) hok.1 hr1 hr2) (fun r h' hd => by rcases hd with ⟨cd, q⟩ | ⟨cd, q⟩ | ⟨cd, q⟩ <;> first | (exfalso; omega) | exact q)
    refine k_callV C (ci := 8) (as := [aI (sX xs (j + 1)), aI (sX xs (j + 2))]) (rest := []) (n := 2) hMM ml_L_140 im_X8_debt se_X8_debt ini_X8 co_X8_debt ⟨rfl, by decide, by decide, by decide +kernel⟩ rfl rfl hMod.1 ⟨by decide, by decide⟩ rfl (Nat.le_of_ble_eq_true rfl) hcc dL_law_964 ?_
    rintro r h3 ⟨rfl, hM3, hF3⟩
    refine k_istore C dL_law_967 (by decide) rfl ?_
    exact tl_debt C hcc h3 _ _ _ _ _ _ (hX2.fr (fun a a0 a1 => hF3 a (by omega))) _ _ _ _ _ _ hM3 ((hF3 (base + 133) (by omega)).trans hO2) _ ⟨by omega, by omega⟩ (fun q => by omega) k
set_option maxRecDepth 20000 in
set_option maxHeartbeats 1000000 in
theorem tl_count {D : va_G} {tc : Nat → ClassId} {base : Nat} {p : Program} {l : Launch} {e : Env} {s : State} {m : MethodId} {args : Array Value} {below : List Frame} {meth : Method} {c : Code} {cells slots : Nat} {Q : State → Prop} (C : Cx D tc base RL cL_law 9 p s m args meth c) {b : Nat} {j : Int} (hcc : cells ≤ room_1.cells ∧ slots ≤ room_1.slots) (h : AH) (z hi tx : Int → Int) (st ln : Int) (og : Int → Int) (hX : XA h base z hi tx st ln) (has hro : Int → Int) (th re du hsh : Int) (hMod : MA h (base + 127) z hi tx has hro st ln th re du hsh) (hO : h (base + 133) = some (eA 2 1 og)) (v : Int) (hth : r32 th) (hv : th = 0 → og 0 = sx v) (k : LG D tc base b p l e s m args below meth c cells slots Q j) : Wk D tc base 9 p l e room_1 s m args below meth c cells slots Q 1025 [some (aR b), some (aR base), some (aR (base + 127)), some (aR (base + 133)), some (aI j), some (aI th), some (aI v), none, none] [] h := by
  refine k_aload_n C dL_law_1025 rfl ?_
  refine k_callV C (ci := 8) (as := []) (rest := []) (n := 0) (ct_X8_thrown l D tc base (base + 127) z hi tx has hro st ln th re du hsh h hMod) ml_L_83 im_X8_thrown se_X8_thrown ini_X8 co_X8_thrown ⟨rfl, by decide, by decide, by decide +kernel⟩ rfl rfl hMod.1 ⟨by decide, by decide⟩ rfl (Nat.le_of_ble_eq_true rfl) hcc dL_law_1026 ?_
  rintro r h2 ⟨rfl, rfl⟩
  refine k_iload C dL_law_1029 rfl ?_
  refine k_icmp_same (tgt := 1036) C dL_law_1031 (by decide) ?_
  refine k_iload C dL_law_1036 rfl ?_
  have kE : Wk D tc base 9 p l e room_1 s m args below meth c cells slots Q 1053 [some (aR b), some (aR base), some (aR (base + 127)), some (aR (base + 133)), some (aI j), some (aI th), some (aI v), none, none] [] h := by
    refine k_goto (tgt := 1386) C dL_law_1053 (by decide) ?_
    have q1 := k h z hi tx st ln og ⟨hX, ⟨_, _, _, _, _, _, hMod⟩, hO⟩
    exact k_sub q1 (And.intro rfl (And.intro rfl (And.intro rfl (And.intro rfl (And.intro rfl trivial)))))
  refine k_if_ne (tgt := 1053) C dL_law_1038 (by decide) hth (fun _ => kE) (fun c0 => ?_)
  refine k_aload_n C dL_law_1041 rfl ?_
  refine k_iconst C dL_law_1042 ?_
  refine k_laload C dL_law_1043 hO (by omega) (by omega) (by omega) ?_
  refine k_iload C dL_law_1044 rfl ?_
  refine k_i2l C dL_law_1046 ?_
  refine k_lcmpNe C dL_law_1047 (fun w hw he => ?_)
  exact k_if_eq (tgt := 1053) C dL_law_1048 (by decide) hw (fun _ => kE) (fun cw => absurd (he.mpr (by rw [hv c0])) cw)
set_option maxRecDepth 20000 in
set_option maxHeartbeats 2000000 in
theorem op_count {D : va_G} {tc : Nat → ClassId} {base : Nat} {p : Program} {l : Launch} {e : Env} {s : State} {m : MethodId} {args : Array Value} {below : List Frame} {meth : Method} {c : Code} {cells slots : Nat} {Q : State → Prop} (C : Cx D tc base RL cL_law 9 p s m args meth c) (hE : PE base s) {b LL : Nat} {xs : Nat → Int32} (hSc : Scr base b LL xs s) (hl : l.stackTraces = false) {j : Int} (hj : 0 ≤ j ∧ j + 4 ≤ LL) (hcc1 : cells + 1 ≤ room_1.cells ∧ slots + 6 ≤ room_1.slots) (h : AH) (z hi tx : Int → Int) (st ln : Int) (og : Int → Int) (hI : LI h base z hi tx st ln og) (k : LG D tc base b p l e s m args below meth c (cells + 1) (slots + 6) Q j) : Wk D tc base 9 p l e room_1 s m args below meth c cells slots Q 1000 [some (aR b), some (aR base), some (aR (base + 127)), some (aR (base + 133)), some (aI j), none, none, none, none] [] h := by
  have hcc := hcc1
  obtain ⟨hX, ⟨has, hro, th, re, du, hsh, hMod0⟩, hO⟩ := hI
  obtain ⟨⟨fs, hfx⟩, hok, h13, hst, hln, htr⟩ := hX.fx
  have hj0 := hj.1
  have hj1 := hj.2
  have hr1 := sX_r xs (j + 1)
  by_cases c1 : 0 ≤ (sX xs (j + 1)) ∧ (sX xs (j + 1)) ≤ 17
  ·
    have hC := ct_X7_count l D tc base base z hi tx st ln h hX (sX xs (j + 1)) c1
    have hW := wn_count l D tc base base (base + 133) og (sX xs (j + 1)) h _ 2 (by omega) hC fs hfx (fun r h' hp => ⟨_, hp.1, by rw [← hp.2]; exact hO⟩)
    refine k_aload_n C dL_law_1000 rfl ?_
    refine k_aload_n C dL_law_1001 rfl ?_
    refine k_iload C dL_law_1002 rfl ?_
    refine k_iconst C dL_law_1004 ?_
    refine k_iadd C dL_law_1005 ?_
    refine k_sld C hSc (by omega) (by omega) dL_law_1006 ?_
    refine k_aload_n C dL_law_1007 rfl ?_
    refine k_callW C hE (n := 3) (as := [aR base, aI (sX xs (j + 1)), aR (base + 133)]) (rest := []) hW ml_L_141 sm_L_count ini_L co_L_count ⟨by decide, by decide, by decide +kernel⟩ rfl ⟨by decide, by decide⟩ rfl (Nat.le_of_ble_eq_true rfl) hcc1 dL_law_1008 ?_
    rintro r h2 ⟨rfl, v, h1, ⟨hv, hhq⟩, rfl⟩
    have hve := Sum.inl.inj (Option.some.inj hv)
    have hX1 : XA h1 base z hi tx st ln := by rw [← hhq]; exact hX
    have hF1 : Fr h h1 base 127 := by rw [← hhq]; exact Fr.rf _ _ _
    have hX2 := hX1.fr (h' := hs h1 (base + 133) (eA 2 1 (iu og 0 (sx v)))) (fun a a0 a1 => hs_ne (by omega) rfl)
    have hMod := hMod0.fr (h' := hs h1 (base + 133) (eA 2 1 (iu og 0 (sx v)))) (fun a a0 a1 => (hs_ne (by omega) rfl).trans (hF1 a (by omega)))
    have hO2 : hs h1 (base + 133) (eA 2 1 (iu og 0 (sx v))) (base + 133) = some (eA 2 1 (iu og 0 (sx v))) := hs_eq _ _ _
    refine k_istore C dL_law_1011 (by decide) rfl ?_
    refine k_aload_n C dL_law_1013 rfl ?_
    refine k_aload_n C dL_law_1014 rfl ?_
    refine k_iload C dL_law_1015 rfl ?_
    refine k_iconst C dL_law_1017 ?_
    refine k_iadd C dL_law_1018 ?_
    refine k_sld C hSc (by omega) (by omega) dL_law_1019 ?_
    have hMM := CT.mono (post' := fun r h' => r = some (aI (zCnt z st (sX xs (j + 1)))) ∧ MA h' (base + 127) z hi tx has hro st ln 0 re du hsh ∧ Fr (hs h1 (base + 133) (eA 2 1 (iu og 0 (sx v)))) h' (base + 127) 6) (ct_X8_count l D tc base (base + 127) z hi tx has hro st ln th re du hsh (hs h1 (base + 133) (eA 2 1 (iu og 0 (sx v)))) hMod (sX xs (j + 1)) hok.1 (by omega) hr1) (fun r h' hd => by rcases hd with ⟨cd, q⟩ | ⟨cd, q⟩ <;> first | (exfalso; omega) | exact q)
    refine k_callV C (ci := 8) (as := [aI (sX xs (j + 1))]) (rest := []) (n := 1) hMM ml_L_143 im_X8_count se_X8_count ini_X8 co_X8_count ⟨rfl, by decide, by decide, by decide +kernel⟩ rfl rfl hMod.1 ⟨by decide, by decide⟩ rfl (Nat.le_of_ble_eq_true rfl) hcc dL_law_1020 ?_
    rintro r h3 ⟨rfl, hM3, hF3⟩
    refine k_istore C dL_law_1023 (by decide) rfl ?_
    exact tl_count C hcc h3 _ _ _ _ _ _ (hX2.fr (fun a a0 a1 => hF3 a (by omega))) _ _ _ _ _ _ hM3 ((hF3 (base + 133) (by omega)).trans hO2) _ ⟨by omega, by omega⟩ (fun _ => by rw [iu_eq, hve]) k
  ·
    have hC := tx_count l D tc base hl base (sX xs (j + 1)) h hr1 c1
    have hW := wt_count_1 l D tc base base (base + 133) (sX xs (j + 1)) h _ hC fs hfx
    refine k_aload_n C dL_law_1000 rfl ?_
    refine k_aload_n C dL_law_1001 rfl ?_
    refine k_iload C dL_law_1002 rfl ?_
    refine k_iconst C dL_law_1004 ?_
    refine k_iadd C dL_law_1005 ?_
    refine k_sld C hSc (by omega) (by omega) dL_law_1006 ?_
    refine k_aload_n C dL_law_1007 rfl ?_
    refine k_callW C hE (n := 3) (as := [aR base, aI (sX xs (j + 1)), aR (base + 133)]) (rest := []) hW ml_L_141 sm_L_count ini_L co_L_count ⟨by decide, by decide, by decide +kernel⟩ rfl ⟨by decide, by decide⟩ rfl (Nat.le_of_ble_eq_true rfl) hcc1 dL_law_1008 ?_
    rintro r h2 ⟨rfl, rfl⟩
    have hMod := hMod0
    have hX2 := hX
    have hO2 := hO
    refine k_istore C dL_law_1011 (by decide) rfl ?_
    refine k_aload_n C dL_law_1013 rfl ?_
    refine k_aload_n C dL_law_1014 rfl ?_
    refine k_iload C dL_law_1015 rfl ?_
    refine k_iconst C dL_law_1017 ?_
    refine k_iadd C dL_law_1018 ?_
    refine k_sld C hSc (by omega) (by omega) dL_law_1019 ?_
    have hMM := CT.mono (post' := fun r h' => r = some (aI 0) ∧ MA h' (base + 127) z hi tx has hro st ln 1 re du hsh ∧ Fr h h' (base + 127) 6) (ct_X8_count l D tc base (base + 127) z hi tx has hro st ln th re du hsh h hMod (sX xs (j + 1)) hok.1 (by omega) hr1) (fun r h' hd => by rcases hd with ⟨cd, q⟩ | ⟨cd, q⟩ <;> first | (exfalso; omega) | exact q)
    refine k_callV C (ci := 8) (as := [aI (sX xs (j + 1))]) (rest := []) (n := 1) hMM ml_L_143 im_X8_count se_X8_count ini_X8 co_X8_count ⟨rfl, by decide, by decide, by decide +kernel⟩ rfl rfl hMod.1 ⟨by decide, by decide⟩ rfl (Nat.le_of_ble_eq_true rfl) hcc dL_law_1020 ?_
    rintro r h3 ⟨rfl, hM3, hF3⟩
    refine k_istore C dL_law_1023 (by decide) rfl ?_
    exact tl_count C hcc h3 _ _ _ _ _ _ (hX2.fr (fun a a0 a1 => hF3 a (by omega))) _ _ _ _ _ _ hM3 ((hF3 (base + 133) (by omega)).trans hO2) _ ⟨by omega, by omega⟩ (fun q => by omega) k
set_option maxRecDepth 20000 in
set_option maxHeartbeats 1000000 in
theorem tl_setting {D : va_G} {tc : Nat → ClassId} {base : Nat} {p : Program} {l : Launch} {e : Env} {s : State} {m : MethodId} {args : Array Value} {below : List Frame} {meth : Method} {c : Code} {cells slots : Nat} {Q : State → Prop} (C : Cx D tc base RL cL_law 9 p s m args meth c) {b : Nat} {j : Int} (hcc : cells ≤ room_1.cells ∧ slots ≤ room_1.slots) (h : AH) (z hi tx : Int → Int) (st ln : Int) (og : Int → Int) (hX : XA h base z hi tx st ln) (has hro : Int → Int) (th re du hsh : Int) (hMod : MA h (base + 127) z hi tx has hro st ln th re du hsh) (hO : h (base + 133) = some (eA 2 1 og)) (v : Int) (hth : r32 th) (hv : th = 0 → og 0 = sx v) (k : LG D tc base b p l e s m args below meth c cells slots Q j) : Wk D tc base 9 p l e room_1 s m args below meth c cells slots Q 1081 [some (aR b), some (aR base), some (aR (base + 127)), some (aR (base + 133)), some (aI j), some (aI th), some (aI v), none, none] [] h := by
  refine k_aload_n C dL_law_1081 rfl ?_
  refine k_callV C (ci := 8) (as := []) (rest := []) (n := 0) (ct_X8_thrown l D tc base (base + 127) z hi tx has hro st ln th re du hsh h hMod) ml_L_83 im_X8_thrown se_X8_thrown ini_X8 co_X8_thrown ⟨rfl, by decide, by decide, by decide +kernel⟩ rfl rfl hMod.1 ⟨by decide, by decide⟩ rfl (Nat.le_of_ble_eq_true rfl) hcc dL_law_1082 ?_
  rintro r h2 ⟨rfl, rfl⟩
  refine k_iload C dL_law_1085 rfl ?_
  refine k_icmp_same (tgt := 1092) C dL_law_1087 (by decide) ?_
  refine k_iload C dL_law_1092 rfl ?_
  have kE : Wk D tc base 9 p l e room_1 s m args below meth c cells slots Q 1109 [some (aR b), some (aR base), some (aR (base + 127)), some (aR (base + 133)), some (aI j), some (aI th), some (aI v), none, none] [] h := by
    refine k_goto (tgt := 1386) C dL_law_1109 (by decide) ?_
    have q1 := k h z hi tx st ln og ⟨hX, ⟨_, _, _, _, _, _, hMod⟩, hO⟩
    exact k_sub q1 (And.intro rfl (And.intro rfl (And.intro rfl (And.intro rfl (And.intro rfl trivial)))))
  refine k_if_ne (tgt := 1109) C dL_law_1094 (by decide) hth (fun _ => kE) (fun c0 => ?_)
  refine k_aload_n C dL_law_1097 rfl ?_
  refine k_iconst C dL_law_1098 ?_
  refine k_laload C dL_law_1099 hO (by omega) (by omega) (by omega) ?_
  refine k_iload C dL_law_1100 rfl ?_
  refine k_i2l C dL_law_1102 ?_
  refine k_lcmpNe C dL_law_1103 (fun w hw he => ?_)
  exact k_if_eq (tgt := 1109) C dL_law_1104 (by decide) hw (fun _ => kE) (fun cw => absurd (he.mpr (by rw [hv c0])) cw)
set_option maxRecDepth 20000 in
set_option maxHeartbeats 2000000 in
theorem op_setting {D : va_G} {tc : Nat → ClassId} {base : Nat} {p : Program} {l : Launch} {e : Env} {s : State} {m : MethodId} {args : Array Value} {below : List Frame} {meth : Method} {c : Code} {cells slots : Nat} {Q : State → Prop} (C : Cx D tc base RL cL_law 9 p s m args meth c) (hE : PE base s) {b LL : Nat} {xs : Nat → Int32} (hSc : Scr base b LL xs s) (hl : l.stackTraces = false) {j : Int} (hj : 0 ≤ j ∧ j + 4 ≤ LL) (hcc1 : cells + 1 ≤ room_1.cells ∧ slots + 6 ≤ room_1.slots) (h : AH) (z hi tx : Int → Int) (st ln : Int) (og : Int → Int) (hI : LI h base z hi tx st ln og) (k : LG D tc base b p l e s m args below meth c (cells + 1) (slots + 6) Q j) : Wk D tc base 9 p l e room_1 s m args below meth c cells slots Q 1056 [some (aR b), some (aR base), some (aR (base + 127)), some (aR (base + 133)), some (aI j), none, none, none, none] [] h := by
  have hcc := hcc1
  obtain ⟨hX, ⟨has, hro, th, re, du, hsh, hMod0⟩, hO⟩ := hI
  obtain ⟨⟨fs, hfx⟩, hok, h13, hst, hln, htr⟩ := hX.fx
  have hj0 := hj.1
  have hj1 := hj.2
  have hr1 := sX_r xs (j + 1)
  by_cases c1 : 0 ≤ (sX xs (j + 1)) ∧ (sX xs (j + 1)) ≤ 5
  ·
    have hC := ct_X7_setting l D tc base base z hi tx st ln h hX (sX xs (j + 1)) c1
    have hW := wn_setting l D tc base base (base + 133) og (sX xs (j + 1)) h _ 1 (by omega) hC fs hfx (fun r h' hp => ⟨_, hp.1, by rw [← hp.2]; exact hO⟩)
    refine k_aload_n C dL_law_1056 rfl ?_
    refine k_aload_n C dL_law_1057 rfl ?_
    refine k_iload C dL_law_1058 rfl ?_
    refine k_iconst C dL_law_1060 ?_
    refine k_iadd C dL_law_1061 ?_
    refine k_sld C hSc (by omega) (by omega) dL_law_1062 ?_
    refine k_aload_n C dL_law_1063 rfl ?_
    refine k_callW C hE (n := 3) (as := [aR base, aI (sX xs (j + 1)), aR (base + 133)]) (rest := []) hW ml_L_144 sm_L_setting ini_L co_L_setting ⟨by decide, by decide, by decide +kernel⟩ rfl ⟨by decide, by decide⟩ rfl (Nat.le_of_ble_eq_true rfl) hcc1 dL_law_1064 ?_
    rintro r h2 ⟨rfl, v, h1, ⟨hv, hhq⟩, rfl⟩
    have hve := Sum.inl.inj (Option.some.inj hv)
    have hX1 : XA h1 base z hi tx st ln := by rw [← hhq]; exact hX
    have hF1 : Fr h h1 base 127 := by rw [← hhq]; exact Fr.rf _ _ _
    have hX2 := hX1.fr (h' := hs h1 (base + 133) (eA 2 1 (iu og 0 (sx v)))) (fun a a0 a1 => hs_ne (by omega) rfl)
    have hMod := hMod0.fr (h' := hs h1 (base + 133) (eA 2 1 (iu og 0 (sx v)))) (fun a a0 a1 => (hs_ne (by omega) rfl).trans (hF1 a (by omega)))
    have hO2 : hs h1 (base + 133) (eA 2 1 (iu og 0 (sx v))) (base + 133) = some (eA 2 1 (iu og 0 (sx v))) := hs_eq _ _ _
    refine k_istore C dL_law_1067 (by decide) rfl ?_
    refine k_aload_n C dL_law_1069 rfl ?_
    refine k_aload_n C dL_law_1070 rfl ?_
    refine k_iload C dL_law_1071 rfl ?_
    refine k_iconst C dL_law_1073 ?_
    refine k_iadd C dL_law_1074 ?_
    refine k_sld C hSc (by omega) (by omega) dL_law_1075 ?_
    have hMM := CT.mono (post' := fun r h' => r = some (aI (z (61 + (sX xs (j + 1))))) ∧ MA h' (base + 127) z hi tx has hro st ln 0 re du hsh ∧ Fr (hs h1 (base + 133) (eA 2 1 (iu og 0 (sx v)))) h' (base + 127) 6) (ct_X8_setting l D tc base (base + 127) z hi tx has hro st ln th re du hsh (hs h1 (base + 133) (eA 2 1 (iu og 0 (sx v)))) hMod (sX xs (j + 1)) hr1) (fun r h' hd => by rcases hd with ⟨cd, q⟩ | ⟨cd, q⟩ <;> first | (exfalso; omega) | exact q)
    refine k_callV C (ci := 8) (as := [aI (sX xs (j + 1))]) (rest := []) (n := 1) hMM ml_L_146 im_X8_setting se_X8_setting ini_X8 co_X8_setting ⟨rfl, by decide, by decide, by decide +kernel⟩ rfl rfl hMod.1 ⟨by decide, by decide⟩ rfl (Nat.le_of_ble_eq_true rfl) hcc dL_law_1076 ?_
    rintro r h3 ⟨rfl, hM3, hF3⟩
    refine k_istore C dL_law_1079 (by decide) rfl ?_
    exact tl_setting C hcc h3 _ _ _ _ _ _ (hX2.fr (fun a a0 a1 => hF3 a (by omega))) _ _ _ _ _ _ hM3 ((hF3 (base + 133) (by omega)).trans hO2) _ ⟨by omega, by omega⟩ (fun _ => by rw [iu_eq, hve]) k
  ·
    have hC := tx_setting l D tc base hl base (sX xs (j + 1)) h hr1 c1
    have hW := wt_setting_1 l D tc base base (base + 133) (sX xs (j + 1)) h _ hC fs hfx
    refine k_aload_n C dL_law_1056 rfl ?_
    refine k_aload_n C dL_law_1057 rfl ?_
    refine k_iload C dL_law_1058 rfl ?_
    refine k_iconst C dL_law_1060 ?_
    refine k_iadd C dL_law_1061 ?_
    refine k_sld C hSc (by omega) (by omega) dL_law_1062 ?_
    refine k_aload_n C dL_law_1063 rfl ?_
    refine k_callW C hE (n := 3) (as := [aR base, aI (sX xs (j + 1)), aR (base + 133)]) (rest := []) hW ml_L_144 sm_L_setting ini_L co_L_setting ⟨by decide, by decide, by decide +kernel⟩ rfl ⟨by decide, by decide⟩ rfl (Nat.le_of_ble_eq_true rfl) hcc1 dL_law_1064 ?_
    rintro r h2 ⟨rfl, rfl⟩
    have hMod := hMod0
    have hX2 := hX
    have hO2 := hO
    refine k_istore C dL_law_1067 (by decide) rfl ?_
    refine k_aload_n C dL_law_1069 rfl ?_
    refine k_aload_n C dL_law_1070 rfl ?_
    refine k_iload C dL_law_1071 rfl ?_
    refine k_iconst C dL_law_1073 ?_
    refine k_iadd C dL_law_1074 ?_
    refine k_sld C hSc (by omega) (by omega) dL_law_1075 ?_
    have hMM := CT.mono (post' := fun r h' => r = some (aI 0) ∧ MA h' (base + 127) z hi tx has hro st ln 1 re du hsh ∧ Fr h h' (base + 127) 6) (ct_X8_setting l D tc base (base + 127) z hi tx has hro st ln th re du hsh h hMod (sX xs (j + 1)) hr1) (fun r h' hd => by rcases hd with ⟨cd, q⟩ | ⟨cd, q⟩ <;> first | (exfalso; omega) | exact q)
    refine k_callV C (ci := 8) (as := [aI (sX xs (j + 1))]) (rest := []) (n := 1) hMM ml_L_146 im_X8_setting se_X8_setting ini_X8 co_X8_setting ⟨rfl, by decide, by decide, by decide +kernel⟩ rfl rfl hMod.1 ⟨by decide, by decide⟩ rfl (Nat.le_of_ble_eq_true rfl) hcc dL_law_1076 ?_
    rintro r h3 ⟨rfl, hM3, hF3⟩
    refine k_istore C dL_law_1079 (by decide) rfl ?_
    exact tl_setting C hcc h3 _ _ _ _ _ _ (hX2.fr (fun a a0 a1 => hF3 a (by omega))) _ _ _ _ _ _ hM3 ((hF3 (base + 133) (by omega)).trans hO2) _ ⟨by omega, by omega⟩ (fun q => by omega) k
set_option maxRecDepth 20000 in
set_option maxHeartbeats 1000000 in
theorem tl_why {D : va_G} {tc : Nat → ClassId} {base : Nat} {p : Program} {l : Launch} {e : Env} {s : State} {m : MethodId} {args : Array Value} {below : List Frame} {meth : Method} {c : Code} {cells slots : Nat} {Q : State → Prop} (C : Cx D tc base RL cL_law 9 p s m args meth c) {b : Nat} {j : Int} (hcc : cells ≤ room_1.cells ∧ slots ≤ room_1.slots) (h : AH) (z hi tx : Int → Int) (st ln : Int) (og : Int → Int) (hX : XA h base z hi tx st ln) (has hro : Int → Int) (th re du hsh : Int) (hMod : MA h (base + 127) z hi tx has hro st ln th re du hsh) (hO : h (base + 133) = some (eA 2 1 og)) (v : Int) (hth : r32 th) (hv : th = 0 → og 0 = sx v) (k : LG D tc base b p l e s m args below meth c cells slots Q j) : Wk D tc base 9 p l e room_1 s m args below meth c cells slots Q 1137 [some (aR b), some (aR base), some (aR (base + 127)), some (aR (base + 133)), some (aI j), some (aI th), some (aI v), none, none] [] h := by
  refine k_aload_n C dL_law_1137 rfl ?_
  refine k_callV C (ci := 8) (as := []) (rest := []) (n := 0) (ct_X8_thrown l D tc base (base + 127) z hi tx has hro st ln th re du hsh h hMod) ml_L_83 im_X8_thrown se_X8_thrown ini_X8 co_X8_thrown ⟨rfl, by decide, by decide, by decide +kernel⟩ rfl rfl hMod.1 ⟨by decide, by decide⟩ rfl (Nat.le_of_ble_eq_true rfl) hcc dL_law_1138 ?_
  rintro r h2 ⟨rfl, rfl⟩
  refine k_iload C dL_law_1141 rfl ?_
  refine k_icmp_same (tgt := 1148) C dL_law_1143 (by decide) ?_
  refine k_iload C dL_law_1148 rfl ?_
  have kE : Wk D tc base 9 p l e room_1 s m args below meth c cells slots Q 1165 [some (aR b), some (aR base), some (aR (base + 127)), some (aR (base + 133)), some (aI j), some (aI th), some (aI v), none, none] [] h := by
    refine k_goto (tgt := 1386) C dL_law_1165 (by decide) ?_
    have q1 := k h z hi tx st ln og ⟨hX, ⟨_, _, _, _, _, _, hMod⟩, hO⟩
    exact k_sub q1 (And.intro rfl (And.intro rfl (And.intro rfl (And.intro rfl (And.intro rfl trivial)))))
  refine k_if_ne (tgt := 1165) C dL_law_1150 (by decide) hth (fun _ => kE) (fun c0 => ?_)
  refine k_aload_n C dL_law_1153 rfl ?_
  refine k_iconst C dL_law_1154 ?_
  refine k_laload C dL_law_1155 hO (by omega) (by omega) (by omega) ?_
  refine k_iload C dL_law_1156 rfl ?_
  refine k_i2l C dL_law_1158 ?_
  refine k_lcmpNe C dL_law_1159 (fun w hw he => ?_)
  exact k_if_eq (tgt := 1165) C dL_law_1160 (by decide) hw (fun _ => kE) (fun cw => absurd (he.mpr (by rw [hv c0])) cw)
set_option maxRecDepth 20000 in
set_option maxHeartbeats 2000000 in
theorem op_why {D : va_G} {tc : Nat → ClassId} {base : Nat} {p : Program} {l : Launch} {e : Env} {s : State} {m : MethodId} {args : Array Value} {below : List Frame} {meth : Method} {c : Code} {cells slots : Nat} {Q : State → Prop} (C : Cx D tc base RL cL_law 9 p s m args meth c) (hE : PE base s) {b LL : Nat} {xs : Nat → Int32} (hSc : Scr base b LL xs s) (hl : l.stackTraces = false) {j : Int} (hj : 0 ≤ j ∧ j + 4 ≤ LL) (hcc1 : cells + 1 ≤ room_1.cells ∧ slots + 6 ≤ room_1.slots) (h : AH) (z hi tx : Int → Int) (st ln : Int) (og : Int → Int) (hI : LI h base z hi tx st ln og) (k : LG D tc base b p l e s m args below meth c (cells + 1) (slots + 6) Q j) : Wk D tc base 9 p l e room_1 s m args below meth c cells slots Q 1112 [some (aR b), some (aR base), some (aR (base + 127)), some (aR (base + 133)), some (aI j), none, none, none, none] [] h := by
  have hcc := hcc1
  obtain ⟨hX, ⟨has, hro, th, re, du, hsh, hMod0⟩, hO⟩ := hI
  obtain ⟨⟨fs, hfx⟩, hok, h13, hst, hln, htr⟩ := hX.fx
  have hj0 := hj.1
  have hj1 := hj.2
  have hr1 := sX_r xs (j + 1)
  by_cases c1 : 0 ≤ (sX xs (j + 1)) ∧ (sX xs (j + 1)) ≤ 2
  ·
    have hC := ct_X7_why l D tc base base z hi tx st ln h hX (sX xs (j + 1)) c1
    have hW := wn_why l D tc base base (base + 133) og (sX xs (j + 1)) h _ 5 (by omega) hC fs hfx (fun r h' hp => ⟨_, hp.1, (hp.2.2 _ (by omega)).trans hO⟩)
    refine k_aload_n C dL_law_1112 rfl ?_
    refine k_aload_n C dL_law_1113 rfl ?_
    refine k_iload C dL_law_1114 rfl ?_
    refine k_iconst C dL_law_1116 ?_
    refine k_iadd C dL_law_1117 ?_
    refine k_sld C hSc (by omega) (by omega) dL_law_1118 ?_
    refine k_aload_n C dL_law_1119 rfl ?_
    refine k_callW C hE (n := 3) (as := [aR base, aI (sX xs (j + 1)), aR (base + 133)]) (rest := []) hW ml_L_147 sm_L_why ini_L co_L_why ⟨by decide, by decide, by decide +kernel⟩ rfl ⟨by decide, by decide⟩ rfl (Nat.le_of_ble_eq_true rfl) hcc1 dL_law_1120 ?_
    rintro r h2 ⟨rfl, v, h1, ⟨hv, hX1, hF1⟩, rfl⟩
    have hve := Sum.inl.inj (Option.some.inj hv)
    have hX2 := hX1.fr (h' := hs h1 (base + 133) (eA 2 1 (iu og 0 (sx v)))) (fun a a0 a1 => hs_ne (by omega) rfl)
    have hMod := hMod0.fr (h' := hs h1 (base + 133) (eA 2 1 (iu og 0 (sx v)))) (fun a a0 a1 => (hs_ne (by omega) rfl).trans (hF1 a (by omega)))
    have hO2 : hs h1 (base + 133) (eA 2 1 (iu og 0 (sx v))) (base + 133) = some (eA 2 1 (iu og 0 (sx v))) := hs_eq _ _ _
    refine k_istore C dL_law_1123 (by decide) rfl ?_
    refine k_aload_n C dL_law_1125 rfl ?_
    refine k_aload_n C dL_law_1126 rfl ?_
    refine k_iload C dL_law_1127 rfl ?_
    refine k_iconst C dL_law_1129 ?_
    refine k_iadd C dL_law_1130 ?_
    refine k_sld C hSc (by omega) (by omega) dL_law_1131 ?_
    have hMM := CT.mono (post' := fun r h' => r = some (aI (zWhy z (sX xs (j + 1)))) ∧ (∃ hax : Int → Int, MA h' (base + 127) z hi tx hax hro st ln 0 re du hsh) ∧ Fr (hs h1 (base + 133) (eA 2 1 (iu og 0 (sx v)))) h' (base + 127) 6) (ct_X8_why l D tc base (base + 127) z hi tx has hro st ln th re du hsh (hs h1 (base + 133) (eA 2 1 (iu og 0 (sx v)))) hMod (sX xs (j + 1)) hok.1 hok.2 (by omega) hr1) (fun r h' hd => by rcases hd with ⟨cd, q⟩ | ⟨cd, q⟩ <;> first | (exfalso; omega) | exact q)
    refine k_callV C (ci := 8) (as := [aI (sX xs (j + 1))]) (rest := []) (n := 1) hMM ml_L_149 im_X8_why se_X8_why ini_X8 co_X8_why ⟨rfl, by decide, by decide, by decide +kernel⟩ rfl rfl hMod.1 ⟨by decide, by decide⟩ rfl (Nat.le_of_ble_eq_true rfl) hcc dL_law_1132 ?_
    rintro r h3 ⟨rfl, ⟨hax, hM3⟩, hF3⟩
    refine k_istore C dL_law_1135 (by decide) rfl ?_
    exact tl_why C hcc h3 _ _ _ _ _ _ (hX2.fr (fun a a0 a1 => hF3 a (by omega))) _ _ _ _ _ _ hM3 ((hF3 (base + 133) (by omega)).trans hO2) _ ⟨by omega, by omega⟩ (fun _ => by rw [iu_eq, hve]) k
  ·
    have hC := tx_why l D tc base hl base (sX xs (j + 1)) h hr1 c1
    have hW := wt_why_1 l D tc base base (base + 133) (sX xs (j + 1)) h _ hC fs hfx
    refine k_aload_n C dL_law_1112 rfl ?_
    refine k_aload_n C dL_law_1113 rfl ?_
    refine k_iload C dL_law_1114 rfl ?_
    refine k_iconst C dL_law_1116 ?_
    refine k_iadd C dL_law_1117 ?_
    refine k_sld C hSc (by omega) (by omega) dL_law_1118 ?_
    refine k_aload_n C dL_law_1119 rfl ?_
    refine k_callW C hE (n := 3) (as := [aR base, aI (sX xs (j + 1)), aR (base + 133)]) (rest := []) hW ml_L_147 sm_L_why ini_L co_L_why ⟨by decide, by decide, by decide +kernel⟩ rfl ⟨by decide, by decide⟩ rfl (Nat.le_of_ble_eq_true rfl) hcc1 dL_law_1120 ?_
    rintro r h2 ⟨rfl, rfl⟩
    have hMod := hMod0
    have hX2 := hX
    have hO2 := hO
    refine k_istore C dL_law_1123 (by decide) rfl ?_
    refine k_aload_n C dL_law_1125 rfl ?_
    refine k_aload_n C dL_law_1126 rfl ?_
    refine k_iload C dL_law_1127 rfl ?_
    refine k_iconst C dL_law_1129 ?_
    refine k_iadd C dL_law_1130 ?_
    refine k_sld C hSc (by omega) (by omega) dL_law_1131 ?_
    have hMM := CT.mono (post' := fun r h' => r = some (aI 0) ∧ (∃ hax : Int → Int, MA h' (base + 127) z hi tx hax hro st ln 1 re du hsh) ∧ Fr h h' (base + 127) 6) (ct_X8_why l D tc base (base + 127) z hi tx has hro st ln th re du hsh h hMod (sX xs (j + 1)) hok.1 hok.2 (by omega) hr1) (fun r h' hd => by rcases hd with ⟨cd, q⟩ | ⟨cd, q⟩ <;> first | (exfalso; omega) | exact q)
    refine k_callV C (ci := 8) (as := [aI (sX xs (j + 1))]) (rest := []) (n := 1) hMM ml_L_149 im_X8_why se_X8_why ini_X8 co_X8_why ⟨rfl, by decide, by decide, by decide +kernel⟩ rfl rfl hMod.1 ⟨by decide, by decide⟩ rfl (Nat.le_of_ble_eq_true rfl) hcc dL_law_1132 ?_
    rintro r h3 ⟨rfl, ⟨hax, hM3⟩, hF3⟩
    refine k_istore C dL_law_1135 (by decide) rfl ?_
    exact tl_why C hcc h3 _ _ _ _ _ _ (hX2.fr (fun a a0 a1 => hF3 a (by omega))) _ _ _ _ _ _ hM3 ((hF3 (base + 133) (by omega)).trans hO2) _ ⟨by omega, by omega⟩ (fun q => by omega) k
set_option maxRecDepth 20000 in
set_option maxHeartbeats 1000000 in
theorem tl_ifPassed {D : va_G} {tc : Nat → ClassId} {base : Nat} {p : Program} {l : Launch} {e : Env} {s : State} {m : MethodId} {args : Array Value} {below : List Frame} {meth : Method} {c : Code} {cells slots : Nat} {Q : State → Prop} (C : Cx D tc base RL cL_law 9 p s m args meth c) {b : Nat} {j : Int} (hcc : cells ≤ room_1.cells ∧ slots ≤ room_1.slots) (h : AH) (z hi tx : Int → Int) (st ln : Int) (og : Int → Int) (hX : XA h base z hi tx st ln) (has hro : Int → Int) (th re du hsh : Int) (hMod : MA h (base + 127) z hi tx has hro st ln th re du hsh) (hO : h (base + 133) = some (eA 2 1 og)) (v : Int) (hth : r32 th) (hv : th = 0 → og 0 = sx v) (k : LG D tc base b p l e s m args below meth c cells slots Q j) : Wk D tc base 9 p l e room_1 s m args below meth c cells slots Q 1205 [some (aR b), some (aR base), some (aR (base + 127)), some (aR (base + 133)), some (aI j), some (aI th), some (aI v), none, none] [] h := by
  refine k_aload_n C dL_law_1205 rfl ?_
  refine k_callV C (ci := 8) (as := []) (rest := []) (n := 0) (ct_X8_thrown l D tc base (base + 127) z hi tx has hro st ln th re du hsh h hMod) ml_L_83 im_X8_thrown se_X8_thrown ini_X8 co_X8_thrown ⟨rfl, by decide, by decide, by decide +kernel⟩ rfl rfl hMod.1 ⟨by decide, by decide⟩ rfl (Nat.le_of_ble_eq_true rfl) hcc dL_law_1206 ?_
  rintro r h2 ⟨rfl, rfl⟩
  refine k_iload C dL_law_1209 rfl ?_
  refine k_icmp_same (tgt := 1216) C dL_law_1211 (by decide) ?_
  refine k_iload C dL_law_1216 rfl ?_
  have kE : Wk D tc base 9 p l e room_1 s m args below meth c cells slots Q 1233 [some (aR b), some (aR base), some (aR (base + 127)), some (aR (base + 133)), some (aI j), some (aI th), some (aI v), none, none] [] h := by
    refine k_goto (tgt := 1386) C dL_law_1233 (by decide) ?_
    have q1 := k h z hi tx st ln og ⟨hX, ⟨_, _, _, _, _, _, hMod⟩, hO⟩
    exact k_sub q1 (And.intro rfl (And.intro rfl (And.intro rfl (And.intro rfl (And.intro rfl trivial)))))
  refine k_if_ne (tgt := 1233) C dL_law_1218 (by decide) hth (fun _ => kE) (fun c0 => ?_)
  refine k_aload_n C dL_law_1221 rfl ?_
  refine k_iconst C dL_law_1222 ?_
  refine k_laload C dL_law_1223 hO (by omega) (by omega) (by omega) ?_
  refine k_iload C dL_law_1224 rfl ?_
  refine k_i2l C dL_law_1226 ?_
  refine k_lcmpNe C dL_law_1227 (fun w hw he => ?_)
  exact k_if_eq (tgt := 1233) C dL_law_1228 (by decide) hw (fun _ => kE) (fun cw => absurd (he.mpr (by rw [hv c0])) cw)
set_option maxRecDepth 20000 in
set_option maxHeartbeats 2000000 in
theorem op_ifPassed {D : va_G} {tc : Nat → ClassId} {base : Nat} {p : Program} {l : Launch} {e : Env} {s : State} {m : MethodId} {args : Array Value} {below : List Frame} {meth : Method} {c : Code} {cells slots : Nat} {Q : State → Prop} (C : Cx D tc base RL cL_law 9 p s m args meth c) (hE : PE base s) {b LL : Nat} {xs : Nat → Int32} (hSc : Scr base b LL xs s) (hl : l.stackTraces = false) {j : Int} (hj : 0 ≤ j ∧ j + 4 ≤ LL) (hcc1 : cells + 1 ≤ room_1.cells ∧ slots + 6 ≤ room_1.slots) (h : AH) (z hi tx : Int → Int) (st ln : Int) (og : Int → Int) (hI : LI h base z hi tx st ln og) (k : LG D tc base b p l e s m args below meth c (cells + 1) (slots + 6) Q j) : Wk D tc base 9 p l e room_1 s m args below meth c cells slots Q 1168 [some (aR b), some (aR base), some (aR (base + 127)), some (aR (base + 133)), some (aI j), none, none, none, none] [] h := by
  have hcc := hcc1
  obtain ⟨hX, ⟨has, hro, th, re, du, hsh, hMod0⟩, hO⟩ := hI
  obtain ⟨⟨fs, hfx⟩, hok, h13, hst, hln, htr⟩ := hX.fx
  have hj0 := hj.1
  have hj1 := hj.2
  have hr1 := sX_r xs (j + 1)
  have hr2 := sX_r xs (j + 2)
  by_cases c1 : 1 ≤ (sX xs (j + 1)) ∧ (sX xs (j + 1)) ≤ 720
  · by_cases c2 : 0 ≤ (sX xs (j + 2)) ∧ (sX xs (j + 2)) ≤ 9
    ·
      have hC0 := ct_X7_ifPassed l D tc base base z hi tx st ln h hX (sX xs (j + 1)).toNat (sX xs (j + 2)) ⟨by omega, by omega⟩ c2
      rw [show (((sX xs (j + 1)).toNat : Nat) : Int) = (sX xs (j + 1)) by omega] at hC0
      have hC := hC0
      have hW := wn_ifPassed l D tc base base (base + 133) og (sX xs (j + 1)) (sX xs (j + 2)) h _ 6 (by omega) hC fs hfx (fun r h' hp => ⟨_, hp.1, (hp.2.2 _ (by omega)).trans hO⟩)
      refine k_aload_n C dL_law_1168 rfl ?_
      refine k_aload_n C dL_law_1169 rfl ?_
      refine k_iload C dL_law_1170 rfl ?_
      refine k_iconst C dL_law_1172 ?_
      refine k_iadd C dL_law_1173 ?_
      refine k_sld C hSc (by omega) (by omega) dL_law_1174 ?_
      refine k_aload_n C dL_law_1175 rfl ?_
      refine k_iload C dL_law_1176 rfl ?_
      refine k_iconst C dL_law_1178 ?_
      refine k_iadd C dL_law_1179 ?_
      refine k_sld C hSc (by omega) (by omega) dL_law_1180 ?_
      refine k_aload_n C dL_law_1181 rfl ?_
      refine k_callW C hE (n := 4) (as := [aR base, aI (sX xs (j + 1)), aI (sX xs (j + 2)), aR (base + 133)]) (rest := []) hW ml_L_150 sm_L_ifPassed ini_L co_L_ifPassed ⟨by decide, by decide, by decide +kernel⟩ rfl ⟨by decide, by decide⟩ rfl (Nat.le_of_ble_eq_true rfl) hcc1 dL_law_1182 ?_
      rintro r h2 ⟨rfl, v, h1, ⟨hv, hX1, hF1⟩, rfl⟩
      have hve := Sum.inl.inj (Option.some.inj hv)
      have hX2 := hX1.fr (h' := hs h1 (base + 133) (eA 2 1 (iu og 0 (sx v)))) (fun a a0 a1 => hs_ne (by omega) rfl)
      have hMod := hMod0.fr (h' := hs h1 (base + 133) (eA 2 1 (iu og 0 (sx v)))) (fun a a0 a1 => (hs_ne (by omega) rfl).trans (hF1 a (by omega)))
      have hO2 : hs h1 (base + 133) (eA 2 1 (iu og 0 (sx v))) (base + 133) = some (eA 2 1 (iu og 0 (sx v))) := hs_eq _ _ _
      refine k_istore C dL_law_1185 (by decide) rfl ?_
      refine k_aload_n C dL_law_1187 rfl ?_
      refine k_aload_n C dL_law_1188 rfl ?_
      refine k_iload C dL_law_1189 rfl ?_
      refine k_iconst C dL_law_1191 ?_
      refine k_iadd C dL_law_1192 ?_
      refine k_sld C hSc (by omega) (by omega) dL_law_1193 ?_
      refine k_aload_n C dL_law_1194 rfl ?_
      refine k_iload C dL_law_1195 rfl ?_
      refine k_iconst C dL_law_1197 ?_
      refine k_iadd C dL_law_1198 ?_
      refine k_sld C hSc (by omega) (by omega) dL_law_1199 ?_
      have hMM := CT.mono (post' := fun r h' => r = some (aI (zOut (zGo z (sX xs (j + 1)).toNat) (sX xs (j + 2)))) ∧ (∃ hax : Int → Int, MA h' (base + 127) z hi tx hax hro st ln 0 re du hsh) ∧ Fr (hs h1 (base + 133) (eA 2 1 (iu og 0 (sx v)))) h' (base + 127) 6) (ct_X8_ifPassed l D tc base (base + 127) z hi tx has hro st ln th re du hsh (hs h1 (base + 133) (eA 2 1 (iu og 0 (sx v)))) hMod (sX xs (j + 1)) (sX xs (j + 2)) hok.1 hok.2 hr1 hr2 h13) (fun r h' hd => by rcases hd with ⟨cd, q⟩ | ⟨cd, q⟩ <;> first | (exfalso; omega) | exact q)
      refine k_callV C (ci := 8) (as := [aI (sX xs (j + 1)), aI (sX xs (j + 2))]) (rest := []) (n := 2) hMM ml_L_152 im_X8_ifPassed se_X8_ifPassed ini_X8 co_X8_ifPassed ⟨rfl, by decide, by decide, by decide +kernel⟩ rfl rfl hMod.1 ⟨by decide, by decide⟩ rfl (Nat.le_of_ble_eq_true rfl) hcc dL_law_1200 ?_
      rintro r h3 ⟨rfl, ⟨hax, hM3⟩, hF3⟩
      refine k_istore C dL_law_1203 (by decide) rfl ?_
      exact tl_ifPassed C hcc h3 _ _ _ _ _ _ (hX2.fr (fun a a0 a1 => hF3 a (by omega))) _ _ _ _ _ _ hM3 ((hF3 (base + 133) (by omega)).trans hO2) _ ⟨by omega, by omega⟩ (fun _ => by rw [iu_eq, hve]) k
    ·
      have hC := tx_ifPassed2 l D tc base hl base (sX xs (j + 1)) (sX xs (j + 2)) h hr2 c1 c2
      have hW := wt_ifPassed_1 l D tc base base (base + 133) (sX xs (j + 1)) (sX xs (j + 2)) h _ hC fs hfx
      refine k_aload_n C dL_law_1168 rfl ?_
      refine k_aload_n C dL_law_1169 rfl ?_
      refine k_iload C dL_law_1170 rfl ?_
      refine k_iconst C dL_law_1172 ?_
      refine k_iadd C dL_law_1173 ?_
      refine k_sld C hSc (by omega) (by omega) dL_law_1174 ?_
      refine k_aload_n C dL_law_1175 rfl ?_
      refine k_iload C dL_law_1176 rfl ?_
      refine k_iconst C dL_law_1178 ?_
      refine k_iadd C dL_law_1179 ?_
      refine k_sld C hSc (by omega) (by omega) dL_law_1180 ?_
      refine k_aload_n C dL_law_1181 rfl ?_
      refine k_callW C hE (n := 4) (as := [aR base, aI (sX xs (j + 1)), aI (sX xs (j + 2)), aR (base + 133)]) (rest := []) hW ml_L_150 sm_L_ifPassed ini_L co_L_ifPassed ⟨by decide, by decide, by decide +kernel⟩ rfl ⟨by decide, by decide⟩ rfl (Nat.le_of_ble_eq_true rfl) hcc1 dL_law_1182 ?_
      rintro r h2 ⟨rfl, rfl⟩
      have hMod := hMod0
      have hX2 := hX
      have hO2 := hO
      refine k_istore C dL_law_1185 (by decide) rfl ?_
      refine k_aload_n C dL_law_1187 rfl ?_
      refine k_aload_n C dL_law_1188 rfl ?_
      refine k_iload C dL_law_1189 rfl ?_
      refine k_iconst C dL_law_1191 ?_
      refine k_iadd C dL_law_1192 ?_
      refine k_sld C hSc (by omega) (by omega) dL_law_1193 ?_
      refine k_aload_n C dL_law_1194 rfl ?_
      refine k_iload C dL_law_1195 rfl ?_
      refine k_iconst C dL_law_1197 ?_
      refine k_iadd C dL_law_1198 ?_
      refine k_sld C hSc (by omega) (by omega) dL_law_1199 ?_
      have hMM := CT.mono (post' := fun r h' => r = some (aI 0) ∧ (∃ hax : Int → Int, MA h' (base + 127) z hi tx hax hro st ln 1 re du hsh) ∧ Fr h h' (base + 127) 6) (ct_X8_ifPassed l D tc base (base + 127) z hi tx has hro st ln th re du hsh h hMod (sX xs (j + 1)) (sX xs (j + 2)) hok.1 hok.2 hr1 hr2 h13) (fun r h' hd => by rcases hd with ⟨cd, q⟩ | ⟨cd, q⟩ <;> first | (exfalso; omega) | exact q)
      refine k_callV C (ci := 8) (as := [aI (sX xs (j + 1)), aI (sX xs (j + 2))]) (rest := []) (n := 2) hMM ml_L_152 im_X8_ifPassed se_X8_ifPassed ini_X8 co_X8_ifPassed ⟨rfl, by decide, by decide, by decide +kernel⟩ rfl rfl hMod.1 ⟨by decide, by decide⟩ rfl (Nat.le_of_ble_eq_true rfl) hcc dL_law_1200 ?_
      rintro r h3 ⟨rfl, ⟨hax, hM3⟩, hF3⟩
      refine k_istore C dL_law_1203 (by decide) rfl ?_
      exact tl_ifPassed C hcc h3 _ _ _ _ _ _ (hX2.fr (fun a a0 a1 => hF3 a (by omega))) _ _ _ _ _ _ hM3 ((hF3 (base + 133) (by omega)).trans hO2) _ ⟨by omega, by omega⟩ (fun q => by omega) k
  ·
    have hC := tx_ifPassed1 l D tc base hl base (sX xs (j + 1)) (sX xs (j + 2)) h hr1 c1
    have hW := wt_ifPassed_1 l D tc base base (base + 133) (sX xs (j + 1)) (sX xs (j + 2)) h _ hC fs hfx
    refine k_aload_n C dL_law_1168 rfl ?_
    refine k_aload_n C dL_law_1169 rfl ?_
    refine k_iload C dL_law_1170 rfl ?_
    refine k_iconst C dL_law_1172 ?_
    refine k_iadd C dL_law_1173 ?_
    refine k_sld C hSc (by omega) (by omega) dL_law_1174 ?_
    refine k_aload_n C dL_law_1175 rfl ?_
    refine k_iload C dL_law_1176 rfl ?_
    refine k_iconst C dL_law_1178 ?_
    refine k_iadd C dL_law_1179 ?_
    refine k_sld C hSc (by omega) (by omega) dL_law_1180 ?_
    refine k_aload_n C dL_law_1181 rfl ?_
    refine k_callW C hE (n := 4) (as := [aR base, aI (sX xs (j + 1)), aI (sX xs (j + 2)), aR (base + 133)]) (rest := []) hW ml_L_150 sm_L_ifPassed ini_L co_L_ifPassed ⟨by decide, by decide, by decide +kernel⟩ rfl ⟨by decide, by decide⟩ rfl (Nat.le_of_ble_eq_true rfl) hcc1 dL_law_1182 ?_
    rintro r h2 ⟨rfl, rfl⟩
    have hMod := hMod0
    have hX2 := hX
    have hO2 := hO
    refine k_istore C dL_law_1185 (by decide) rfl ?_
    refine k_aload_n C dL_law_1187 rfl ?_
    refine k_aload_n C dL_law_1188 rfl ?_
    refine k_iload C dL_law_1189 rfl ?_
    refine k_iconst C dL_law_1191 ?_
    refine k_iadd C dL_law_1192 ?_
    refine k_sld C hSc (by omega) (by omega) dL_law_1193 ?_
    refine k_aload_n C dL_law_1194 rfl ?_
    refine k_iload C dL_law_1195 rfl ?_
    refine k_iconst C dL_law_1197 ?_
    refine k_iadd C dL_law_1198 ?_
    refine k_sld C hSc (by omega) (by omega) dL_law_1199 ?_
    have hMM := CT.mono (post' := fun r h' => r = some (aI 0) ∧ (∃ hax : Int → Int, MA h' (base + 127) z hi tx hax hro st ln 1 re du hsh) ∧ Fr h h' (base + 127) 6) (ct_X8_ifPassed l D tc base (base + 127) z hi tx has hro st ln th re du hsh h hMod (sX xs (j + 1)) (sX xs (j + 2)) hok.1 hok.2 hr1 hr2 h13) (fun r h' hd => by rcases hd with ⟨cd, q⟩ | ⟨cd, q⟩ <;> first | (exfalso; omega) | exact q)
    refine k_callV C (ci := 8) (as := [aI (sX xs (j + 1)), aI (sX xs (j + 2))]) (rest := []) (n := 2) hMM ml_L_152 im_X8_ifPassed se_X8_ifPassed ini_X8 co_X8_ifPassed ⟨rfl, by decide, by decide, by decide +kernel⟩ rfl rfl hMod.1 ⟨by decide, by decide⟩ rfl (Nat.le_of_ble_eq_true rfl) hcc dL_law_1200 ?_
    rintro r h3 ⟨rfl, ⟨hax, hM3⟩, hF3⟩
    refine k_istore C dL_law_1203 (by decide) rfl ?_
    exact tl_ifPassed C hcc h3 _ _ _ _ _ _ (hX2.fr (fun a a0 a1 => hF3 a (by omega))) _ _ _ _ _ _ hM3 ((hF3 (base + 133) (by omega)).trans hO2) _ ⟨by omega, by omega⟩ (fun q => by omega) k
set_option maxRecDepth 20000 in
set_option maxHeartbeats 1000000 in
theorem tl_leastTurns {D : va_G} {tc : Nat → ClassId} {base : Nat} {p : Program} {l : Launch} {e : Env} {s : State} {m : MethodId} {args : Array Value} {below : List Frame} {meth : Method} {c : Code} {cells slots : Nat} {Q : State → Prop} (C : Cx D tc base RL cL_law 9 p s m args meth c) {b : Nat} {j : Int} (hcc : cells ≤ room_1.cells ∧ slots ≤ room_1.slots) (h : AH) (z hi tx : Int → Int) (st ln : Int) (og : Int → Int) (hX : XA h base z hi tx st ln) (has hro : Int → Int) (th re du hsh : Int) (hMod : MA h (base + 127) z hi tx has hro st ln th re du hsh) (hO : h (base + 133) = some (eA 2 1 og)) (v : Int) (hth : r32 th) (hv : th = 0 → og 0 = sx v) (k : LG D tc base b p l e s m args below meth c cells slots Q j) : Wk D tc base 9 p l e room_1 s m args below meth c cells slots Q 1287 [some (aR b), some (aR base), some (aR (base + 127)), some (aR (base + 133)), some (aI j), some (aI th), some (aI v), none, none] [] h := by
  refine k_aload_n C dL_law_1287 rfl ?_
  refine k_callV C (ci := 8) (as := []) (rest := []) (n := 0) (ct_X8_thrown l D tc base (base + 127) z hi tx has hro st ln th re du hsh h hMod) ml_L_83 im_X8_thrown se_X8_thrown ini_X8 co_X8_thrown ⟨rfl, by decide, by decide, by decide +kernel⟩ rfl rfl hMod.1 ⟨by decide, by decide⟩ rfl (Nat.le_of_ble_eq_true rfl) hcc dL_law_1288 ?_
  rintro r h2 ⟨rfl, rfl⟩
  refine k_iload C dL_law_1291 rfl ?_
  refine k_icmp_same (tgt := 1298) C dL_law_1293 (by decide) ?_
  refine k_iload C dL_law_1298 rfl ?_
  have kE : Wk D tc base 9 p l e room_1 s m args below meth c cells slots Q 1315 [some (aR b), some (aR base), some (aR (base + 127)), some (aR (base + 133)), some (aI j), some (aI th), some (aI v), none, none] [] h := by
    refine k_goto (tgt := 1386) C dL_law_1315 (by decide) ?_
    have q1 := k h z hi tx st ln og ⟨hX, ⟨_, _, _, _, _, _, hMod⟩, hO⟩
    exact k_sub q1 (And.intro rfl (And.intro rfl (And.intro rfl (And.intro rfl (And.intro rfl trivial)))))
  refine k_if_ne (tgt := 1315) C dL_law_1300 (by decide) hth (fun _ => kE) (fun c0 => ?_)
  refine k_aload_n C dL_law_1303 rfl ?_
  refine k_iconst C dL_law_1304 ?_
  refine k_laload C dL_law_1305 hO (by omega) (by omega) (by omega) ?_
  refine k_iload C dL_law_1306 rfl ?_
  refine k_i2l C dL_law_1308 ?_
  refine k_lcmpNe C dL_law_1309 (fun w hw he => ?_)
  exact k_if_eq (tgt := 1315) C dL_law_1310 (by decide) hw (fun _ => kE) (fun cw => absurd (he.mpr (by rw [hv c0])) cw)
set_option maxRecDepth 20000 in
set_option maxHeartbeats 2000000 in
theorem op_leastTurns {D : va_G} {tc : Nat → ClassId} {base : Nat} {p : Program} {l : Launch} {e : Env} {s : State} {m : MethodId} {args : Array Value} {below : List Frame} {meth : Method} {c : Code} {cells slots : Nat} {Q : State → Prop} (C : Cx D tc base RL cL_law 9 p s m args meth c) (hE : PE base s) {b LL : Nat} {xs : Nat → Int32} (hSc : Scr base b LL xs s) (hl : l.stackTraces = false) {j : Int} (hj : 0 ≤ j ∧ j + 4 ≤ LL) (hcc1 : cells + 1 ≤ room_1.cells ∧ slots + 6 ≤ room_1.slots) (h : AH) (z hi tx : Int → Int) (st ln : Int) (og : Int → Int) (hI : LI h base z hi tx st ln og) (k : LG D tc base b p l e s m args below meth c (cells + 1) (slots + 6) Q j) : Wk D tc base 9 p l e room_1 s m args below meth c cells slots Q 1262 [some (aR b), some (aR base), some (aR (base + 127)), some (aR (base + 133)), some (aI j), none, none, none, none] [] h := by
  have hcc := hcc1
  obtain ⟨hX, ⟨has, hro, th, re, du, hsh, hMod0⟩, hO⟩ := hI
  obtain ⟨⟨fs, hfx⟩, hok, h13, hst, hln, htr⟩ := hX.fx
  have hj0 := hj.1
  have hj1 := hj.2
  have hr1 := sX_r xs (j + 1)
  by_cases c1 : 1 ≤ (sX xs (j + 1)) ∧ (sX xs (j + 1)) ≤ 720
  ·
    have hC0 := ct_X7_leastTurns l D tc base base z hi tx st ln h hX (sX xs (j + 1)).toNat ⟨by omega, by omega⟩ 
    rw [show (((sX xs (j + 1)).toNat : Nat) : Int) = (sX xs (j + 1)) by omega] at hC0
    have hC := hC0
    have hW := wn_leastTurns l D tc base base (base + 133) og (sX xs (j + 1)) h _ 6 (by omega) hC fs hfx (fun r h' hp => ⟨_, hp.1.choose_spec.1, (hp.2.2 _ (by omega)).trans hO⟩)
    refine k_aload_n C dL_law_1262 rfl ?_
    refine k_aload_n C dL_law_1263 rfl ?_
    refine k_iload C dL_law_1264 rfl ?_
    refine k_iconst C dL_law_1266 ?_
    refine k_iadd C dL_law_1267 ?_
    refine k_sld C hSc (by omega) (by omega) dL_law_1268 ?_
    refine k_aload_n C dL_law_1269 rfl ?_
    refine k_callW C hE (n := 3) (as := [aR base, aI (sX xs (j + 1)), aR (base + 133)]) (rest := []) hW ml_L_161 sm_L_leastTurns ini_L co_L_leastTurns ⟨by decide, by decide, by decide +kernel⟩ rfl ⟨by decide, by decide⟩ rfl (Nat.le_of_ble_eq_true rfl) hcc1 dL_law_1270 ?_
    rintro r h2 ⟨rfl, v, h1, ⟨⟨rr, hv, hle⟩, hX1, hF1⟩, rfl⟩
    have hve := Sum.inl.inj (Option.some.inj hv)
    have hX2 := hX1.fr (h' := hs h1 (base + 133) (eA 2 1 (iu og 0 (sx v)))) (fun a a0 a1 => hs_ne (by omega) rfl)
    have hMod := hMod0.fr (h' := hs h1 (base + 133) (eA 2 1 (iu og 0 (sx v)))) (fun a a0 a1 => (hs_ne (by omega) rfl).trans (hF1 a (by omega)))
    have hO2 : hs h1 (base + 133) (eA 2 1 (iu og 0 (sx v))) (base + 133) = some (eA 2 1 (iu og 0 (sx v))) := hs_eq _ _ _
    refine k_istore C dL_law_1273 (by decide) rfl ?_
    refine k_aload_n C dL_law_1275 rfl ?_
    refine k_aload_n C dL_law_1276 rfl ?_
    refine k_iload C dL_law_1277 rfl ?_
    refine k_iconst C dL_law_1279 ?_
    refine k_iadd C dL_law_1280 ?_
    refine k_sld C hSc (by omega) (by omega) dL_law_1281 ?_
    have hMM := CT.mono (post' := fun r h' => (∃ rr : Int, r = some (aI rr) ∧ zLeast z (sX xs (j + 1)).toNat rr) ∧ (∃ hax : Int → Int, MA h' (base + 127) z hi tx hax hro st ln 0 re du hsh) ∧ Fr (hs h1 (base + 133) (eA 2 1 (iu og 0 (sx v)))) h' (base + 127) 6) (ct_X8_leastTurns l D tc base (base + 127) z hi tx has hro st ln th re du hsh (hs h1 (base + 133) (eA 2 1 (iu og 0 (sx v)))) hMod (sX xs (j + 1)) hok.1 hok.2 h13 hr1) (fun r h' hd => by rcases hd with ⟨cd, q⟩ | ⟨cd, q⟩ <;> first | (exfalso; omega) | exact q)
    refine k_callV C (ci := 8) (as := [aI (sX xs (j + 1))]) (rest := []) (n := 1) hMM ml_L_163 im_X8_leastTurns se_X8_leastTurns ini_X8 co_X8_leastTurns ⟨rfl, by decide, by decide, by decide +kernel⟩ rfl rfl hMod.1 ⟨by decide, by decide⟩ rfl (Nat.le_of_ble_eq_true rfl) hcc dL_law_1282 ?_
    rintro r h3 ⟨⟨r2, rfl, hle2⟩, ⟨hax, hM3⟩, hF3⟩
    refine k_istore C dL_law_1285 (by decide) rfl ?_
    exact tl_leastTurns C hcc h3 _ _ _ _ _ _ (hX2.fr (fun a a0 a1 => hF3 a (by omega))) _ _ _ _ _ _ hM3 ((hF3 (base + 133) (by omega)).trans hO2) _ ⟨by omega, by omega⟩ (fun _ => by rw [iu_eq, hve, zLeast_one hle hle2]) k
  ·
    have hC := tx_leastTurns l D tc base hl base (sX xs (j + 1)) h hr1 c1
    have hW := wt_leastTurns_1 l D tc base base (base + 133) (sX xs (j + 1)) h _ hC fs hfx
    refine k_aload_n C dL_law_1262 rfl ?_
    refine k_aload_n C dL_law_1263 rfl ?_
    refine k_iload C dL_law_1264 rfl ?_
    refine k_iconst C dL_law_1266 ?_
    refine k_iadd C dL_law_1267 ?_
    refine k_sld C hSc (by omega) (by omega) dL_law_1268 ?_
    refine k_aload_n C dL_law_1269 rfl ?_
    refine k_callW C hE (n := 3) (as := [aR base, aI (sX xs (j + 1)), aR (base + 133)]) (rest := []) hW ml_L_161 sm_L_leastTurns ini_L co_L_leastTurns ⟨by decide, by decide, by decide +kernel⟩ rfl ⟨by decide, by decide⟩ rfl (Nat.le_of_ble_eq_true rfl) hcc1 dL_law_1270 ?_
    rintro r h2 ⟨rfl, rfl⟩
    have hMod := hMod0
    have hX2 := hX
    have hO2 := hO
    refine k_istore C dL_law_1273 (by decide) rfl ?_
    refine k_aload_n C dL_law_1275 rfl ?_
    refine k_aload_n C dL_law_1276 rfl ?_
    refine k_iload C dL_law_1277 rfl ?_
    refine k_iconst C dL_law_1279 ?_
    refine k_iadd C dL_law_1280 ?_
    refine k_sld C hSc (by omega) (by omega) dL_law_1281 ?_
    have hMM := CT.mono (post' := fun r h' => r = some (aI 0) ∧ (∃ hax : Int → Int, MA h' (base + 127) z hi tx hax hro st ln 1 re du hsh) ∧ Fr h h' (base + 127) 6) (ct_X8_leastTurns l D tc base (base + 127) z hi tx has hro st ln th re du hsh h hMod (sX xs (j + 1)) hok.1 hok.2 h13 hr1) (fun r h' hd => by rcases hd with ⟨cd, q⟩ | ⟨cd, q⟩ <;> first | (exfalso; omega) | exact q)
    refine k_callV C (ci := 8) (as := [aI (sX xs (j + 1))]) (rest := []) (n := 1) hMM ml_L_163 im_X8_leastTurns se_X8_leastTurns ini_X8 co_X8_leastTurns ⟨rfl, by decide, by decide, by decide +kernel⟩ rfl rfl hMod.1 ⟨by decide, by decide⟩ rfl (Nat.le_of_ble_eq_true rfl) hcc dL_law_1282 ?_
    rintro r h3 ⟨rfl, ⟨hax, hM3⟩, hF3⟩
    refine k_istore C dL_law_1285 (by decide) rfl ?_
    exact tl_leastTurns C hcc h3 _ _ _ _ _ _ (hX2.fr (fun a a0 a1 => hF3 a (by omega))) _ _ _ _ _ _ hM3 ((hF3 (base + 133) (by omega)).trans hO2) _ ⟨by omega, by omega⟩ (fun q => by omega) k
