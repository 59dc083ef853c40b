set_option maxRecDepth 20000 in
set_option maxHeartbeats 1000000 in
theorem ct_X7_append (l : Launch) (D : va_G) (tc : Nat → ClassId) (base : Nat) (rc : Nat) (zrr hhi htx : Int → Int) (st ln : Int) (hpp : AH) (hX : XA hpp rc zrr hhi htx st ln) (ww : Int) (hw : 33 ≤ ww ∧ ww ≤ 126) (hl : ln < 60) : CT l D tc base yX7_append cX7_append 2 (some .int) 1 [aR rc, aI ww] hpp (fun r h' => r = some (aI (ln + 1)) ∧ XA h' rc (zrr) (hhi) (iu htx ln ww) (st) (ln + 1) ∧ Fr hpp h' rc 127) := by
  refine CT.of [some (aR rc), some (aI ww)] (by decide +kernel) rfl (Nat.le_of_ble_eq_true rfl) ?_
  intro p e s m args below meth c C hr hnm
  obtain ⟨zth, gr, x0, hS, hT, hH, hTx, x5, hok, h13, hst⟩ := id hX
  obtain ⟨ol, ff, hol, hj0, -⟩ := id hH
  obtain ⟨fsn, hsn0⟩ := hS.obj
  have hi := hok.1
  obtain ⟨⟨v0, v1, v2, v9, v10, v11, v12, v13, v21, v52, v61, v62, v63, v64, v65, v66⟩, hwi, hde⟩ := id hi
  obtain ⟨sg, t0, t1, hln, hsg, qa, qb, qc, qd, t2⟩ := id hTx
  refine k_iload_n C dX7_append_0 rfl ?_
  refine k_bipush C dX7_append_1 (by decide +kernel) ?_
  refine k_bipush C dX7_append_3 (by decide +kernel) ?_
  refine k_callS C (n := 3) (as := [_, _, _]) (ct_X7_requireRange l D tc base _ _ _ _ ⟨by omega, by omega⟩ ⟨by omega, by omega⟩ ⟨by omega, by omega⟩) ml_X7_41 sm_X7_requireRange ini_X7 co_X7_requireRange ⟨by decide, by decide, by decide +kernel⟩ rfl ⟨by decide, by decide⟩ rfl (Nat.le_of_ble_eq_true rfl) ⟨Nat.zero_le _, Nat.zero_le _⟩ dX7_append_5 ?_
  rintro _ _ ⟨rfl, rfl⟩
  refine k_aload_n C dX7_append_8 rfl ?_
  refine k_get C (k := 3) inX7 (ci := 7) rfl (by decide) fl_X7_29 dX7_append_9 (by repeat (first | exact hs_eq _ _ _ | refine hs_ne (by omega) ?_ | assumption)) rfl ?_
  refine k_get C (k := 0) inX4 (ci := 4) rfl (by decide) fl_X7_140 dX7_append_12 (by repeat (first | exact hs_eq _ _ _ | refine hs_ne (by omega) ?_ | assumption)) rfl ?_
  refine k_bipush C dX7_append_15 (by decide +kernel) ?_
  refine k_icmp_lt (tgt := 30) C dX7_append_17 (by decide) ⟨by omega, by omega⟩ ⟨by omega, by omega⟩ (fun c17 => ?_) (fun c17 => ?_)
  · try (exfalso; omega)
    all_goals (
      refine k_aload_n C dX7_append_30 rfl ?_
      refine k_get C (k := 3) inX7 (ci := 7) rfl (by decide) fl_X7_29 dX7_append_31 (by repeat (first | exact hs_eq _ _ _ | refine hs_ne (by omega) ?_ | assumption)) rfl ?_
      refine k_iload_n C dX7_append_34 rfl ?_
      refine k_i2c C (by omega) (by omega) dX7_append_35 ?_
      refine k_callV C (n := 1) (as := [_]) (ct_X4_add l D tc base (rc + 123) ln htx _ hTx _ hw hl) ml_X7_145 im_X4_add se_X4_add ini_X4 co_X4_add ⟨rfl, by decide, by decide, by decide +kernel⟩ rfl (ci := 4) rfl (by repeat (first | exact hs_eq _ _ _ | refine hs_ne (by omega) ?_ | assumption)) ⟨by decide, by decide⟩ rfl (Nat.le_of_ble_eq_true rfl) ⟨Nat.zero_le _, Nat.zero_le _⟩ dX7_append_36 ?_
      rintro _ hap ⟨rfl, hTa, hFa⟩
      have x02 := (hFa rc (by omega)).trans x0
      obtain ⟨sg2, t02, -⟩ := id hTa
      refine k_aload_n C dX7_append_39 rfl ?_
      refine k_get C (k := 3) inX7 (ci := 7) rfl (by decide) fl_X7_29 dX7_append_40 (by repeat (first | exact hs_eq _ _ _ | refine hs_ne (by omega) ?_ | assumption)) rfl ?_
      refine k_get C (k := 0) inX4 (ci := 4) rfl (by decide) fl_X7_140 dX7_append_43 (by repeat (first | exact hs_eq _ _ _ | refine hs_ne (by omega) ?_ | assumption)) rfl ?_
      refine k_iret C hr dX7_append_46 ?_
      exact ⟨rfl, hX.text hFa hTa, hFa.wide (by omega) (by omega)⟩)
  · try (exfalso; omega)
    all_goals (
      exfalso
      omega)

set_option maxRecDepth 20000 in
set_option maxHeartbeats 1000000 in
theorem ct_X7_clearBuffer (l : Launch) (D : va_G) (tc : Nat → ClassId) (base : Nat) (rc : Nat) (zrr hhi htx : Int → Int) (st ln : Int) (hpp : AH) (hX : XA hpp rc zrr hhi htx st ln) : CT l D tc base yX7_clearBuffer cX7_clearBuffer 2 (some .int) 0 [aR rc] hpp (fun r h' => r = some (aI (ln)) ∧ XA h' rc (zrr) (hhi) (htx) (st) (0) ∧ Fr hpp h' rc 127) := by
  refine CT.of [some (aR rc), none] (by decide +kernel) rfl (Nat.le_of_ble_eq_true rfl) ?_
  intro p e s m args below meth c C hr hnm
  obtain ⟨zth, gr, x0, hS, hT, hH, hTx, x5, hok, h13, hst⟩ := id hX
  obtain ⟨ol, ff, hol, hj0, -⟩ := id hH
  obtain ⟨fsn, hsn0⟩ := hS.obj
  have hi := hok.1
  obtain ⟨⟨v0, v1, v2, v9, v10, v11, v12, v13, v21, v52, v61, v62, v63, v64, v65, v66⟩, hwi, hde⟩ := id hi
  obtain ⟨sg, t0, t1, hln, hsg, qa, qb, qc, qd, t2⟩ := id hTx
  refine k_aload_n C dX7_clearBuffer_0 rfl ?_
  refine k_get C (k := 3) inX7 (ci := 7) rfl (by decide) fl_X7_29 dX7_clearBuffer_1 (by repeat (first | exact hs_eq _ _ _ | refine hs_ne (by omega) ?_ | assumption)) rfl ?_
  refine k_get C (k := 0) inX4 (ci := 4) rfl (by decide) fl_X7_140 dX7_clearBuffer_4 (by repeat (first | exact hs_eq _ _ _ | refine hs_ne (by omega) ?_ | assumption)) rfl ?_
  refine k_istore_n C dX7_clearBuffer_7 (by decide) rfl ?_
  refine k_aload_n C dX7_clearBuffer_8 rfl ?_
  refine k_get C (k := 3) inX7 (ci := 7) rfl (by decide) fl_X7_29 dX7_clearBuffer_9 (by repeat (first | exact hs_eq _ _ _ | refine hs_ne (by omega) ?_ | assumption)) rfl ?_
  refine k_iconst C dX7_clearBuffer_12 ?_
  refine k_put C (k := 0) inX4 tyX4_ok nmX4 (ci := 4) rfl (by decide) fl_X7_140 rfl (Nat.le_of_ble_eq_true rfl) dX7_clearBuffer_13 (by repeat (first | exact hs_eq _ _ _ | refine hs_ne (by omega) ?_ | assumption)) ?_
  refine k_iload_n C dX7_clearBuffer_16 rfl ?_
  refine k_iret C hr dX7_clearBuffer_17 ?_
  exact ⟨rfl, hX.text (fun aaa haa => by repeat (first | rfl | refine hs_ne (by omega) ?_)) ⟨sg, (by repeat (first | exact hs_eq _ _ _ | refine hs_ne (by omega) ?_ | assumption)), (by repeat (first | exact hs_eq _ _ _ | refine hs_ne (by omega) ?_ | assumption)), ⟨by omega, by omega⟩, fun k h0 h1 => by omega, qa, qb, qc, qd, (by repeat (first | exact hs_eq _ _ _ | refine hs_ne (by omega) ?_ | assumption))⟩, Fr.wide (o := rc + 123) (n := 3) (fun aaa haa => by repeat (first | rfl | refine hs_ne (by omega) ?_)) (by omega) (by omega)⟩

set_option maxRecDepth 20000 in
set_option maxHeartbeats 1000000 in
theorem ct_X7_firstError (l : Launch) (D : va_G) (tc : Nat → ClassId) (base : Nat) (rc : Nat) (zrr hhi htx : Int → Int) (st ln : Int) (hpp : AH) (hX : XA hpp rc zrr hhi htx st ln) (hro : Int → Int) : CT l D tc base yX7_firstError cX7_firstError 1 (some .int) 4 [aR rc] hpp (fun r h' => ∃ nn : Nat, r = some (aI nn) ∧ nn ≤ ln ∧ pFine htx hro nn ∧ ((nn : Int) = ln ∨ ((nn : Int) < ln ∧ ¬ pOk (htx nn) (pS htx hro nn).1 (pS htx hro nn).2.1 (pS htx hro nn).2.2)) ∧ XA h' rc (zrr) (hhi) (htx) (st) (ln) ∧ Fr hpp h' rc 127) := by
  refine CT.of [some (aR rc)] (by decide +kernel) rfl (Nat.le_of_ble_eq_true rfl) ?_
  intro p e s m args below meth c C hr hnm
  obtain ⟨zth, gr, x0, hS, hT, hH, hTx, x5, hok, h13, hst⟩ := id hX
  obtain ⟨ol, ff, hol, hj0, -⟩ := id hH
  obtain ⟨fsn, hsn0⟩ := hS.obj
  have hi := hok.1
  obtain ⟨⟨v0, v1, v2, v9, v10, v11, v12, v13, v21, v52, v61, v62, v63, v64, v65, v66⟩, hwi, hde⟩ := id hi
  obtain ⟨sg, t0, t1, hln, hsg, qa, qb, qc, qd, t2⟩ := id hTx
  refine k_aload_n C dX7_firstError_0 rfl ?_
  refine k_get C (k := 3) inX7 (ci := 7) rfl (by decide) fl_X7_29 dX7_firstError_1 (by repeat (first | exact hs_eq _ _ _ | refine hs_ne (by omega) ?_ | assumption)) rfl ?_
  refine k_callV C (n := 0) (as := []) (ct_X4_readToError l D tc base (rc + 123) ln htx _ hTx hro) ml_X7_148 im_X4_readToError se_X4_readToError ini_X4 co_X4_readToError ⟨rfl, by decide, by decide, by decide +kernel⟩ rfl (ci := 4) rfl (by repeat (first | exact hs_eq _ _ _ | refine hs_ne (by omega) ?_ | assumption)) ⟨by decide, by decide⟩ rfl (Nat.le_of_ble_eq_true rfl) ⟨Nat.zero_le _, Nat.zero_le _⟩ dX7_firstError_4 ?_
  rintro _ hrr ⟨nn, rfl, hn1, hpf, hn3, hFk⟩
  refine k_iret C hr dX7_firstError_7 ?_
  have hTa : TxA hrr (rc + 123) ln htx := by
    refine ⟨sg, (hFk _ (by omega)).trans t0, (hFk _ (by omega)).trans t1, hln, hsg, ?_⟩
    rcases hn3 with ⟨-, a, b, c, q2, -⟩ | ⟨-, -, q2⟩
    · exact ⟨_, a, b, c, q2⟩
    · exact q2
  refine ⟨nn, rfl, hn1, hpf, ?_, hX.text (hFk.wide (by omega) (by omega)) hTa, hFk.wide (by omega) (by omega)⟩
  rcases hn3 with ⟨q1, -⟩ | ⟨q1, q2, -⟩
  · exact Or.inl q1
  · exact Or.inr ⟨q1, q2⟩

set_option maxRecDepth 20000 in
set_option maxHeartbeats 1000000 in
theorem ct_X7_load (l : Launch) (D : va_G) (tc : Nat → ClassId) (base : Nat) (rc : Nat) (zrr hhi htx : Int → Int) (st ln : Int) (hpp : AH) (hX : XA hpp rc zrr hhi htx st ln) (hro : Int → Int) (hwh : pWhole htx hro ln.toNat) (hse : (pS htx hro ln.toNat).1 + 1 ≤ 6) : CT l D tc base yX7_load cX7_load 1 (some .int) 5 [aR rc] hpp (fun r h' => r = some (aI ((pS htx hro ln.toNat).1 + 1)) ∧ XA h' rc (zLd zrr (pS htx hro ln.toNat).2.2 ((pS htx hro ln.toNat).1 + 1).toNat) (sHi zrr hhi st) (htx) (sSt st) (0) ∧ Fr hpp h' rc 127) := by
  refine CT.of [some (aR rc)] (by decide +kernel) rfl (Nat.le_of_ble_eq_true rfl) ?_
  intro p e s m args below meth c C hr hnm
  obtain ⟨zth, gr, x0, hS, hT, hH, hTx, x5, hok, h13, hst⟩ := id hX
  obtain ⟨ol, ff, hol, hj0, -⟩ := id hH
  obtain ⟨fsn, hsn0⟩ := hS.obj
  have hi := hok.1
  obtain ⟨⟨v0, v1, v2, v9, v10, v11, v12, v13, v21, v52, v61, v62, v63, v64, v65, v66⟩, hwi, hde⟩ := id hi
  obtain ⟨sg, t0, t1, hln, hsg, qa, qb, qc, qd, t2⟩ := id hTx
  have hcn := cN_read hwh.1
  have hpi := pInv_run hwh.1
  have hp0 := hpi.1.1
  refine k_aload_n C dX7_load_0 rfl ?_
  refine k_get C (k := 3) inX7 (ci := 7) rfl (by decide) fl_X7_29 dX7_load_1 (by repeat (first | exact hs_eq _ _ _ | refine hs_ne (by omega) ?_ | assumption)) rfl ?_
  refine k_callV C (n := 0) (as := []) (ct_X4_isListOfRounds l D tc base (rc + 123) ln htx _ hTx hro) ml_X7_151 im_X4_isListOfRounds se_X4_isListOfRounds ini_X4 co_X4_isListOfRounds ⟨rfl, by decide, by decide, by decide +kernel⟩ rfl (ci := 4) rfl (by repeat (first | exact hs_eq _ _ _ | refine hs_ne (by omega) ?_ | assumption)) ⟨by decide, by decide⟩ rfl (Nat.le_of_ble_eq_true rfl) ⟨Nat.zero_le _, Nat.zero_le _⟩ dX7_load_4 ?_
  rintro _ hil ⟨hil0, hTi, hFi⟩
  have hXi := hX.text hFi hTi
  obtain ⟨zth1, gr1, x01, hS0, hT0, hH0, hTx0, x51, -, -, -⟩ := id hXi
  obtain ⟨rfl, -⟩ := hil0.resolve_right (fun q => q.2 hwh)
  obtain ⟨sg0, t00, -⟩ := id hTi
  obtain ⟨ol0, ff0, hol0, hj00, -⟩ := id hH0
  obtain ⟨fsn0, hsn00⟩ := hS0.obj
  refine k_if_ne (tgt := 20) C dX7_load_7 (by decide) ⟨by omega, by omega⟩ (fun c7 => ?_) (fun c7 => ?_)
  · try (exfalso; omega)
    all_goals (
      refine k_aload_n C dX7_load_20 rfl ?_
      refine k_get C (k := 3) inX7 (ci := 7) rfl (by decide) fl_X7_29 dX7_load_21 (by repeat (first | exact hs_eq _ _ _ | refine hs_ne (by omega) ?_ | assumption)) rfl ?_
      refine k_callV C (n := 0) (as := []) (ct_X4_separators l D tc base (rc + 123) ln htx _ hTi) ml_X7_160 im_X4_separators se_X4_separators ini_X4 co_X4_separators ⟨rfl, by decide, by decide, by decide +kernel⟩ rfl (ci := 4) rfl (by repeat (first | exact hs_eq _ _ _ | refine hs_ne (by omega) ?_ | assumption)) ⟨by decide, by decide⟩ rfl (Nat.le_of_ble_eq_true rfl) ⟨Nat.zero_le _, Nat.zero_le _⟩ dX7_load_24 ?_
      rintro _ _ ⟨rfl, rfl⟩
      rw [hcn]
      refine k_bipush C dX7_load_27 (by decide +kernel) ?_
      refine k_icmp_lt (tgt := 42) C dX7_load_29 (by decide) ⟨by omega, by omega⟩ ⟨by omega, by omega⟩ (fun c29 => ?_) (fun c29 => ?_)
      · try (exfalso; omega)
        all_goals (
          refine k_aload_n C dX7_load_42 rfl ?_
          refine k_get C (k := 2) inX7 (ci := 7) rfl (by decide) fl_X7_22 dX7_load_43 (by repeat (first | exact hs_eq _ _ _ | refine hs_ne (by omega) ?_ | assumption)) rfl ?_
          refine k_aload_n C dX7_load_46 rfl ?_
          refine k_get C (k := 0) inX7 (ci := 7) rfl (by decide) fl_X7_10 dX7_load_47 (by repeat (first | exact hs_eq _ _ _ | refine hs_ne (by omega) ?_ | assumption)) rfl ?_
          refine k_callV C (n := 1) (as := [_]) (ct_X1_keep l D tc base (rc + 31) (rc + 1) st hhi zrr _ hH0 hS0 hst (by omega) hok h13) ml_X7_45 im_X1_keep se_X1_keep ini_X1 co_X1_keep ⟨rfl, by decide, by decide, by decide +kernel⟩ rfl (ci := 1) rfl (by repeat (first | exact hs_eq _ _ _ | refine hs_ne (by omega) ?_ | assumption)) ⟨by decide, by decide⟩ rfl (Nat.le_of_ble_eq_true rfl) ⟨Nat.zero_le _, Nat.zero_le _⟩ dX7_load_50 ?_
          rintro _ hkp ⟨rfl, hHk, hFk⟩
          have hXk := hXi.keep hFk hHk (sSt_rng hst)
          obtain ⟨zt1, gr2, x02, hS1, hT1, hH1, hTx1, x52, -, -, hst1⟩ := id hXk
          obtain ⟨sg1, t01, t11, -⟩ := id hTx1
          obtain ⟨f1, f2, f3, w1, w2, w3, w4, w5, d1, d2, se, ⟨g0, g1, g2, g3, g4, g5, g6, g7, g8, g9, g10, g11, g12, g13, g14⟩, hsr⟩ := id hS1
          obtain ⟨r1, r2, r3, r4⟩ := id hsr
          refine k_aload_n C dX7_load_53 rfl ?_
          refine k_get C (k := 3) inX7 (ci := 7) rfl (by decide) fl_X7_29 dX7_load_54 (by repeat (first | exact hs_eq _ _ _ | refine hs_ne (by omega) ?_ | assumption)) rfl ?_
          refine k_aload_n C dX7_load_57 rfl ?_
          refine k_get C (k := 0) inX7 (ci := 7) rfl (by decide) fl_X7_10 dX7_load_58 (by repeat (first | exact hs_eq _ _ _ | refine hs_ne (by omega) ?_ | assumption)) rfl ?_
          refine k_get C (k := 1) inX3 (ci := 3) rfl (by decide) fl_X7_105 dX7_load_61 (by repeat (first | exact hs_eq _ _ _ | refine hs_ne (by omega) ?_ | assumption)) rfl ?_
          refine k_aload_n C dX7_load_64 rfl ?_
          refine k_get C (k := 0) inX7 (ci := 7) rfl (by decide) fl_X7_10 dX7_load_65 (by repeat (first | exact hs_eq _ _ _ | refine hs_ne (by omega) ?_ | assumption)) rfl ?_
          refine k_get C (k := 4) inX3 (ci := 3) rfl (by decide) fl_X7_119 dX7_load_68 (by repeat (first | exact hs_eq _ _ _ | refine hs_ne (by omega) ?_ | assumption)) rfl ?_
          refine k_callV C (n := 2) (as := [_, _]) (ct_X4_hireInto l D tc base (rc + 123) ln htx _ hTx1 (rc + 1 + 5) w1 w2 w3 w4 w5 (zrr 21) (by repeat (first | exact hs_eq _ _ _ | refine hs_ne (by omega) ?_ | assumption)) (by repeat (first | exact hs_eq _ _ _ | refine hs_ne (by omega) ?_ | assumption)) (by repeat (first | exact hs_eq _ _ _ | refine hs_ne (by omega) ?_ | assumption)) (by repeat (first | exact hs_eq _ _ _ | refine hs_ne (by omega) ?_ | assumption)) (by repeat (first | exact hs_eq _ _ _ | refine hs_ne (by omega) ?_ | assumption)) (by repeat (first | exact hs_eq _ _ _ | refine hs_ne (by omega) ?_ | assumption)) hro (zrr 13) hwh (by omega) (by omega)) ml_X7_165 im_X4_hireInto se_X4_hireInto ini_X4 co_X4_hireInto ⟨rfl, by decide, by decide, by decide +kernel⟩ rfl (ci := 4) rfl (by repeat (first | exact hs_eq _ _ _ | refine hs_ne (by omega) ?_ | assumption)) ⟨by decide, by decide⟩ rfl (Nat.le_of_ble_eq_true rfl) ⟨Nat.zero_le _, Nat.zero_le _⟩ dX7_load_71 ?_
          rintro _ hhi2 ⟨rfl, hWn, hrd, hFh⟩
          obtain ⟨F1, F2, F3, F4, F5, y0, y1, y2, y3, y4, y5, hwm⟩ := id hWn
          have x03 := (hFh rc (by omega) (by omega)).trans x02
          have g00 := (hFh (rc + 1) (by omega) (by omega)).trans g0
          have t02 := (hFh (rc + 123) (by omega) (by omega)).trans t01
          refine k_aload_n C dX7_load_74 rfl ?_
          refine k_get C (k := 3) inX7 (ci := 7) rfl (by decide) fl_X7_29 dX7_load_75 (by repeat (first | exact hs_eq _ _ _ | refine hs_ne (by omega) ?_ | assumption)) rfl ?_
          refine k_iconst C dX7_load_78 ?_
          refine k_put C (k := 0) inX4 tyX4_ok nmX4 (ci := 4) rfl (by decide) fl_X7_140 rfl (Nat.le_of_ble_eq_true rfl) dX7_load_79 (by repeat (first | exact hs_eq _ _ _ | refine hs_ne (by omega) ?_ | assumption)) ?_
          refine k_aload_n C dX7_load_82 rfl ?_
          refine k_get C (k := 0) inX7 (ci := 7) rfl (by decide) fl_X7_10 dX7_load_83 (by repeat (first | exact hs_eq _ _ _ | refine hs_ne (by omega) ?_ | assumption)) rfl ?_
          refine k_get C (k := 1) inX3 (ci := 3) rfl (by decide) fl_X7_105 dX7_load_86 (by repeat (first | exact hs_eq _ _ _ | refine hs_ne (by omega) ?_ | assumption)) rfl ?_
          refine k_get C (k := 0) inX6 (ci := 6) rfl (by decide) fl_X7_109 dX7_load_89 (by repeat (first | exact hs_eq _ _ _ | refine hs_ne (by omega) ?_ | assumption)) rfl ?_
          refine k_iret C hr dX7_load_92 ?_
          have en : ((((pS htx hro ln.toNat).1 + 1).toNat : Nat) : Int) = (pS htx hro ln.toNat).1 + 1 := by omega
          have hl := zLd_row (z := zrr) (ro := (pS htx hro ln.toNat).2.2) ((pS htx hro ln.toNat).1 + 1).toNat
          have hl21 := zLd_21 (z := zrr) (ro := (pS htx hro ln.toNat).2.2) (k := ((pS htx hro ln.toNat).1 + 1).toNat)
          have hsl := hsr.ld (ro := (pS htx hro ln.toNat).2.2) (n := ((pS htx hro ln.toNat).1 + 1).toNat) (by omega) (by rw [en]; exact hwm)
          have hl2 : ∀ jj : Int, (jj < 21 ∨ 52 ≤ jj) → zLd zrr (pS htx hro ln.toNat).2.2 ((pS htx hro ln.toNat).1 + 1).toNat jj = zrr jj := fun jj hj => hl.2 jj (by omega)
          have hil : zInv (zLd zrr (pS htx hro ln.toNat).2.2 ((pS htx hro ln.toNat).1 + 1).toNat) := zInv_ld hi _ (by omega) (fun jj j0 j1 => by
            by_cases hj : jj < (pS htx hro ln.toNat).1
            · exact hpi.2.2.2 jj j0 hj
            · have ej : jj = (pS htx hro ln.toNat).1 := by omega
              have h1 := hpi.2.1 (by rw [hwh.2.1]; omega)
              have h2 := hpi.2.2.1 hwh.2.1
              have h3 := hwh.2.2
              rw [ej]
              exact ⟨h1.1, ⟨h2, h1.2.1.2⟩, ⟨by omega, h1.2.2.2⟩⟩)
          have hln2 := hl2 13 (by omega)
          have hokl : zOk (zLd zrr (pS htx hro ln.toNat).2.2 ((pS htx hro ln.toNat).1 + 1).toNat) := zOk_of hok hil hln2 (hl2 18 (by omega)) (hl2 19 (by omega))
          obtain ⟨ra, rb, rd, re, hrd2⟩ := hrd
          refine ⟨rfl, ⟨zt1, gr2, (by repeat (first | exact hs_eq _ _ _ | refine hs_ne (by omega) ?_ | assumption)), ⟨f1, f2, f3, F1, F2, F3, F4, F5, d1, d2, se, ⟨?_, ?_, ?_, ?_, ?_, ?_, ?_, ?_, ?_, ?_, ?_, ?_, ?_, ?_, ?_⟩, hsl⟩, ?_, ?_, ⟨sg1, (by repeat (first | exact hs_eq _ _ _ | refine hs_ne (by omega) ?_ | assumption)), ?_, ⟨by omega, by omega⟩, fun k h0 h1 => by omega, ra, rb, rd, re, (by repeat (first | exact hs_eq _ _ _ | refine hs_ne (by omega) ?_ | assumption))⟩, ?_, hokl, by omega, hst1⟩, ?_⟩
          · simp (disch := omega) only [hl2]
            exact hs_ne (by omega) g00
          · exact hs_ne (by omega) ((hFh _ (by omega) (by omega)).trans g1)
          · exact hs_ne (by omega) ((hFh _ (by omega) (by omega)).trans g2)
          · exact hs_ne (by omega) ((hFh _ (by omega) (by omega)).trans g3)
          · exact hs_ne (by omega) ((hFh _ (by omega) (by omega)).trans g4)
          · rw [hl21, en]
            exact hs_ne (by omega) y0
          · exact hs_ne (by omega) y1
          · exact hs_ne (by omega) y2
          · exact hs_ne (by omega) y3
          · exact hs_ne (by omega) y4
          · exact hs_ne (by omega) y5
          · rw [hl2 52 (by omega)]
            exact hs_ne (by omega) ((hFh _ (by omega) (by omega)).trans g11)
          · exact hs_ne (by omega) ((hFh _ (by omega) (by omega)).trans g12)
          · exact hs_ne (by omega) ((hFh _ (by omega) (by omega)).trans g13)
          · exact hs_ne (by omega) ((hFh _ (by omega) (by omega)).trans g14)
          · exact hT1.fr (fun a a0 a1 => hs_ne (by omega) (hFh a (by omega) (by omega)))
          · exact hH1.fr (fun a a0 a1 => hs_ne (by omega) (hFh a (by omega) (by omega))) hst1.2
          · exact hs_ne (by omega) ((hFh _ (by omega) (by omega)).trans t11)
          · exact hs_ne (by omega) ((hFh _ (by omega) (by omega)).trans x52)
          · exact Fr.tr (hFi.wide (by omega) (by omega)) (Fr.tr (hFk.wide (by omega) (by omega)) (fun a ha => hs_ne (by omega) (hFh a (by omega) (by omega)))))
      · try (exfalso; omega)
        all_goals (
          exfalso
          omega))
  · try (exfalso; omega)
    all_goals (
      exfalso
      omega)

set_option maxRecDepth 20000 in
set_option maxHeartbeats 1000000 in
theorem ct_X7_undo (l : Launch) (D : va_G) (tc : Nat → ClassId) (base : Nat) (rc : Nat) (zrr hhi htx : Int → Int) (st ln : Int) (hpp : AH) (hX : XA hpp rc zrr hhi htx st ln) (hs1 : 1 ≤ st) : CT l D tc base yX7_undo cX7_undo 1 (some .int) 4 [aR rc] hpp (fun r h' => r = some (aI (st - 1)) ∧ XA h' rc (hRow hhi (st - 1).toNat) (hhi) (htx) (st - 1) (ln) ∧ Fr hpp h' rc 127) := by
  refine CT.of [some (aR rc)] (by decide +kernel) rfl (Nat.le_of_ble_eq_true rfl) ?_
  intro p e s m args below meth c C hr hnm
  obtain ⟨zth, gr, x0, hS, hT, hH, hTx, x5, hok, h13, hst⟩ := id hX
  obtain ⟨ol, ff, hol, hj0, -⟩ := id hH
  obtain ⟨fsn, hsn0⟩ := hS.obj
  have hi := hok.1
  obtain ⟨⟨v0, v1, v2, v9, v10, v11, v12, v13, v21, v52, v61, v62, v63, v64, v65, v66⟩, hwi, hde⟩ := id hi
  obtain ⟨ol, ff, hol, j0, j1, hff, hsl, hrw⟩ := id hH
  refine k_aload_n C dX7_undo_0 rfl ?_
  refine k_get C (k := 2) inX7 (ci := 7) rfl (by decide) fl_X7_22 dX7_undo_1 (by repeat (first | exact hs_eq _ _ _ | refine hs_ne (by omega) ?_ | assumption)) rfl ?_
  refine k_get C (k := 0) inX1 (ci := 1) rfl (by decide) fl_X7_169 dX7_undo_4 (by repeat (first | exact hs_eq _ _ _ | refine hs_ne (by omega) ?_ | assumption)) rfl ?_
  refine k_if_ne (tgt := 20) C dX7_undo_7 (by decide) ⟨by omega, by omega⟩ (fun c7 => ?_) (fun c7 => ?_)
  · try (exfalso; omega)
    all_goals (
      refine k_aload_n C dX7_undo_20 rfl ?_
      refine k_get C (k := 2) inX7 (ci := 7) rfl (by decide) fl_X7_22 dX7_undo_21 (by repeat (first | exact hs_eq _ _ _ | refine hs_ne (by omega) ?_ | assumption)) rfl ?_
      refine k_aload_n C dX7_undo_24 rfl ?_
      refine k_get C (k := 0) inX7 (ci := 7) rfl (by decide) fl_X7_10 dX7_undo_25 (by repeat (first | exact hs_eq _ _ _ | refine hs_ne (by omega) ?_ | assumption)) rfl ?_
      refine k_callV C (n := 1) (as := [_]) (ct_X1_giveBack l D tc base (rc + 31) (rc + 1) st hhi zrr _ hH hS ⟨by omega, by omega⟩ (by omega)) ml_X7_172 im_X1_giveBack se_X1_giveBack ini_X1 co_X1_giveBack ⟨rfl, by decide, by decide, by decide +kernel⟩ rfl (ci := 1) rfl (by repeat (first | exact hs_eq _ _ _ | refine hs_ne (by omega) ?_ | assumption)) ⟨by decide, by decide⟩ rfl (Nat.le_of_ble_eq_true rfl) ⟨Nat.zero_le _, Nat.zero_le _⟩ dX7_undo_28 ?_
      rintro _ hgb ⟨rfl, hHg, hSg, hFg⟩
      have x02 := (hFg rc (by omega) (by omega)).trans x0
      obtain ⟨ol2, ff2, hol2, j02, -⟩ := id hHg
      refine k_aload_n C dX7_undo_31 rfl ?_
      refine k_get C (k := 2) inX7 (ci := 7) rfl (by decide) fl_X7_22 dX7_undo_32 (by repeat (first | exact hs_eq _ _ _ | refine hs_ne (by omega) ?_ | assumption)) rfl ?_
      refine k_get C (k := 0) inX1 (ci := 1) rfl (by decide) fl_X7_169 dX7_undo_35 (by repeat (first | exact hs_eq _ _ _ | refine hs_ne (by omega) ?_ | assumption)) rfl ?_
      refine k_iret C hr dX7_undo_38 ?_
      have hrk := hrw (st - 1).toNat (by omega)
      refine ⟨rfl, ⟨zth, gr, x02, hSg, hT.fr (fun a a0 a1 => hFg a (by omega) (by omega)), hHg, hTx.fr (fun a a0 a1 => hFg a (by omega) (by omega)), (hFg _ (by omega) (by omega)).trans x5, hrk.2.1, hrk.2.2, by omega, by omega⟩, fun a ha => hFg a (by omega) (by omega)⟩)
  · try (exfalso; omega)
    all_goals (
      exfalso
      omega)
