/-! DOUBLES: a share of minutes, and its bits -/
abbrev zD (E T : Nat) : UInt64 := UInt64.ofNat (E * 4503599627370496 + T)
theorem b64_n : FP.Core.b64.tails = 4503599627370496 ∧ FP.Core.b64.exps = 2048 ∧ FP.Core.b64.qmin = -1074 ∧ FP.Core.b64.qmax = 971 ∧ 2 ^ FP.Core.b64.p = 9007199254740992 := by decide +kernel
theorem zD_nat {E T : Nat} (hE : E < 2048) (hT : T < 4503599627370496) : (zD E T).toNat = E * 4503599627370496 + T := by
  unfold zD
  exact UInt64.toNat_ofNat_of_lt' (by show _ < 18446744073709551616; omega)
theorem zD_val {E T : Nat} (h1 : 1 ≤ E) (hE : E < 2047) (hT : T < 4503599627370496) : FP.Core.val64 (zD E T) = .fin false (4503599627370496 + T) ((E : Int) - 1075) := by
  obtain ⟨n1, n2, n3, n4, n5⟩ := b64_n
  unfold FP.Core.val64 FP.Core.decode
  rw [zD_nat (by omega) hT]
  have e1 : FP.Core.fieldE FP.Core.b64 (E * 4503599627370496 + T) = E := by
    unfold FP.Core.fieldE
    rw [n1, n2]
    omega
  have e2 : FP.Core.fieldT FP.Core.b64 (E * 4503599627370496 + T) = T := by
    unfold FP.Core.fieldT
    rw [n1]
    omega
  have e3 : FP.Core.fieldS FP.Core.b64 (E * 4503599627370496 + T) = false := by
    unfold FP.Core.fieldS
    rw [n1, n2]
    have : (E * 4503599627370496 + T) / 4503599627370496 / 2048 % 2 = 0 := by omega
    rw [this]
    rfl
  rw [e1, e2, e3, n1, n2, n3, if_neg (by omega), if_neg (by omega)]
  congr 1
  omega
theorem fin_nn {s : Bool} {c : Nat} {q : Int} : FP.Core.Datum.fin s c q ≠ .nan := fun h => by cases h
theorem zD_nn {E T : Nat} (h1 : 1 ≤ E) (hE : E < 2047) (hT : T < 4503599627370496) : FP.Core.val64 (zD E T) ≠ .nan := by
  rw [zD_val h1 hE hT]
  exact fin_nn
theorem vf_of {r : UInt64} (h : FP.Core.val64 r ≠ .nan) : vf_n64 r := by
  have h1 := (FP.Core.ne_nan r).mp h
  unfold vf_n64
  rw [UInt64.le_iff_toNat_le, FP.Core.mask_toNat]
  exact h1
theorem zD_dbl {E T : Nat} (h1 : 1 ≤ E) (hE : E < 1100) (hT : T < 4503599627370496) : FP.dmul (zD E T) 4611686018427387904 = zD (E + 1) T := by
  obtain ⟨n1, n2, n3, n4, n5⟩ := b64_n
  have h2 : FP.Core.val64 (4611686018427387904 : UInt64) = .fin false 4503599627370496 (-51) := zD_val (E := 1024) (T := 0) (by omega) (by omega) (by omega)
  have hv : FP.Core.val64 (FP.dmul (zD E T) 4611686018427387904) = FP.Core.val64 (zD (E + 1) T) := by
    refine (FP.Core.val64_dmul _ _).trans ?_
    rw [h2, zD_val h1 (by omega) hT, zD_val (by omega) (by omega) hT]
    show FP.Core.roundRatio FP.Core.b64 false ((4503599627370496 + T) * 4503599627370496) 1 ((E : Int) - 1075 + -51) = _
    refine FP.Core.roundRatio_exact FP.Core.good_b64 (by decide) ⟨by rw [n5]; omega, by rw [n3]; omega, by rw [n4]; omega, Or.inr (by rw [n1]; omega)⟩ ?_
    rw [show ((E : Int) - 1075 + -51 - (((E + 1 : Nat) : Int) - 1075)).toNat = 0 by omega, show (((E + 1 : Nat) : Int) - 1075 - ((E : Int) - 1075 + -51)).toNat = 52 by omega]
    omega
  exact FP.Core.val64_inj (by rw [hv]; exact zD_nn (by omega) (by omega) hT) hv
theorem zD_key {E T : Nat} (hE : E < 2047) (hT : T < 4503599627370496) : FP.Core.dkey (zD E T) = ((E * 4503599627370496 + T : Nat) : Int) := by
  unfold FP.Core.dkey
  rw [zD_nat (by omega) hT, if_neg (by omega)]
theorem zD_1 : (4607182418800017408 : UInt64) = zD 1023 0 := by decide +kernel
theorem zD_cmp1 {E T : Nat} (h1 : 1 ≤ E) (hE : E < 2047) (hT : T < 4503599627370496) : (E < 1023 → FP.dcmp (zD E T) FP.dconst1 = some .lt) ∧ (1023 ≤ E → FP.dcmp (zD E T) FP.dconst1 = some .gt ∨ FP.dcmp (zD E T) FP.dconst1 = some .eq) := by
  have hc : FP.dcmp (zD E T) FP.dconst1 = some (compare (FP.Core.dkey (zD E T)) (FP.Core.dkey (zD 1023 0))) := FP.Core.dcmp_key (zD_nn h1 hE hT) (zD_nn (E := 1023) (T := 0) (by omega) (by omega) (by omega))
  rw [hc, zD_key hE hT, zD_key (by omega) (by omega)]
  refine ⟨fun h => congrArg some ((FP.Core.compare_lt_iff _ _).mpr (by omega)), fun h => ?_⟩
  by_cases he : E * 4503599627370496 + T = 1023 * 4503599627370496 + 0
  · exact Or.inr (congrArg some ((FP.Core.compare_eq_iff _ _).mpr (by omega)))
  · exact Or.inl (congrArg some ((FP.Core.compare_gt_iff _ _).mpr (by omega)))
theorem zD_cmp0 {E T : Nat} (h1 : 1 ≤ E) (hE : E < 2047) (hT : T < 4503599627370496) : FP.dcmp (zD E T) FP.dconst0 = some .gt := by
  have hc : FP.dcmp (zD E T) FP.dconst0 = some (compare (FP.Core.dkey (zD E T)) (FP.Core.dkey (zD 0 0))) := FP.Core.dcmp_key (zD_nn h1 hE hT) (by rw [show FP.Core.val64 FP.dconst0 = _ from FP.Core.val64_zero]; exact fin_nn)
  rw [hc, zD_key hE hT, zD_key (by omega) (by omega)]
  exact congrArg some ((FP.Core.compare_gt_iff _ _).mpr (by omega))
theorem zD_dif {T : Nat} (hT : T < 4503599627370496) : ∃ (c : Nat) (q : Int), FP.Core.val64 (FP.dsub (zD 1023 T) FP.dconst1) = .fin false c q ∧ -1074 ≤ q ∧ c * 2 ^ (q + 1074).toNat = T * 2 ^ 1022 := by
  obtain ⟨n1, n2, n3, n4, n5⟩ := b64_n
  have hv : FP.Core.val64 (FP.dsub (zD 1023 T) FP.dconst1) = FP.Core.round FP.Core.b64 (.fin false T (-52)) := by
    refine (FP.Core.val64_dsub _ _).trans ?_
    rw [zD_val (by omega) (by omega) hT]
    have h1 : FP.Core.val64 FP.dconst1 = .fin false 4503599627370496 (-52) := zD_val (E := 1023) (T := 0) (by omega) (by omega) (by omega)
    rw [h1]
    congr 1
    show FP.Core.Datum.fin (FP.Core.sumSign false true (FP.Core.sumUnits false (4503599627370496 + T) (-52) true 4503599627370496 (-52) (-52))) (FP.Core.sumUnits false (4503599627370496 + T) (-52) true 4503599627370496 (-52) (-52)).natAbs (-52) = _
    have hs : FP.Core.sumUnits false (4503599627370496 + T) (-52) true 4503599627370496 (-52) (-52) = (T : Int) := by
      unfold FP.Core.sumUnits FP.Core.inUnits FP.Core.signed
      simp
      try omega
    rw [hs]
    unfold FP.Core.sumSign
    by_cases h0 : (T : Int) = 0
    · rw [if_pos h0]
      simp
    · rw [if_neg h0]
      simp
      try omega
  obtain ⟨c, q, e1, e2⟩ := FP.Core.round_exact FP.Core.good_b64 false (c := T) (q := -52) (by rw [n5]; omega) (by rw [n3]; omega) (by rw [n4]; omega)
  rw [e1] at hv
  have hf := FP.Core.val64_fits (FP.dsub (zD 1023 T) FP.dconst1)
  rw [hv] at hf
  have hq := hf.2.1
  rw [n3] at hq
  refine ⟨c, q, hv, hq, ?_⟩
  unfold FP.Core.inUnits at e2
  rw [n3, show (q - -1074).toNat = (q + 1074).toNat by omega, show ((-52 : Int) - -1074).toNat = 1022 by omega] at e2
  exact e2
theorem zD_frac {T : Nat} (hT : T < 4503599627370496) : FP.Core.val64 (FP.dsub (zD 1023 T) FP.dconst1) ≠ .nan ∧ FP.Core.val64 (FP.dmul (FP.dsub (zD 1023 T) FP.dconst1) 4841369599423283200) ≠ .nan ∧ FP.d2l (FP.dmul (FP.dsub (zD 1023 T) FP.dconst1) 4841369599423283200) = zj T := by
  obtain ⟨c, q, hv, hq, he⟩ := zD_dif hT
  have hK : FP.Core.val64 (4841369599423283200 : UInt64) = .fin false 4503599627370496 0 := zD_val (E := 1075) (T := 0) (by omega) (by omega) (by omega)
  have hm : FP.Core.val64 (FP.dmul (FP.dsub (zD 1023 T) FP.dconst1) 4841369599423283200) = FP.Core.round FP.Core.b64 (.fin false T 0) := by
    refine (FP.Core.val64_dmul _ _).trans ?_
    rw [hv, hK]
    show FP.Core.roundRatio FP.Core.b64 false (c * 4503599627370496) 1 (q + 0) = FP.Core.roundRatio FP.Core.b64 false T 1 0
    refine FP.Core.roundRatio_congr (by decide) (by decide) ?_
    rw [show (q + 0 - 0).toNat = q.toNat by omega, show (0 - (q + 0)).toNat = (-q).toNat by omega, Nat.mul_one, Nat.mul_one]
    apply Nat.eq_of_mul_eq_mul_right (Nat.two_pow_pos 1022)
    have hx : (q + 1074).toNat + (-q).toNat = 1074 + q.toNat := by omega
    calc c * 4503599627370496 * 2 ^ q.toNat * 2 ^ 1022 = c * 2 ^ (1074 + q.toNat) := by
          rw [show (1074 : Nat) + q.toNat = 52 + q.toNat + 1022 by omega, Nat.pow_add, Nat.pow_add]
          simp only [Nat.mul_assoc]
          try rfl
      _ = c * 2 ^ (q + 1074).toNat * 2 ^ (-q).toNat := by rw [← hx, Nat.pow_add, Nat.mul_assoc]
      _ = T * 2 ^ 1022 * 2 ^ (-q).toNat := by rw [he]
      _ = T * 2 ^ (-q).toNat * 2 ^ 1022 := Nat.mul_right_comm _ _ _
  have hI : FP.Core.DInt (T : Int) (FP.dmul (FP.dsub (zD 1023 T) FP.dconst1) 4841369599423283200) := by
    unfold FP.Core.DInt
    rw [hm]
    refine FP.Core.whole_round FP.Core.good_b64 FP.Core.wide_b64 ?_ ?_
    · rw [show FP.Core.b64.p = 53 from rfl]
      omega
    · show FP.Core.signed false (T * 2 ^ 0) = (T : Int) * ((2 ^ 0 : Nat) : Int)
      simp [FP.Core.signed]
  refine ⟨hv ▸ fin_nn, FP.Core.DInt_ne_nan hI, ?_⟩
  refine FP.Core.d2l_int (a := zj T) ?_
  rw [zj_toInt ⟨by omega, by omega⟩]
  exact hI
/-! the quotient of two counts of minutes -/
theorem pow_x {ca a cb b P M P' M' X Y : Nat} (h1 : ca * 2 ^ P = a * 2 ^ M) (h2 : cb * 2 ^ P' = b * 2 ^ M') (h3 : X + M + P' = Y + P + M') : ca * b * 2 ^ X = a * cb * 2 ^ Y := by
  apply Nat.eq_of_mul_eq_mul_right (Nat.two_pow_pos (P + M'))
  calc ca * b * 2 ^ X * 2 ^ (P + M') = (ca * 2 ^ P) * (b * 2 ^ M') * 2 ^ X := by rw [Nat.pow_add]; ac_rfl
    _ = (a * 2 ^ M) * (cb * 2 ^ P') * 2 ^ X := by rw [h1, h2]
    _ = a * cb * 2 ^ (X + M + P') := by rw [Nat.pow_add, Nat.pow_add]; ac_rfl
    _ = a * cb * 2 ^ (Y + P + M') := by rw [h3]
    _ = a * cb * 2 ^ Y * 2 ^ (P + M') := by rw [show Y + P + M' = Y + (P + M') by omega, Nat.pow_add]; ac_rfl
theorem i2d_fin {a : Int} (h0 : 0 ≤ a) (h1 : a < 2147483648) : ∃ (c : Nat) (q : Int), FP.Core.val64 (FP.i2d (zi a)) = .fin false c q ∧ c * 2 ^ q.toNat = a.toNat * 2 ^ (-q).toNat := by
  have hI : FP.Core.Whole (zi a).toInt (FP.Core.val64 (FP.i2d (zi a))) := FP.Core.i2d_int (zi a)
  rw [zi_toInt ⟨by omega, h1⟩] at hI
  by_cases hz : a = 0
  · subst hz
    exact ⟨0, FP.Core.b64.qmin, by decide +kernel, by simp⟩
  · cases hv : FP.Core.val64 (FP.i2d (zi a)) with
    | nan => rw [hv] at hI; exact hI.elim
    | inf s => rw [hv] at hI; exact hI.elim
    | fin s c q =>
      rw [hv] at hI
      have hI' : FP.Core.signed s (c * 2 ^ q.toNat) = a * ((2 ^ (-q).toNat : Nat) : Int) := hI
      have hp : 0 < a * ((2 ^ (-q).toNat : Nat) : Int) := Int.mul_pos (by omega) (by have := Nat.two_pow_pos (-q).toNat; omega)
      cases s with
      | true =>
        unfold FP.Core.signed at hI'
        rw [if_pos rfl] at hI'
        omega
      | false =>
        unfold FP.Core.signed at hI'
        rw [if_neg (by decide)] at hI'
        refine ⟨c, q, rfl, ?_⟩
        have e : ((a.toNat * 2 ^ (-q).toNat : Nat) : Int) = a * ((2 ^ (-q).toNat : Nat) : Int) := by
          rw [Int.natCast_mul, Int.toNat_of_nonneg h0]
        omega
theorem ddiv_val {a b : Int} (h0 : 0 ≤ a) (ha : a ≤ 100000) (hb0 : 0 < b) (hb : b ≤ 100000) : FP.Core.val64 (FP.ddiv (FP.i2d (zi a)) (FP.i2d (zi b))) = FP.Core.roundRatio FP.Core.b64 false a.toNat b.toNat 0 := by
  obtain ⟨ca, qa, e1, e2⟩ := i2d_fin h0 (by omega)
  obtain ⟨cb, qb, e3, e4⟩ := i2d_fin (a := b) (by omega) (by omega)
  have hcb : ¬ cb = 0 := by
    intro hz
    rw [hz, Nat.zero_mul] at e4
    have := Nat.mul_pos (show 0 < b.toNat by omega) (Nat.two_pow_pos (-qb).toNat)
    omega
  refine (FP.Core.val64_ddiv _ _).trans ?_
  rw [e1, e3]
  show (if cb = 0 then _ else FP.Core.roundRatio FP.Core.b64 false ca cb (qa - qb)) = _
  rw [if_neg hcb]
  refine FP.Core.roundRatio_congr (by omega) (by omega) ?_
  rw [show (qa - qb - 0).toNat = (qa - qb).toNat by omega, show (0 - (qa - qb)).toNat = (qb - qa).toNat by omega]
  exact pow_x e2 e4 (by omega)
theorem key_le {x y : UInt64} (hx : FP.Core.val64 x ≠ .nan) (hy : FP.Core.val64 y ≠ .nan) (h : FP.Core.zval FP.Core.b64 (FP.Core.val64 x) ≤ FP.Core.zval FP.Core.b64 (FP.Core.val64 y)) : FP.Core.dkey x ≤ FP.Core.dkey y := by
  have h1 := FP.Core.dcmp_le.mpr ⟨hx, hy, h⟩
  rw [FP.Core.dcmp_key hx hy] at h1
  rcases h1 with h1 | h1
  · have := (FP.Core.compare_lt_iff _ _).mp (Option.some.inj h1)
    omega
  · have := (FP.Core.compare_eq_iff _ _).mp (Option.some.inj h1)
    omega
theorem share_form {a b : Int} (h0 : 0 < a) (hab : a ≤ b) (hb : b ≤ 20000) : ∃ E T : Nat, FP.ddiv (FP.i2d (zi a)) (FP.i2d (zi b)) = zD E T ∧ 1008 ≤ E ∧ E ≤ 1023 ∧ T < 4503599627370496 ∧ (E = 1023 → T = 0) := by
  obtain ⟨n1, n2, n3, n4, n5⟩ := b64_n
  have hv := ddiv_val (a := a) (b := b) (by omega) (by omega) (by omega) (by omega)
  generalize FP.ddiv (FP.i2d (zi a)) (FP.i2d (zi b)) = x at hv ⊢
  have v1 := zD_val (E := 1023) (T := 0) (by omega) (by omega) (by omega)
  have v2 := zD_val (E := 1008) (T := 0) (by omega) (by omega) (by omega)
  have f1 := FP.Core.val64_fits (zD 1023 0)
  have f2 := FP.Core.val64_fits (zD 1008 0)
  have m1 : FP.Core.zmag FP.Core.b64 (FP.Core.val64 (zD 1023 0)) = 2 ^ 1074 := by decide +kernel
  have m2 : FP.Core.zmag FP.Core.b64 (FP.Core.val64 (zD 1008 0)) = 2 ^ 1059 := by decide +kernel
  have hin : FP.Core.inUnits a.toNat 0 FP.Core.b64.qmin = a.toNat * 2 ^ 1074 := by
    unfold FP.Core.inUnits
    rw [n3]
    rfl
  have le1 := FP.Core.zmag_roundRatio_le FP.Core.good_b64 (s := false) (A := a.toNat) (B := b.toNat) (e := 0) (e0 := FP.Core.b64.qmin) (by omega) f1 (by rw [v1]; exact fin_nn) (Int.le_refl _) (by rw [n3]; omega) (by
    rw [hin, m1, Int.sub_self]
    rw [Int.toNat_zero, Nat.pow_zero, Nat.mul_one, Nat.mul_comm (2 ^ 1074)]
    exact Nat.mul_le_mul_right _ (by omega))
  have ge2 := FP.Core.zmag_roundRatio_ge FP.Core.good_b64 (s := false) (A := a.toNat) (B := b.toNat) (e := 0) (e0 := FP.Core.b64.qmin) (by omega) f2 (Int.le_refl _) (by rw [n3]; omega) (by
    rw [hin, m2, Int.sub_self]
    rw [Int.toNat_zero, Nat.pow_zero, Nat.mul_one, show (1074 : Nat) = 15 + 1059 from rfl, Nat.pow_add, ← Nat.mul_assoc, Nat.mul_comm (2 ^ 1059)]
    exact Nat.mul_le_mul_right _ (by omega))
  rw [← hv, m1] at le1
  rw [← hv, m2] at ge2
  have hs : FP.Core.sgn (FP.Core.val64 x) = false ∧ FP.Core.val64 x ≠ .nan := by
    rcases FP.Core.roundRatio_cases FP.Core.b64 false a.toNat b.toNat 0 with ⟨c, q, hR⟩ | hR
    · rw [hv, hR]
      exact ⟨rfl, fun h => by cases h⟩
    · rw [hv, hR]
      exact ⟨rfl, fun h => by cases h⟩
  have z1 : FP.Core.zval FP.Core.b64 (FP.Core.val64 x) = ((FP.Core.zmag FP.Core.b64 (FP.Core.val64 x) : Nat) : Int) := by
    unfold FP.Core.zval
    rw [hs.1]
    rfl
  have z2 : FP.Core.zval FP.Core.b64 (FP.Core.val64 (zD 1023 0)) = ((2 ^ 1074 : Nat) : Int) := by
    unfold FP.Core.zval
    rw [m1, v1]
    rfl
  have z3 : FP.Core.zval FP.Core.b64 (FP.Core.val64 (zD 1008 0)) = ((2 ^ 1059 : Nat) : Int) := by
    unfold FP.Core.zval
    rw [m2, v2]
    rfl
  have k1 := key_le hs.2 (zD_nn (E := 1023) (T := 0) (by omega) (by omega) (by omega)) (by rw [z1, z2]; exact Int.ofNat_le.mpr le1)
  have k2 := key_le (zD_nn (E := 1008) (T := 0) (by omega) (by omega) (by omega)) hs.2 (by rw [z1, z3]; exact Int.ofNat_le.mpr ge2)
  rw [zD_key (by omega) (by omega)] at k1 k2
  unfold FP.Core.dkey at k1 k2
  split at k1
  · exfalso
    split at k2 <;> omega
  · rename_i hx
    rw [if_neg hx] at k2
    refine ⟨x.toNat / 4503599627370496, x.toNat % 4503599627370496, ?_, by omega, by omega, by omega, fun h => by omega⟩
    apply UInt64.toNat_inj.mp
    rw [zD_nat (by omega) (by omega)]
    omega
theorem share_0 {b : Int} (hb0 : 0 < b) (hb : b ≤ 20000) : FP.ddiv (FP.i2d (zi 0)) (FP.i2d (zi b)) = 0 := by
  have hv := ddiv_val (a := 0) (b := b) (by omega) (by omega) (by omega) (by omega)
  have h0 : FP.Core.val64 (FP.ddiv (FP.i2d (zi 0)) (FP.i2d (zi b))) = FP.Core.val64 0 := by
    rw [hv, FP.Core.val64_zero]
    rfl
  exact FP.Core.val64_inj (by rw [h0, FP.Core.val64_zero]; exact fin_nn) h0
def zSh (z : RZ) : UInt64 := if z 13 = 0 then 0 else FP.ddiv (FP.i2d (zi (z 18 + z 19))) (FP.i2d (zi (z 13)))
/-- a share of the clock's: 0, or a number from 2^-15 to 1 -/
def shOk (x : UInt64) : Prop := x = 0 ∨ ∃ E T : Nat, x = zD E T ∧ 1008 ≤ E ∧ E ≤ 1023 ∧ T < 4503599627370496 ∧ (E = 1023 → T = 0)
theorem shOk_z {z : RZ} (h : zOk z) (h13 : z 13 ≤ 20000) : shOk (zSh z) := by
  have hb := h.1.1.2.2.2.2.2.2.2.1
  have ha := h.2
  unfold zSh
  split
  · exact Or.inl rfl
  · by_cases h0 : z 18 + z 19 = 0
    · rw [h0]
      exact Or.inl (share_0 (by omega) h13)
    · exact Or.inr (share_form (by omega) ha h13)
theorem shOk_nn {x : UInt64} (h : shOk x) : FP.Core.val64 x ≠ .nan ∧ x.toNat < 9223372036854775808 := by
  rcases h with rfl | ⟨E, T, rfl, h1, h2, h3, -⟩
  · exact ⟨FP.Core.val64_zero ▸ fin_nn, by decide⟩
  · exact ⟨zD_nn (by omega) (by omega) h3, by rw [zD_nat (by omega) h3]; omega⟩
