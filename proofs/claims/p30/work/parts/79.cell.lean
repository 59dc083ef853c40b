/-! A NUMBER OF THE SCRIPT, or one in its place -/
set_option maxRecDepth 20000 in
theorem cs_L_cell (l : Launch) (D : va_G) (tc : Nat → ClassId) (base b LL : Nat) (xs : Nat → Int32) (kk : Int) (hpp : AH) (hk : 0 ≤ kk ∧ kk ≤ 100) : CS l D tc base b LL xs yL_cell cL_cell 2 (some .int) 0 [aR b, aI kk] hpp (fun r h' => (∃ v : Int, r = some (aI v)) ∧ hpp = h') := by
  refine CS.of [some (aR b), some (aI kk)] (by decide +kernel) rfl (Nat.le_of_ble_eq_true rfl) ?_
  intro p e s m args below meth c C hX hr hnm
  have hLL := hX.2.2.2
  refine k_iload_n C dL_cell_0 rfl ?_
  refine k_aload_n C dL_cell_1 rfl ?_
  refine k_slen C hX dL_cell_2 ?_
  refine k_icmp_ge (tgt := 12) C dL_cell_3 (by decide) ⟨by omega, by omega⟩ ⟨by omega, by omega⟩ (fun c3 => ?_) (fun c3 => ?_)
  · refine k_ldcI (x := 739982445) C kc_L_7 (by decide +kernel) dL_cell_12 ?_
    refine k_iload_n C dL_cell_14 rfl ?_
    refine k_bipush C dL_cell_15 (by decide +kernel) ?_
    refine k_iadd C dL_cell_17 ?_
    refine k_imul C dL_cell_18 ?_
    exact k_iret C hr dL_cell_19 ⟨⟨_, rfl⟩, rfl⟩
  · refine k_aload_n C dL_cell_6 rfl ?_
    refine k_iload_n C dL_cell_7 rfl ?_
    refine k_sld C hX (by omega) (by omega) dL_cell_8 (fun v => ?_)
    refine k_goto (tgt := 19) C dL_cell_9 (by decide) ?_
    exact k_iret C hr dL_cell_19 ⟨⟨_, rfl⟩, rfl⟩
