theorem zGs_rng {G : Nat → Int} (hG : ∀ k : Nat, 0 ≤ G k ∧ G k ≤ 200) : ∀ n : Nat, 0 ≤ zGs G n ∧ zGs G n ≤ 200 * n
  | 0 => by simp [zGs]
  | n + 1 => by
    have ih := zGs_rng hG n
    have := hG n
    simp only [zGs]
    omega
theorem zNt_61 {z : RZ} (h : zOk z) : ∀ (n : Nat) (j : Int), 61 ≤ j → zNt z n j = z j
  | 0, j, hj => rfl
  | n + 1, j, hj => by
    have ih := zNt_61 h n j hj
    have h9 := zOk_9 (zOk_nt h n).1 (v := 1) (by omega)
    have hm := (zMin_lo h9 (zNt_go h n)).2.2 j hj
    refine Eq.trans hm ?_
    rw [iu_ne (by omega)]
    exact ih
