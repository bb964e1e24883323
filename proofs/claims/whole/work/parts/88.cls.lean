theorem bm_gw_up {h : Nat → Int64} : ∀ {i j : Nat}, i ≤ j → bm_gw h i = 0 → bm_gw h j = 0 := by
  intro i j hij h0
  induction hij with
  | refl => exact h0
  | step _ ih => exact bm_gw_0 ih
theorem bm_gw_fall {h : Nat → Int64} {j : Nat} (hj : j < 4) (q : ¬ j = 0) (q2 : h j < h (j - 1)) : bm_gw h 4 = 0 := bm_gw_up (show j + 1 ≤ 4 by omega) (bm_gw_f q q2)
theorem bm_gw_ok {h : Nat → Int64} (h1 : ¬ h 1 < h 0) (h2 : ¬ h 2 < h 1) (h3 : ¬ h 3 < h 2) : ¬ bm_gw h 4 = 0 := by
  have a0 : ¬ bm_gw h 0 = 0 := by show ¬ (1 : Int32) = 0; decide
  have a1 : ¬ bm_gw h 1 = 0 := by rw [bm_gw_z a0 rfl]; decide
  have a2 : ¬ bm_gw h 2 = 0 := by rw [bm_gw_g (j := 1) a1 h1]; decide
  have a3 : ¬ bm_gw h 3 = 0 := by rw [bm_gw_g (j := 2) a2 h2]; decide
  rw [bm_gw_g (j := 3) a3 h3]; decide
theorem bm_gd_n {w x : Int32} (h : ¬ w = 0) : bm_gd w x = x := if_neg h
theorem bm_is_z {d : Nat} {x : Int64} {k : Nat} : narrow .boolean (.int (bm_is d x k)) = .int (bm_is d x k) := by
  by_cases h : bm_is d x k = 0
  · rw [h]; decide
  · rw [bm_is_01 h]; decide
