theorem bm_gw_cg {h h' : Nat → Int64} (q : ∀ t, t < 4 → h t = h' t) : ∀ n, n ≤ 4 → bm_gw h n = bm_gw h' n := by
  intro n
  induction n with
  | zero => intro _; rfl
  | succ n ih =>
    intro hn
    show (if bm_gw h n = 0 ∨ (¬ n = 0 ∧ h n < h (n - 1)) then (0 : Int32) else 1) = (if bm_gw h' n = 0 ∨ (¬ n = 0 ∧ h' n < h' (n - 1)) then 0 else 1)
    rw [ih (by omega), q n (by omega), q (n - 1) (by omega)]
/-- the challenge of a payment whose numbers are the row's -/
theorem bm_ch_eq {f r : Nat → Int64} {p : Nat} (h : ∀ i, i < 16 → f i = r (16 * p + i)) : bm_h3 (f 2) (f 3) (f 1) = bm_ch r p := by
  rw [h 2 (by omega), h 3 (by omega), h 1 (by omega)]
  rfl
/-- a payment is good where the reference's row is -/
theorem bm_gd_eq {f r : Nat → Int64} {p d k : Nat} (h : ∀ i, i < 16 → f i = r (16 * p + i)) : bm_gd (bm_gw (bm_pf f (bm_h3 (f 2) (f 3) (f 1))) 4) (bm_is d (f 1) k) = bm_gd (bm_gw (bm_ph r p (bm_ch r p)) 4) (bm_is d (r (16 * p + 1)) k) := by
  rw [bm_ch_eq h, bm_gw_cg (fun t ht => bm_pf_ph h (bm_ch r p) ht) 4 (Nat.le_refl _), h 1 (by omega)]
theorem bm_num_eq {f r : Nat → Int64} {p : Nat} {d : Int64} (h : ∀ i, i < 16 → f i = r (16 * p + i)) : bm_hc d (bm_pf f (bm_h3 (f 2) (f 3) (f 1))) = bm_hc d (bm_ph r p (bm_ch r p)) := by
  rw [bm_ch_eq h]
  exact bm_hc_eq (fun t ht => bm_pf_ph h (bm_ch r p) ht)
