theorem bm_me_cg {tk h h' : Nat → Int64} {den : Int64} {k : Nat} (q : ∀ t, t < 4 → h t = h' t) : ∀ n, n ≤ 4 → bm_me tk h den k n = bm_me tk h' den k n := by
  intro n
  induction n with
  | zero => intro _; rfl
  | succ n ih =>
    intro hn
    show (if ¬ bm_me tk h den k n = 0 ∧ tk (10 * k + (1 + n)) = h n then (1 : Int32) else 0) = (if ¬ bm_me tk h' den k n = 0 ∧ tk (10 * k + (1 + n)) = h' n then 1 else 0)
    rw [ih (by omega), q n (by omega)]
