theorem bm_cr_0 {seed : Int64} {a : Nat} {ch : Int32} {q : Nat → Nat} {j : Nat} : bm_cr seed a ch q (4 * j) = bm_ca seed (q j) := by
  unfold bm_cr
  rw [if_pos (by omega), show 4 * j / 4 = j by omega]
theorem bm_cr_1 {seed : Int64} {a : Nat} {ch : Int32} {q : Nat → Nat} {j : Nat} : bm_cr seed a ch q (4 * j + 1) = bm_cb seed a ch (q j) := by
  unfold bm_cr
  rw [if_neg (by omega), if_pos (by omega), show (4 * j + 1) / 4 = j by omega]
theorem bm_cr_2 {seed : Int64} {a : Nat} {ch : Int32} {q : Nat → Nat} {j : Nat} : bm_cr seed a ch q (4 * j + 2) = bm_cc seed (q j) := by
  unfold bm_cr
  rw [if_neg (by omega), if_neg (by omega), if_pos (by omega), show (4 * j + 2) / 4 = j by omega]
theorem bm_cr_3 {seed : Int64} {a : Nat} {ch : Int32} {q : Nat → Nat} {j : Nat} : bm_cr seed a ch q (4 * j + 3) = bm_ce seed (q j) := by
  unfold bm_cr
  rw [if_neg (by omega), if_neg (by omega), if_neg (by omega), show (4 * j + 3) / 4 = j by omega]
/-- who is left: all but the two that were opened -/
theorem bm_lf0_set {n j : Nat} : ¬ bm_lf0 n j = 0 ↔ (¬ j = bm_o1 n ∧ ¬ j = bm_o2 n) := by
  unfold bm_lf0 upd
  by_cases h2 : j = bm_o2 n
  · rw [if_pos h2]
    exact ⟨fun z => absurd rfl z, fun z => absurd h2 z.2⟩
  · rw [if_neg h2]
    by_cases h1 : j = bm_o1 n
    · rw [if_pos h1]
      exact ⟨fun z => absurd rfl z, fun z => absurd h1 z.1⟩
    · rw [if_neg h1]
      exact ⟨fun _ => ⟨h1, h2⟩, fun _ => (by decide : ¬ (1 : Int32) = 0)⟩
theorem bm_zqp_fun {seed : Int64} {a : Nat} {ch : Int32} : bm_zqp seed (lN (1000 + a)) ch = bm_cp seed a ch := funext (fun j => bm_zqp_cp j)
/-- the class's order of the parts is the reference's -/
theorem bm_wq {seed : Int64} {a n : Nat} {ch : Int32} {o : Nat → Nat} (h1 : ∀ i, i < 4 → o i < 6) (h2 : ∀ i k, i < k → k < 4 → bm_lx (bm_zqp seed (lN (1000 + a)) ch) (o i) (o k)) (h3 : ∀ y, y < 6 → ((¬ y = bm_o1 n ∧ ¬ y = bm_o2 n) ↔ ∃ i, i < 4 ∧ y = o i)) : ∀ i, i < 4 → bm_lst (bm_lf (bm_lf0 n) (bm_cp seed a ch) i) (bm_cp seed a ch) 6 = nI (o i) := by
  intro i hi
  rw [bm_zqp_fun] at h2
  exact (bm_or_eq h1 h2 (fun j hj => bm_lf0_set.trans (h3 j hj)) i (by omega)).2 hi
