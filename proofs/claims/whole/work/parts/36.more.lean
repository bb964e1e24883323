theorem bm_fm_steps {d x y : Nat} : bm_fm (bm_q d) x y % bm_q d * (bm_p d ^ (bm_q d - 2) % bm_q d) % bm_q d = bm_fm (bm_q d) x y * (bm_p d ^ (bm_q d - 2) % bm_q d) % bm_q d := Nat.mod_mul_mod _ _ _
theorem bm_bf_0 {d r : Nat} (h : ¬ r % bm_p d = 0) (h2 : ¬ r % bm_q d = 0) : r = bm_bf d r := by
  unfold bm_bf
  rw [if_neg (fun q => q.elim h h2)]
theorem bm_bf_1 {d r : Nat} (h : r % bm_p d = 0 ∨ r % bm_q d = 0) (h1 : ¬ (r + 1) % bm_p d = 0) (h2 : ¬ (r + 1) % bm_q d = 0) : r + 1 = bm_bf d r := by
  unfold bm_bf
  rw [if_pos h, if_neg (fun q => q.elim h1 h2)]
theorem bm_bf_2 {d r : Nat} (h : r % bm_p d = 0 ∨ r % bm_q d = 0) (h1 : (r + 1) % bm_p d = 0 ∨ (r + 1) % bm_q d = 0) : r + 1 + 1 = bm_bf d r := by
  unfold bm_bf
  rw [if_pos h, if_pos h1]
theorem bm_cmp0 {a : Nat} (ha : a < 2 ^ 63) (h : lg_cmp (lN a) 0 = 0) : a = 0 := (pk_lEQ (a := a) (b := 0) ha (by decide)).mp ((lg_cmp_eq _ _).mp h)
theorem bm_cmpn {a : Nat} (h : ¬ lg_cmp (lN a) 0 = 0) : ¬ a = 0 := fun z => h (by rw [z]; decide)
theorem bm_mod63 {a b : Nat} (h0 : 0 < b) (hb : b < 2 ^ 31) : a % b < 2 ^ 63 := by have := Nat.mod_lt a h0; omega
theorem bm_cmpE {a b : Nat} (ha : a < 2 ^ 63) (hb : b < 2 ^ 63) (h : lg_cmp (lN a) (lN b) = 0) : a = b := (pk_lEQ ha hb).mp ((lg_cmp_eq _ _).mp h)
theorem bm_cmpNE {a b : Nat} (h : ¬ lg_cmp (lN a) (lN b) = 0) : ¬ a = b := fun z => h ((lg_cmp_eq _ _).mpr (by rw [z]))
