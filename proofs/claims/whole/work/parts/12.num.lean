theorem bm_neg_T {a : Nat} (ha : a < 2 ^ 62) : (-(lN a)).toInt = -(a : Int) := by
  rw [Int64.toInt_neg, pk_lT (by omega)]
  exact Int.bmod_eq_of_le (by omega) (by omega)
theorem bm_neg_div {a b : Nat} (ha : a < 2 ^ 62) (h0 : 0 < b) (hb : b < 2 ^ 62) : -(lN a) / lN b = -(lN (a / b)) := by
  apply Int64.toInt_inj.mp
  have hne : lN b ≠ -1 := fun z => by
    have h1 := congrArg Int64.toInt z
    rw [pk_lT (by omega)] at h1
    have h2 : (-1 : Int64).toInt = -1 := by decide
    omega
  rw [Int64.toInt_div_of_ne_right _ _ hne, bm_neg_T ha, pk_lT (by omega), Int.neg_tdiv, bm_neg_T (Nat.lt_of_le_of_lt (Nat.div_le_self a b) ha)]
  rfl
theorem bm_neg_rem {a b : Nat} (ha : a < 2 ^ 62) (h0 : 0 < b) (hb : b < 2 ^ 62) : -(lN a) - -(lN a) / lN b * lN b = -(lN (a % b)) := by
  rw [bm_neg_div ha h0 hb]
  have e : lN a = lN (a / b) * lN b + lN (a % b) := by
    rw [lN_mul, lN_add]
    exact congrArg lN (Nat.div_add_mod' a b).symm
  rw [e]
  generalize lN (a / b) = X
  generalize lN b = Y
  generalize lN (a % b) = Z
  grind
theorem bm_sub_neg {x y : Nat} (h : y < x) : lN y - lN x = -(lN (x - y)) := by
  rw [← lN_sub (Nat.le_of_lt h)]
  grind
theorem bm_fm_eq {q x y u : Nat} (hq : 0 < q) (hu : u < q) (h : (x + u) % q = y % q) : bm_fm q x y = u := by
  have h1 := bm_fm_lt (x := x) (y := y) hq
  have h2 : ((x + bm_fm q x y) % q : Nat) = (x + u) % q := by rw [bm_fm_add hq, h]
  have h3 : (((bm_fm q x y : Nat) : Int) + (x : Int)) % (q : Int) = ((u : Int) + (x : Int)) % (q : Int) := by
    have h4 : (((x + bm_fm q x y) % q : Nat) : Int) = (((x + u) % q : Nat) : Int) := by rw [h2]
    rw [Int.natCast_emod, Int.natCast_emod, Int.natCast_add, Int.natCast_add] at h4
    rw [Int.add_comm, h4, Int.add_comm]
  have h5 := Int.emod_add_cancel_right (x : Int) |>.mp h3
  rw [Int.emod_eq_of_lt (by omega) (by omega), Int.emod_eq_of_lt (by omega) (by omega)] at h5
  omega
theorem bm_fm_le {q x y : Nat} (hq : 0 < q) (h : x ≤ y) : bm_fm q x y = (y - x) % q := by
  refine bm_fm_eq hq (Nat.mod_lt _ hq) ?_
  rw [Nat.add_mod_mod]
  congr 1
  omega
theorem bm_fm_gt {q x y : Nat} (hq : 0 < q) (h : y < x) : bm_fm q x y = (q - (x - y) % q) % q := by
  refine bm_fm_eq hq (Nat.mod_lt _ hq) ?_
  rw [Nat.add_mod_mod]
  have h1 := Nat.mod_lt (x - y) hq
  have h2 := Nat.div_add_mod (x - y) q
  have e : x + (q - (x - y) % q) = y + q * ((x - y) / q + 1) := by
    rw [Nat.mul_add, Nat.mul_one]
    omega
  rw [e, Nat.add_mul_mod_self_left]
/-- the reference's ((y - x) % q + q) % q -/
theorem bm_fm_model {q x y : Nat} (hq : 0 < q) (hq2 : q < 2 ^ 31) (hx : x < 2 ^ 31) (hy : y < 2 ^ 31) : (lN y - lN x - (lN y - lN x) / lN q * lN q + lN q) - (lN y - lN x - (lN y - lN x) / lN q * lN q + lN q) / lN q * lN q = lN (bm_fm q x y) := by
  by_cases h : x ≤ y
  · have h1 := Nat.mod_lt (y - x) hq
    rw [lN_sub h, pk_lRem (by omega) hq (by omega), lN_add, pk_lRem (by omega) hq (by omega), bm_fm_le hq h, Nat.add_mod_right, Nat.mod_mod]
  · have h1 := Nat.mod_lt (x - y) hq
    have e : -(lN ((x - y) % q)) + lN q = lN (q - (x - y) % q) := by
      rw [← lN_sub (Nat.le_of_lt h1)]
      grind
    rw [bm_sub_neg (by omega), bm_neg_rem (by omega) hq (by omega), e, pk_lRem (by omega) hq (by omega), bm_fm_gt hq (by omega)]
theorem bm_lN_ne {q : Nat} (h0 : 0 < q) (h : q < 2 ^ 63) : ¬ lN q = 0 := fun z => by
  have h1 := (pk_lEQ (a := q) (b := 0) h (by decide)).mp z
  omega
theorem bm_lN_le0 {k : Nat} (h : k < 2 ^ 63) (h2 : lN k ≤ 0) : k = 0 := by
  have h1 := (pk_lLE (a := k) (b := 0) h (by decide)).mp h2
  omega
theorem bm_lN_1 {k : Nat} (h : k < 2 ^ 63) (h2 : lN k = 1) : k = 1 := (pk_lEQ (a := k) (b := 1) h (by decide)).mp h2
theorem bm_lN_0 {k : Nat} (h2 : ¬ lN (k % 2) = 1) : k % 2 = 0 := by
  have h3 : k % 2 < 2 := Nat.mod_lt _ (by decide)
  have h4 : ¬ k % 2 = 1 := fun z => h2 (by rw [z]; rfl)
  omega
theorem bm_pow_z {b e q : Nat} (hq : 1 < q) : (1 : Int64) = lN (b ^ (e % 2 ^ 0) % q) := by
  rw [Nat.pow_zero, Nat.mod_one, Nat.pow_zero, Nat.mod_eq_of_lt hq]
  rfl
theorem bm_mul_lt {a b q : Nat} (ha : a < q) (hb : b < q) (hq : q < 2 ^ 31) : a * b < 2 ^ 63 := by
  have h1 : a * b ≤ 2 ^ 31 * 2 ^ 31 := Nat.mul_le_mul (by omega) (by omega)
  have h2 : (2 : Nat) ^ 31 * 2 ^ 31 < 2 ^ 63 := by decide
  omega
theorem bm_half {e i : Nat} (he : e < 2 ^ 62) : lN (e / 2 ^ i) >>> ((1 : Int32).toInt64 &&& 63) = lN (e / 2 ^ (i + 1)) := by
  have h1 : e / 2 ^ i ≤ e := Nat.div_le_self _ _
  rw [pf_shr (d := 1) (by decide) (by omega), Nat.div_div_eq_div_mul, Nat.pow_one, ← Nat.pow_succ]
