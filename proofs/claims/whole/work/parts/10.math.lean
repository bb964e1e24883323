def bm_C : Nat → Nat → Nat
  | _, 0 => 1
  | 0, _ + 1 => 0
  | n + 1, k + 1 => bm_C n k + bm_C n (k + 1)
theorem bm_C_0 (n : Nat) : bm_C n 0 = 1 := by cases n <;> rfl
theorem bm_C_s (n k : Nat) : bm_C (n + 1) (k + 1) = bm_C n k + bm_C n (k + 1) := rfl
theorem bm_C_big : ∀ (n k : Nat), n < k → bm_C n k = 0 := by
  intro n
  induction n with
  | zero =>
    intro k h
    cases k with
    | zero => omega
    | succ k => rfl
  | succ n ih =>
    intro k h
    cases k with
    | zero => omega
    | succ k => rw [bm_C_s, ih k (by omega), ih (k + 1) (by omega)]
theorem bm_C_self (n : Nat) : bm_C n n = 1 := by
  induction n with
  | zero => rfl
  | succ n ih => rw [bm_C_s, ih, bm_C_big n (n + 1) (by omega)]
theorem bm_C_abs : ∀ (n k : Nat), (k + 1) * bm_C (n + 1) (k + 1) = (n + 1) * bm_C n k := by
  intro n
  induction n with
  | zero =>
    intro k
    cases k with
    | zero => rfl
    | succ k =>
      rw [bm_C_s, bm_C_big 0 (k + 1) (by omega), bm_C_big 0 (k + 1 + 1) (by omega)]
      simp
  | succ n ih =>
    intro k
    cases k with
    | zero =>
      have h := ih 0
      have e : bm_C (n + 1 + 1) (0 + 1) = bm_C (n + 1) 0 + bm_C (n + 1) (0 + 1) := rfl
      rw [bm_C_0] at h e ⊢
      rw [e]
      omega
    | succ k =>
      have h1 := ih k
      have h2 := ih (k + 1)
      have e : bm_C (n + 1) (k + 1) = bm_C n k + bm_C n (k + 1) := rfl
      have e2 : (n + 1) * bm_C (n + 1) (k + 1) = (n + 1) * bm_C n k + (n + 1) * bm_C n (k + 1) := by rw [e, Nat.mul_add]
      rw [bm_C_s (n + 1) (k + 1), Nat.mul_add, h2, Nat.succ_mul (k + 1), h1, Nat.succ_mul (n + 1)]
      omega
def bm_S (a n : Nat) : Nat → Nat
  | 0 => 0
  | m + 1 => bm_S a n m + bm_C n m * a ^ m
theorem bm_S_s (a n m : Nat) : bm_S a (n + 1) (m + 1) = bm_S a n (m + 1) + a * bm_S a n m := by
  induction m with
  | zero => simp [bm_S, bm_C_0]
  | succ m ih =>
    have e1 : bm_S a (n + 1) (m + 1 + 1) = bm_S a (n + 1) (m + 1) + bm_C (n + 1) (m + 1) * a ^ (m + 1) := rfl
    have e2 : bm_S a n (m + 1 + 1) = bm_S a n (m + 1) + bm_C n (m + 1) * a ^ (m + 1) := rfl
    have e3 : bm_S a n (m + 1) = bm_S a n m + bm_C n m * a ^ m := rfl
    have e4 : a * bm_S a n (m + 1) = a * bm_S a n m + bm_C n m * a ^ (m + 1) := by
      rw [e3, Nat.mul_add, Nat.pow_succ, Nat.mul_left_comm a (bm_C n m) (a ^ m), Nat.mul_comm a (a ^ m)]
    rw [e1, ih, bm_C_s, Nat.add_mul, e2, e4]
    omega
theorem bm_binom (a n : Nat) : (a + 1) ^ n = bm_S a n (n + 1) := by
  induction n with
  | zero => simp [bm_S, bm_C_0]
  | succ n ih =>
    have e2 : bm_S a n (n + 1 + 1) = bm_S a n (n + 1) + bm_C n (n + 1) * a ^ (n + 1) := rfl
    rw [bm_C_big n (n + 1) (by omega), Nat.zero_mul, Nat.add_zero] at e2
    rw [Nat.pow_succ, ih, bm_S_s, e2, Nat.mul_add, Nat.mul_one, Nat.mul_comm a, Nat.add_comm]
    omega
/-- a prime, as what is used of it -/
def bm_Pr (p : Nat) : Prop := 1 < p ∧ ∀ k, 0 < k → k < p → Nat.Coprime p k
theorem bm_C_dvd {p k : Nat} (hp : bm_Pr p) (h0 : 0 < k) (hk : k < p) : p ∣ bm_C p k := by
  obtain ⟨q, rfl⟩ : ∃ q, p = q + 1 := ⟨p - 1, by omega⟩
  obtain ⟨j, rfl⟩ : ∃ j, k = j + 1 := ⟨k - 1, by omega⟩
  have h : (q + 1) ∣ (j + 1) * bm_C (q + 1) (j + 1) := ⟨bm_C q j, bm_C_abs q j⟩
  exact Nat.Coprime.dvd_of_dvd_mul_left (hp.2 (j + 1) h0 hk) h
theorem bm_S_mod {p : Nat} (hp : bm_Pr p) (a : Nat) : ∀ m, m < p → bm_S a p (m + 1) % p = 1 % p := by
  intro m
  induction m with
  | zero => intro _; simp [bm_S, bm_C_0]
  | succ m ih =>
    intro h
    have e : bm_S a p (m + 1 + 1) = bm_S a p (m + 1) + bm_C p (m + 1) * a ^ (m + 1) := rfl
    obtain ⟨c, hc⟩ := bm_C_dvd hp (show 0 < m + 1 by omega) h
    rw [e, hc, Nat.mul_assoc, Nat.add_mul_mod_self_left]
    exact ih (by omega)
theorem bm_fermat0 {p : Nat} (hp : bm_Pr p) (a : Nat) : a ^ p % p = a % p := by
  obtain ⟨q, hq⟩ : ∃ q, p = q + 1 := ⟨p - 1, by have := hp.1; omega⟩
  induction a with
  | zero => rw [hq, Nat.zero_pow (by omega)]
  | succ a ih =>
    have e : bm_S a p (p + 1) = bm_S a p p + bm_C p p * a ^ p := rfl
    have h1 : bm_S a p p % p = 1 % p := by
      have h := bm_S_mod hp a q (by omega)
      rw [← hq] at h
      exact h
    rw [bm_binom, e, bm_C_self, Nat.one_mul, Nat.add_mod, h1, ih, ← Nat.add_mod, Nat.add_comm 1 a]
/-- Fermat -/
theorem bm_fermat {p : Nat} (hp : bm_Pr p) {a : Nat} (ha : a % p ≠ 0) : a ^ (p - 1) % p = 1 := by
  have h1p := hp.1
  have hlt : a % p < p := Nat.mod_lt _ (by omega)
  rw [Nat.pow_mod]
  generalize a % p = b at ha hlt
  have hc := hp.2 b (by omega) hlt
  obtain ⟨q, hq⟩ : ∃ q, p = q + 1 := ⟨p - 1, by omega⟩
  have e1 : p - 1 = q := by omega
  rw [e1]
  have h := bm_fermat0 hp b
  have e2 : b ^ p = b ^ q * b := by rw [hq, Nat.pow_succ]
  rw [e2] at h
  have h2 := Nat.sub_mod_eq_zero_of_mod_eq h
  have h3 : b ^ q * b - b = (b ^ q - 1) * b := (Nat.sub_one_mul (b ^ q) b).symm
  rw [h3] at h2
  obtain ⟨k, hk⟩ := Nat.Coprime.dvd_of_dvd_mul_right hc (Nat.dvd_of_mod_eq_zero h2)
  have h4 : 0 < b ^ q := Nat.pow_pos (by omega)
  have h5 : b ^ q = p * k + 1 := by omega
  rw [h5, Nat.mul_add_mod, Nat.mod_eq_of_lt h1p]
/-- no divisor among lo .. lo + 2^n - 1 -/
def bm_nd (p lo : Nat) : Nat → Bool
  | 0 => p % lo != 0
  | n + 1 => bm_nd p lo n && bm_nd p (lo + 2 ^ n) n
theorem bm_nd_ok : ∀ (n p lo d : Nat), bm_nd p lo n = true → lo ≤ d → d < lo + 2 ^ n → p % d ≠ 0 := by
  intro n
  induction n with
  | zero =>
    intro p lo d h h1 h2
    have e : d = lo := by
      have h3 : (2 : Nat) ^ 0 = 1 := rfl
      omega
    subst e
    simpa [bm_nd] using h
  | succ n ih =>
    intro p lo d h h1 h2
    have h3 : (bm_nd p lo n && bm_nd p (lo + 2 ^ n) n) = true := h
    rw [Bool.and_eq_true] at h3
    have h4 : (2 : Nat) ^ (n + 1) = 2 ^ n * 2 := Nat.pow_succ 2 n
    by_cases h5 : d < lo + 2 ^ n
    · exact ih p lo d h3.1 h1 h5
    · exact ih p (lo + 2 ^ n) d h3.2 (by omega) (by omega)
theorem bm_pr_of {p n : Nat} (h1 : 1 < p) (h : bm_nd p 2 n = true) (hb : p < (2 + 2 ^ n) * (2 + 2 ^ n)) : bm_Pr p := by
  refine ⟨h1, fun k h0 hk => ?_⟩
  have hd1 := Nat.gcd_dvd_left p k
  have hd2 := Nat.gcd_dvd_right p k
  show Nat.gcd p k = 1
  generalize Nat.gcd p k = g at hd1 hd2 ⊢
  have hg0 : 0 < g := Nat.pos_of_dvd_of_pos hd2 h0
  have hgk : g ≤ k := Nat.le_of_dvd h0 hd2
  obtain ⟨c, hc⟩ := hd1
  by_cases hg : g = 1
  · exact hg
  exfalso
  have hc2 : 2 ≤ c := by
    match c, hc with
    | 0, hc => omega
    | 1, hc => omega
    | c + 2, _ => omega
  have small : ∀ d, 2 ≤ d → d ∣ p → d * d ≤ p → False := fun d h2 hdv hdd => by
    have hlt : d < 2 + 2 ^ n := by
      refine Nat.lt_of_not_le (fun hge => ?_)
      have := Nat.mul_le_mul hge hge
      omega
    exact bm_nd_ok n p 2 d h h2 hlt (Nat.mod_eq_zero_of_dvd hdv)
  rcases Nat.le_total g c with hgc | hgc
  · exact small g (by omega) ⟨c, hc⟩ (by rw [hc]; exact Nat.mul_le_mul_left g hgc)
  · exact small c hc2 ⟨g, by rw [hc, Nat.mul_comm]⟩ (by rw [hc]; exact Nat.mul_le_mul_right c hgc)
theorem bm_pr_p0 : bm_Pr 1073741789 := bm_pr_of (n := 15) (by decide) (by decide +kernel) (by decide)
theorem bm_pr_q0 : bm_Pr 1000000007 := bm_pr_of (n := 15) (by decide) (by decide +kernel) (by decide)
theorem bm_pr_p1 : bm_Pr 998244389 := bm_pr_of (n := 15) (by decide) (by decide +kernel) (by decide)
theorem bm_pr_q1 : bm_Pr 900000011 := bm_pr_of (n := 15) (by decide) (by decide +kernel) (by decide)
theorem bm_pr_p2 : bm_Pr 1050000041 := bm_pr_of (n := 15) (by decide) (by decide +kernel) (by decide)
theorem bm_pr_q2 : bm_Pr 1020000011 := bm_pr_of (n := 15) (by decide) (by decide +kernel) (by decide)
/-- the powers' loop, bit by bit -/
theorem bm_pow_1 {b e p i : Nat} (h : e / 2 ^ i % 2 = 1) : b ^ (e % 2 ^ i) % p * (b ^ (2 ^ i) % p) % p = b ^ (e % 2 ^ (i + 1)) % p := by
  rw [← Nat.mul_mod, ← Nat.pow_add, Nat.mod_pow_succ, h, Nat.mul_one]
theorem bm_pow_0 {b e p i : Nat} (h : e / 2 ^ i % 2 = 0) : b ^ (e % 2 ^ i) % p = b ^ (e % 2 ^ (i + 1)) % p := by
  rw [Nat.mod_pow_succ, h, Nat.mul_zero, Nat.add_zero]
theorem bm_pow_s {b p i : Nat} : b ^ (2 ^ i) % p * (b ^ (2 ^ i) % p) % p = b ^ (2 ^ (i + 1)) % p := by
  rw [← Nat.mul_mod, ← Nat.pow_add, Nat.pow_succ 2 i, Nat.mul_two]
/-- blind, sign, unblind: modulo one prime -/
theorem bm_unb {p u k r m b : Nat} (hp : bm_Pr p) (hr : r % p ≠ 0) (hu : 17 * u = 1 + k * (p - 1)) (hb : b % p = m * r ^ 17 % p) : b ^ u % p * (r ^ (p - 2) % p) % p = m ^ u % p := by
  have h1p := hp.1
  have e : (m * r ^ 17) ^ u * r ^ (p - 2) = m ^ u * (r ^ (p - 1)) ^ (k + 1) := by
    have e1 : 1 + k * (p - 1) + (p - 2) = (p - 1) * (k + 1) := by
      obtain ⟨t, ht⟩ : ∃ t, p - 2 = t := ⟨_, rfl⟩
      have h9 : p - 1 = t + 1 := by omega
      rw [ht, h9, Nat.mul_add (t + 1) k 1, Nat.mul_one, Nat.mul_comm (t + 1) k]
      omega
    rw [Nat.mul_pow, ← Nat.pow_mul, hu, Nat.mul_assoc, ← Nat.pow_add, e1, Nat.pow_mul]
  rw [Nat.pow_mod b, hb, ← Nat.pow_mod, ← Nat.mul_mod, e, Nat.mul_mod, Nat.pow_mod (r ^ (p - 1)), bm_fermat hp hr, Nat.one_pow, Nat.mod_eq_of_lt h1p, Nat.mul_one, Nat.mod_mod]
/-- the remainder of y - x -/
def bm_fm (q x y : Nat) : Nat := (((y : Int) - (x : Int)) % (q : Int)).toNat
/-- the number that leaves x and y -/
def bm_jn (p q i x y : Nat) : Nat := x + p * (bm_fm q x y * i % q)
theorem bm_fm_lt {q x y : Nat} (h : 0 < q) : bm_fm q x y < q := by
  have h1 := Int.emod_nonneg ((y : Int) - (x : Int)) (show (q : Int) ≠ 0 by omega)
  have h2 := Int.emod_lt_of_pos ((y : Int) - (x : Int)) (show 0 < (q : Int) by omega)
  unfold bm_fm
  omega
theorem bm_fm_add {q x y : Nat} (h : 0 < q) : (x + bm_fm q x y) % q = y % q := by
  have h1 := Int.emod_nonneg ((y : Int) - (x : Int)) (show (q : Int) ≠ 0 by omega)
  have h2 : ((bm_fm q x y : Nat) : Int) = ((y : Int) - (x : Int)) % (q : Int) := by unfold bm_fm; omega
  have h3 : (((x + bm_fm q x y) % q : Nat) : Int) = ((y % q : Nat) : Int) := by
    rw [Int.natCast_emod, Int.natCast_add, h2, Int.add_emod_emod, Int.natCast_emod]
    congr 1
    omega
  exact Int.ofNat.inj h3
theorem bm_jn_p {p q i x y : Nat} (hx : x < p) : bm_jn p q i x y % p = x := by
  unfold bm_jn
  rw [Nat.add_mul_mod_self_left, Nat.mod_eq_of_lt hx]
theorem bm_jn_q {p q i x y : Nat} (hq : 0 < q) (hi : p * i % q = 1) (hy : y < q) : bm_jn p q i x y % q = y := by
  unfold bm_jn
  have e : p * (bm_fm q x y * i % q) % q = bm_fm q x y % q := by
    rw [Nat.mul_mod_mod, Nat.mul_left_comm, Nat.mul_mod, hi, Nat.mul_one, Nat.mod_mod]
  rw [Nat.add_mod, e, ← Nat.add_mod, bm_fm_add hq, Nat.mod_eq_of_lt hy]
theorem bm_jn_lt {p q i x y : Nat} (hq : 0 < q) (hx : x < p) : bm_jn p q i x y < p * q := by
  unfold bm_jn
  have h1 : bm_fm q x y * i % q + 1 ≤ q := Nat.mod_lt _ hq
  have h2 := Nat.mul_le_mul_left p h1
  rw [Nat.mul_add, Nat.mul_one] at h2
  omega
