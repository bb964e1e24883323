theorem bm_o2i {n : Nat} : nI (n % 6 + (1 + n / 6 % 5)) - nI (n % 6 + (1 + n / 6 % 5)) / 6 * 6 = nI (bm_o2 n) := by
  have h1 : n % 6 < 6 := Nat.mod_lt _ (by decide)
  have h2 : n / 6 % 5 < 5 := Nat.mod_lt _ (by decide)
  rw [show bm_o2 n = (n % 6 + (1 + n / 6 % 5)) % 6 by unfold bm_o2; congr 1; omega]
  generalize n % 6 = a at h1 ⊢
  generalize n / 6 % 5 = b at h2 ⊢
  rcases (show a = 0 ∨ a = 1 ∨ a = 2 ∨ a = 3 ∨ a = 4 ∨ a = 5 by omega) with h | h | h | h | h | h <;> rcases (show b = 0 ∨ b = 1 ∨ b = 2 ∨ b = 3 ∨ b = 4 by omega) with g | g | g | g | g <;> (subst h; subst g; decide)
/-- does it not hide what it should -/
def bm_nh (x : Int32) : Int32 := if x = 0 then 1 else 0
theorem bm_nh_y {x : Int32} (h : x = 0) : bm_nh x = 1 := if_pos h
theorem bm_nh_n {x : Int32} (h : ¬ x = 0) : bm_nh x = 0 := if_neg h
theorem bm_nh00 {x y : Int32} (h : ¬ x = 0) (h2 : ¬ y = 0) : 0 + 0 = bm_nh x + bm_nh y := by rw [bm_nh_n h, bm_nh_n h2]
theorem bm_nh01 {x y : Int32} (h : ¬ x = 0) (h2 : y = 0) : 0 + 1 = bm_nh x + bm_nh y := by rw [bm_nh_n h, bm_nh_y h2]
theorem bm_nh10 {x y : Int32} (h : x = 0) (h2 : ¬ y = 0) : 1 + 0 = bm_nh x + bm_nh y := by rw [bm_nh_y h, bm_nh_n h2]
theorem bm_nh11 {x y : Int32} (h : x = 0) (h2 : y = 0) : 1 + 1 = bm_nh x + bm_nh y := by rw [bm_nh_y h, bm_nh_y h2]
