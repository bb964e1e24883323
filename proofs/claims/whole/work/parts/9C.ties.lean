theorem bm_one15 {x : Int64} {j : Nat} (h : j < 4) : bm_one (x &&& 15) (nI j) = bm_one x (nI j) := by
  have e : ((x &&& 15) >>> ((nI j).toInt64 &&& 63)) &&& 1 = (x >>> ((nI j).toInt64 &&& 63)) &&& 1 := by
    rw [Int64.shiftRight_and, Int64.and_assoc]
    congr 1
    rcases (show j = 0 ∨ j = 1 ∨ j = 2 ∨ j = 3 by omega) with h | h | h | h <;> (subst h; decide)
  unfold bm_one
  rw [e]
theorem bm_ac_vl {i : Int64} : bm_ac i = if i < 1000 ∨ 1003 < i then (-1) else i.toInt32 - 1000 := by
  have e : (1004 : Int64) ≤ i ↔ 1003 < i := by
    rw [Int64.le_iff_toInt_le, Int64.lt_iff_toInt_lt, show (1004 : Int64).toInt = 1004 by decide, show (1003 : Int64).toInt = 1003 by decide]
    omega
  unfold bm_ac
  simp only [e]
/-- whom the class names is whom the reference names -/
theorem bm_rv_tv {hv f r tk : Nat → Int64} {p k : Nat} {c0 : Int64} (h1 : ∀ j, j < 4 → hv j = tk (10 * k + (6 + j))) (h2 : ∀ j, j < 4 → f (4 + 3 * j) = r (16 * p + (4 + 3 * j))) (h3 : c0 = tk (10 * k + 5)) : ∀ n, n ≤ 4 → bm_ac (bm_rv hv f (c0 ^^^ bm_ch r p) n) = bm_tv r tk p k (bm_df r tk p k) n := by
  intro n
  induction n with
  | zero => intro _; show bm_ac (-1) = (-1); decide
  | succ n ih =>
    intro hn
    have e : bm_one (bm_df r tk p k) (nI (3 - n)) = bm_one (c0 ^^^ bm_ch r p) (nI (3 - n)) := by
      unfold bm_df
      rw [bm_one15 (by omega), h3, Int64.xor_comm]
    by_cases ho : bm_one (c0 ^^^ bm_ch r p) (nI (3 - n)) = 1
    · rw [bm_rv_y ho, bm_ac_vl, h1 _ (by omega), h2 _ (by omega), Int64.xor_comm]
      exact (if_pos (e.trans ho)).symm
    · rw [bm_rv_n ho, bm_tv_n (by rw [e]; exact ho)]
      exact ih (by omega)
