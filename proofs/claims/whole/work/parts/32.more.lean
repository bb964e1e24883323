theorem bm_if1 {c : Prop} [Decidable c] (h : ¬ (if c then (1 : Int32) else 0) = 0) : c := by
  by_cases hc : c
  · exact hc
  · rw [if_neg hc] at h
    exact absurd rfl h
theorem bm_if0 {k : Nat} (h : (if k % 2 = 1 then (1 : Int32) else 0) = 0) : k % 2 = 0 := by
  by_cases hc : k % 2 = 1
  · rw [if_pos hc] at h
    exact absurd h (by decide)
  · omega
