theorem bm_bl_64 {v : Int32} (h : bm_bl v 64 = 1) : ¬ v < 0 ∧ v ≤ 63 := by
  by_cases q : v < 0 ∨ 64 ≤ v
  · rw [bm_bl_z q] at h; exact absurd h (by decide)
  · refine ⟨fun z => q (Or.inl z), Int32.le_iff_toInt_le.mpr ?_⟩
    have h2 : ¬ (64 : Int32) ≤ v := fun z => q (Or.inr z)
    have h3 := Int32.lt_iff_toInt_lt.mp (Int32.not_le.mp h2)
    rw [show (64 : Int32).toInt = 64 by decide] at h3
    rw [show (63 : Int32).toInt = 63 by decide]
    omega
theorem bm_bL_d {d : Nat} (h : d < 3) : bm_bL (lN d) 3 = 1 := by
  rcases (show d = 0 ∨ d = 1 ∨ d = 2 by omega) with h | h | h <;> (subst h; decide)
