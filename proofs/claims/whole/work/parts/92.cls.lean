theorem bm_bl_out {v : Int32} (h : bm_bl v 4 = 0) : v.toInt < 0 ∨ 3 < v.toInt := by
  by_cases q : v < 0 ∨ 4 ≤ v
  · rcases q with q | q
    · exact Or.inl (Int32.lt_iff_toInt_lt.mp q)
    · have := Int32.le_iff_toInt_le.mp q
      rw [show (4 : Int32).toInt = 4 by decide] at this
      exact Or.inr (by omega)
  · rw [bm_bl_o q] at h
    exact absurd h (by decide)
theorem bm_gd_01 {w : Int32} {d : Nat} {x : Int64} {k : Nat} (h : ¬ bm_gd w (bm_is d x k) = 0) : 1 = bm_gd w (bm_is d x k) := by
  by_cases hw : w = 0
  · exact absurd (bm_gd_0 hw).symm h
  · rw [bm_gd_n hw] at h ⊢
    exact (bm_is_01 h).symm
