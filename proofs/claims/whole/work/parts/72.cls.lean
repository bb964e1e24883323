def bm_v3 (A C Y : Nat → Int64) (t : Nat) : Int64 := if t % 3 = 0 then A (t / 3) else if t % 3 = 1 then C (t / 3) else Y (t / 3)
theorem bm_u12 {g A C Y : Nat → Int64} : ∀ t, t < 12 → (vp_updL (vp_updL (vp_updL (vp_updL (vp_updL (vp_updL (vp_updL (vp_updL (vp_updL (vp_updL (vp_updL (vp_updL g 0 (A 0)) 1 (C 0)) 2 (Y 0)) 3 (A 1)) 4 (C 1)) 5 (Y 1)) 6 (A 2)) 7 (C 2)) 8 (Y 2)) 9 (A 3)) 10 (C 3)) 11 (Y 3)) t = bm_v3 A C Y t := by
  intro t ht
  have hc : t = 0 ∨ t = 1 ∨ t = 2 ∨ t = 3 ∨ t = 4 ∨ t = 5 ∨ t = 6 ∨ t = 7 ∨ t = 8 ∨ t = 9 ∨ t = 10 ∨ t = 11 := by omega
  rcases hc with h | h | h | h | h | h | h | h | h | h | h | h <;> (subst h; simp [vp_updL, bm_v3])
theorem bm_u4 {g v : Nat → Int64} : ∀ t, t < 4 → (vp_updL (vp_updL (vp_updL (vp_updL g 0 (v 0)) 1 (v 1)) 2 (v 2)) 3 (v 3)) t = v t := by
  intro t ht
  have hc : t = 0 ∨ t = 1 ∨ t = 2 ∨ t = 3 := by omega
  rcases hc with h | h | h | h <;> (subst h; simp [vp_updL])
