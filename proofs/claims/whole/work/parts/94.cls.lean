theorem bm_hu_z {dn sp w : Int32} (h : bm_hu dn sp w = 0) : ¬ (dn = w ∧ sp = 0) := fun q => by rw [bm_hu_3 q.1 q.2] at h; exact absurd h (by decide)
theorem bm_hu_nz {dn sp w : Int32} (h : ¬ bm_hu dn sp w = 0) : dn = w ∧ sp = 0 := by
  by_cases q : dn = w ∧ sp = 0
  · exact q
  · exact absurd (if_neg q) h
theorem bm_cs_n2 {f4 f7 : Nat → Int32} {a d k : Nat} {s : Int32 × Int32} (h : ¬ (f4 (8 * a + k) = nI d ∧ f7 (8 * a + k) = 0 ∧ ¬ (bm_cs f4 f7 a d k s).2 < bm_w d)) : bm_cs f4 f7 a d (k + 1) s = bm_cs f4 f7 a d k s := by
  rw [bm_cs_n h]
  exact Prod.ext (Int32.or_zero) (Int32.sub_zero _)
