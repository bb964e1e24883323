theorem bm_lst_n {lf : Nat → Int32} {pr : Nat → Int64} {i : Nat} (h : lf i = 0) : bm_lst lf pr (i + 1) = bm_lst lf pr i := if_neg (fun q => q.1 h)
theorem bm_lst_lt {lf : Nat → Int32} {pr : Nat → Int64} {i : Nat} (h : ¬ lf i = 0) (h2 : bm_lst lf pr i < 0) : bm_lst lf pr (i + 1) = nI i := if_pos ⟨h, Or.inl h2⟩
theorem bm_lst_y {lf : Nat → Int32} {pr : Nat → Int64} {i b : Nat} (h : ¬ lf i = 0) (hb : b < 2 ^ 31) (h2 : bm_lst lf pr i = nI b) (h3 : pr i < pr b) : bm_lst lf pr (i + 1) = nI i := if_pos ⟨h, Or.inr (by rw [h2, nI_clamp hb]; exact h3)⟩
theorem bm_lst_no {lf : Nat → Int32} {pr : Nat → Int64} {i b : Nat} (hb : b < 2 ^ 31) (h2 : bm_lst lf pr i = nI b) (h3 : ¬ pr i < pr b) : bm_lst lf pr (i + 1) = bm_lst lf pr i := if_neg (fun q => q.2.elim (fun z => by rw [h2] at z; exact nI_pos hb z) (fun z => h3 (by rw [h2, nI_clamp hb] at z; exact z)))
theorem bm_lst_ix {lf : Nat → Int32} {pr : Nat → Int64} {i : Nat} (hi : i ≤ 6) (h : ¬ bm_lst lf pr i < 0) : ∃ b, b < i ∧ bm_lst lf pr i = nI b := by
  rcases bm_lst_ok lf pr i hi with ⟨-, h1⟩ | ⟨b, hb, -, h1, -⟩
  · exact absurd (by rw [h1]; decide) h
  · exact ⟨b, hb, h1⟩
