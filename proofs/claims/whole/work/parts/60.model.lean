/-- the pair hash of a payment's part -/
def bm_ph (r : Nat → Int64) (p : Nat) (ch : Int64) (j : Nat) : Int64 := if bm_one ch (nI j) = 1 then bm_h2 (bm_h2 (r (16 * p + (4 + 3 * j))) (r (16 * p + (4 + 3 * j) + 1))) (r (16 * p + (4 + 3 * j) + 2)) else bm_h2 (r (16 * p + (4 + 3 * j) + 2)) (bm_h2 (r (16 * p + (4 + 3 * j))) (r (16 * p + (4 + 3 * j) + 1)))
theorem bm_ph_y {r : Nat → Int64} {p j : Nat} {ch : Int64} (h : bm_one ch (nI j) = 1) : bm_h2 (bm_h2 (r (16 * p + (4 + 3 * j))) (r (16 * p + (4 + 3 * j) + 1))) (r (16 * p + (4 + 3 * j) + 2)) = bm_ph r p ch j := (if_pos h).symm
theorem bm_ph_n {r : Nat → Int64} {p j : Nat} {ch : Int64} (h : ¬ bm_one ch (nI j) = 1) : bm_h2 (r (16 * p + (4 + 3 * j) + 2)) (bm_h2 (r (16 * p + (4 + 3 * j))) (r (16 * p + (4 + 3 * j) + 1))) = bm_ph r p ch j := (if_neg h).symm
/-- the row of pair hashes after j parts -/
def bm_hs (h g : Nat → Int64) : Nat → Nat → Int64
  | 0 => g
  | j + 1 => vp_updL (bm_hs h g j) j (h j)
theorem bm_hs_at {h g : Nat → Int64} : ∀ {i t : Nat}, t < i → bm_hs h g i t = h t := by
  intro i
  induction i with
  | zero => intro t ht; omega
  | succ i ih =>
    intro t ht
    show vp_updL (bm_hs h g i) i (h i) t = h t
    by_cases e : t = i
    · rw [e]; exact pk_uLs
    · rw [pk_uLn e]; exact ih (by omega)
/-- do the pair hashes not fall, so far -/
def bm_gw (h : Nat → Int64) : Nat → Int32
  | 0 => 1
  | j + 1 => if bm_gw h j = 0 ∨ (¬ j = 0 ∧ h j < h (j - 1)) then 0 else 1
theorem bm_gw_0 {h : Nat → Int64} {j : Nat} (q : bm_gw h j = 0) : bm_gw h (j + 1) = 0 := if_pos (Or.inl q)
theorem bm_gw_f {h : Nat → Int64} {j : Nat} (q : ¬ j = 0) (q2 : h j < h (j - 1)) : bm_gw h (j + 1) = 0 := if_pos (Or.inr ⟨q, q2⟩)
theorem bm_gw_z {h : Nat → Int64} {j : Nat} (q : ¬ bm_gw h j = 0) (q2 : j = 0) : bm_gw h (j + 1) = 1 := if_neg (fun z => z.elim q (fun w => w.1 q2))
theorem bm_gw_g {h : Nat → Int64} {j : Nat} (q : ¬ bm_gw h j = 0) (q2 : ¬ h j < h (j - 1)) : bm_gw h (j + 1) = 1 := if_neg (fun z => z.elim q (fun w => q2 w.2))
def bm_gd (w x : Int32) : Int32 := if w = 0 then 0 else x
theorem bm_is_01 {d : Nat} {x : Int64} {k : Nat} (h : ¬ bm_is d x k = 0) : bm_is d x k = 1 := by
  unfold bm_is at h ⊢
  split
  · rename_i q; rw [if_pos q] at h; exact absurd rfl h
  · rfl
theorem bm_gd_0 {w x : Int32} (h : w = 0) : 0 = bm_gd w x := (if_pos h).symm
theorem bm_gd_1 {w x y : Int32} (h : ¬ w = 0) (hx : x = y) : y = bm_gd w x := by rw [show bm_gd w x = x from if_neg h]; exact hx.symm
/-- is credit k for these pair hashes, after j of them -/
def bm_me (tk h : Nat → Int64) (den : Int64) (k : Nat) : Nat → Int32
  | 0 => if tk (10 * k) = den then 1 else 0
  | j + 1 => if ¬ bm_me tk h den k j = 0 ∧ tk (10 * k + (1 + j)) = h j then 1 else 0
theorem bm_me_a {tk h : Nat → Int64} {den : Int64} {k : Nat} (q : tk (10 * k) = den) : bm_me tk h den k 0 = 1 := if_pos q
theorem bm_me_b {tk h : Nat → Int64} {den : Int64} {k : Nat} (q : ¬ tk (10 * k) = den) : bm_me tk h den k 0 = 0 := if_neg q
theorem bm_me_0 {tk h : Nat → Int64} {den : Int64} {k j : Nat} (q : bm_me tk h den k j = 0) : bm_me tk h den k (j + 1) = 0 := if_neg (fun z => z.1 q)
theorem bm_me_n {tk h : Nat → Int64} {den : Int64} {k j : Nat} (q : ¬ tk (10 * k + (1 + j)) = h j) : bm_me tk h den k (j + 1) = 0 := if_neg (fun z => q z.2)
theorem bm_me_y {tk h : Nat → Int64} {den : Int64} {k j : Nat} (q : ¬ bm_me tk h den k j = 0) (q2 : tk (10 * k + (1 + j)) = h j) : bm_me tk h den k (j + 1) = 1 := if_pos ⟨q, q2⟩
/-- whom a part of two payments names -/
def bm_vl (r tk : Nat → Int64) (p k j : Nat) : Int32 := if (r (16 * p + (4 + 3 * j)) ^^^ tk (10 * k + (6 + j))) < 1000 ∨ 1003 < (r (16 * p + (4 + 3 * j)) ^^^ tk (10 * k + (6 + j))) then (-1) else (r (16 * p + (4 + 3 * j)) ^^^ tk (10 * k + (6 + j))).toInt32 - 1000
def bm_tv (r tk : Nat → Int64) (p k : Nat) (df : Int64) : Nat → Int32
  | 0 => (-1)
  | u + 1 => if bm_one df (nI (3 - u)) = 1 then bm_vl r tk p k (3 - u) else bm_tv r tk p k df u
theorem bm_tv_n {r tk : Nat → Int64} {p k u : Nat} {df : Int64} (h : ¬ bm_one df (nI (3 - u)) = 1) : bm_tv r tk p k df (u + 1) = bm_tv r tk p k df u := if_neg h
theorem bm_tv_1 {r tk : Nat → Int64} {p k u : Nat} {df : Int64} (h : bm_one df (nI (3 - u)) = 1) (h2 : (r (16 * p + (4 + 3 * (3 - u))) ^^^ tk (10 * k + (6 + (3 - u)))) < 1000) : bm_tv r tk p k df (u + 1) = (-1) := (if_pos h).trans (if_pos (Or.inl h2))
theorem bm_tv_2 {r tk : Nat → Int64} {p k u : Nat} {df : Int64} (h : bm_one df (nI (3 - u)) = 1) (h2 : 1003 < (r (16 * p + (4 + 3 * (3 - u))) ^^^ tk (10 * k + (6 + (3 - u))))) : bm_tv r tk p k df (u + 1) = (-1) := (if_pos h).trans (if_pos (Or.inr h2))
theorem bm_tv_3 {r tk : Nat → Int64} {p k u : Nat} {df : Int64} (h : bm_one df (nI (3 - u)) = 1) (h1 : ¬ (r (16 * p + (4 + 3 * (3 - u))) ^^^ tk (10 * k + (6 + (3 - u)))) < 1000) (h2 : ¬ 1003 < (r (16 * p + (4 + 3 * (3 - u))) ^^^ tk (10 * k + (6 + (3 - u))))) : bm_tv r tk p k df (u + 1) = (r (16 * p + (4 + 3 * (3 - u))) ^^^ tk (10 * k + (6 + (3 - u)))).toInt32 - 1000 := (if_pos h).trans (if_neg (fun q => q.elim h1 h2))
def bm_df (r tk : Nat → Int64) (p k : Nat) : Int64 := (bm_ch r p ^^^ tk (10 * k + 5)) &&& 15
theorem bm_dj {i : Nat} (h : i < 4) : 3 - nI i = nI (3 - i) := pk_sub (a := 3) (by omega)
theorem bm_dk {i : Nat} (h : i < 4) : nI (3 - i) + Int32.ofInt (-1) = 3 - nI (i + 1) := by
  rcases (show i = 0 ∨ i = 1 ∨ i = 2 ∨ i = 3 by omega) with h | h | h | h <;> (subst h; decide)
/-- the notes of a deposit after j parts -/
def bm_td (r h : Nat → Int64) (p K : Nat) (g : Nat → Int64) : Nat → Nat → Int64
  | 0 => g
  | j + 1 => vp_updL (vp_updL (bm_td r h p K g j) (10 * K + (1 + j)) (h j)) (10 * K + (6 + j)) (r (16 * p + (4 + 3 * j)))
theorem bm_lt3 {d : Nat} (h : d < 3) : ¬ lg_cmp (lN d) 0 < 0 := by
  rcases (show d = 0 ∨ d = 1 ∨ d = 2 by omega) with h | h | h <;> (subst h; decide)
theorem bm_le3 {d : Nat} (h : d < 3) : lg_cmp (lN d) 2 ≤ 0 := by
  rcases (show d = 0 ∨ d = 1 ∨ d = 2 by omega) with h | h | h <;> (subst h; decide)
theorem bm_ixs {i : Nat} (h : ¬ nI i = 0) (hi : i < 2 ^ 31) : bm_ix (nI i - 1) (i - 1) := by
  have h0 : ¬ i = 0 := fun z => h (by rw [z]; decide)
  rw [show nI i - 1 = nI (i - 1) from pk_sub (b := 1) (by omega)]
  exact bm_ix_nI (by omega)
theorem bm_gd_z {w : Int32} {d : Nat} {x : Int64} {k : Nat} : narrow .boolean (.int (bm_gd w (bm_is d x k))) = .int (bm_gd w (bm_is d x k)) := by
  have h : bm_gd w (bm_is d x k) = 0 ∨ bm_gd w (bm_is d x k) = 1 := by
    by_cases hw : w = 0
    · exact Or.inl (bm_gd_0 hw).symm
    · by_cases h : bm_is d x k = 0
      · exact Or.inl (bm_gd_1 hw h).symm
      · exact Or.inr (bm_gd_1 hw (bm_is_01 h)).symm
  rcases h with h | h <;> (rw [h]; decide)
