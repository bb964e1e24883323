theorem bm_v3_0 {A C Y : Nat → Int64} {j : Nat} : bm_v3 A C Y (3 * j) = A j := by
  unfold bm_v3
  rw [if_pos (by omega), show 3 * j / 3 = j by omega]
theorem bm_v3_1 {A C Y : Nat → Int64} {j : Nat} : bm_v3 A C Y (3 * j + 1) = C j := by
  unfold bm_v3
  rw [if_neg (by omega), if_pos (by omega), show (3 * j + 1) / 3 = j by omega]
theorem bm_v3_2 {A C Y : Nat → Int64} {j : Nat} : bm_v3 A C Y (3 * j + 2) = Y j := by
  unfold bm_v3
  rw [if_neg (by omega), if_neg (by omega), show (3 * j + 2) / 3 = j by omega]
theorem bm_cpy3 {f g S : Nat → Int64} {a b c : Int64} {n p i : Nat} (h0 : f (3 * n) = a) (h1 : f (3 * n + 1) = b) (h2 : f (3 * n + 2) = c) (hi : i < 4 + 3 * (n + 1)) (hg : i < 4 + 3 * n → g i = S (16 * p + i)) : va_cpy f g (3 * n) (4 + 3 * n) 3 i = vp_updL (vp_updL (vp_updL S (16 * p + (4 + 3 * n)) a) (16 * p + (5 + 3 * n)) b) (16 * p + (6 + 3 * n)) c (16 * p + i) := by
  unfold va_cpy
  by_cases e1 : i = 4 + 3 * n
  · subst e1
    rw [if_pos ⟨by omega, by omega⟩, pk_uLn (by omega), pk_uLn (by omega), pk_uLs, show 3 * n + (4 + 3 * n - (4 + 3 * n)) = 3 * n by omega, h0]
  · by_cases e2 : i = 5 + 3 * n
    · subst e2
      rw [if_pos ⟨by omega, by omega⟩, pk_uLn (by omega), pk_uLs, show 3 * n + (5 + 3 * n - (4 + 3 * n)) = 3 * n + 1 by omega, h1]
    · by_cases e3 : i = 6 + 3 * n
      · subst e3
        rw [if_pos ⟨by omega, by omega⟩, pk_uLs, show 3 * n + (6 + 3 * n - (4 + 3 * n)) = 3 * n + 2 by omega, h2]
      · rw [if_neg (by omega), pk_uLn (by omega), pk_uLn (by omega), pk_uLn (by omega)]
        exact hg (by omega)
/-- a payment's numbers are the reference's row -/
theorem bm_pn_sr {f1 f0 g g8 gr vA vB vC vE vX vY : Nat → Int64} {c p : Nat} {ch : Int64} (h1 : ∀ t, t < 12 → f1 t = bm_v3 vA vC vY t) (h0 : ∀ t, t < 12 → f0 t = bm_v3 vB vE vX t) (ha : ∀ j, j < 4 → g8 (16 * c + 4 * j) = vA j) (hb : ∀ j, j < 4 → g8 (16 * c + 4 * j + 1) = vB j) (hc : ∀ j, j < 4 → g8 (16 * c + 4 * j + 2) = vC j) (he : ∀ j, j < 4 → g8 (16 * c + 4 * j + 1 + 2) = vE j) (hy : ∀ j, j < 4 → vY j = bm_h2 (vB j) (vE j)) (hx : ∀ j, j < 4 → vX j = bm_h2 (vA j) (vC j)) (hs : ∀ i, i < 4 → g i = gr (16 * p + i)) :
    ∀ n, n ≤ 4 → ∀ i, i < 4 + 3 * n → bm_pn f1 f0 ch g n i = bm_sr g8 c p ch gr n (16 * p + i) := by
  intro n
  induction n with
  | zero => intro _ i hi; exact hs i hi
  | succ n ih =>
    intro hn i hi
    have hg := ih (by omega) i
    have hn4 : n < 4 := by omega
    by_cases ho : bm_one ch (nI n) = 1
    · rw [bm_pn_y ho, bm_sr_y ho]
      exact bm_cpy3 (by rw [h1 _ (by omega), bm_v3_0, ha n hn4]) (by rw [h1 _ (by omega), bm_v3_1, hc n hn4]) (by rw [h1 _ (by omega), bm_v3_2, hy n hn4, hb n hn4, he n hn4]) hi hg
    · rw [bm_pn_n ho, bm_sr_n ho]
      exact bm_cpy3 (by rw [h0 _ (by omega), bm_v3_0, hb n hn4]) (by rw [h0 _ (by omega), bm_v3_1, he n hn4]) (by rw [h0 _ (by omega), bm_v3_2, hx n hn4, ha n hn4, hc n hn4]) hi hg
/-- the first four numbers likewise -/
theorem bm_p4_s0 {g : Nat → Int64} {p : Nat} {u v w x : Int64} : ∀ i, i < 4 → bm_p4 u v w x i = bm_s0 g p u v w x (16 * p + i) := by
  intro i hi
  unfold bm_p4 bm_s0
  rcases (show i = 0 ∨ i = 1 ∨ i = 2 ∨ i = 3 by omega) with h | h | h | h <;> (subst h; simp [vp_updL])
