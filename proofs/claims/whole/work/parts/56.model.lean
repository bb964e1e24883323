theorem bm_lst_cg {lf lf' : Nat → Int32} {pr pr' : Nat → Int64} : ∀ n, n ≤ 6 → (∀ j, j < n → lf j = lf' j) → (∀ j, j < n → pr j = pr' j) → bm_lst lf pr n = bm_lst lf' pr' n := by
  intro n
  induction n with
  | zero => intro _ _ _; rfl
  | succ n ih =>
    intro hn h1 h2
    have e := ih (by omega) (fun j hj => h1 j (by omega)) (fun j hj => h2 j (by omega))
    have a1 := h1 n (by omega)
    have a2 := h2 n (by omega)
    show (if ¬ lf n = 0 ∧ (bm_lst lf pr n < 0 ∨ pr n < pr (bm_lst lf pr n).toNatClampNeg) then nI n else bm_lst lf pr n) = (if ¬ lf' n = 0 ∧ (bm_lst lf' pr' n < 0 ∨ pr' n < pr' (bm_lst lf' pr' n).toNatClampNeg) then nI n else bm_lst lf' pr' n)
    by_cases hz : bm_lst lf pr n < 0
    · rw [← e, a1, a2]
      simp only [hz, true_or]
    · obtain ⟨b, hb, hb2⟩ := bm_lst_ix (by omega) hz
      have a3 := h2 b (by omega)
      rw [← e, a1, a2, hb2, nI_clamp (by omega), a3]
theorem bm_lf_s {F lf : Nat → Int32} {pr : Nat → Int64} {i b : Nat} (h : ∀ j, j < 6 → F j = bm_lf lf pr i j) (hq : bm_lst (bm_lf lf pr i) pr 6 = nI b) (hb : b < 6) : ∀ j, j < 6 → upd F b (vp_nar .boolean 0) j = bm_lf lf pr (i + 1) j := by
  intro j hj
  show upd F b (vp_nar .boolean 0) j = upd (bm_lf lf pr i) (bm_lst (bm_lf lf pr i) pr 6).toNatClampNeg 0 j
  rw [hq, nI_clamp (by omega)]
  unfold upd
  by_cases hjb : j = b
  · rw [if_pos hjb, if_pos hjb]
    decide
  · rw [if_neg hjb, if_neg hjb]
    exact h j hj
/-- who is left when two were opened -/
def bm_lf0 (n : Nat) : Nat → Int32 := upd (upd (fun _ => 1) (bm_o1 n) 0) (bm_o2 n) 0
theorem bm_lf0_ok {y : Nat → Int32} (h : ∀ j, j < 6 → y j = 1) (n : Nat) : ∀ j, j < 6 → upd (upd y (bm_o1 n) 0) (bm_o2 n) 0 j = bm_lf0 n j := by
  intro j hj
  unfold bm_lf0 upd
  by_cases h1 : j = bm_o2 n
  · rw [if_pos h1, if_pos h1]
  · rw [if_neg h1, if_neg h1]
    by_cases h2 : j = bm_o1 n
    · rw [if_pos h2, if_pos h2]
    · rw [if_neg h2, if_neg h2]
      exact h j hj
theorem bm_tt_eq {f g : Nat → Int64} (h : ∀ j, j < 6 → f j = g j) : bm_tt f = bm_tt g := by
  unfold bm_tt
  rw [h 0 (by decide), h 1 (by decide), h 2 (by decide), h 3 (by decide), h 4 (by decide), h 5 (by decide)]
theorem bm_hc_eq {d : Int64} {f g : Nat → Int64} (h : ∀ j, j < 4 → f j = g j) : bm_hc d f = bm_hc d g := by
  unfold bm_hc
  rw [h 0 (by decide), h 1 (by decide), h 2 (by decide), h 3 (by decide)]
theorem bm_sub1 (x : Int32) : x + 1 - 1 = x := Int32.add_sub_cancel x 1
/-- a coin's sixteen numbers in the reference's row -/
def bm_cr (seed : Int64) (a : Nat) (ch : Int32) (q : Nat → Nat) (t : Nat) : Int64 := if t % 4 = 0 then bm_ca seed (q (t / 4)) else if t % 4 = 1 then bm_cb seed a ch (q (t / 4)) else if t % 4 = 2 then bm_cc seed (q (t / 4)) else bm_ce seed (q (t / 4))
theorem bm_ixp0 {c K : Nat} {x : Int32} (hx : x = nI c) (h : 16 * K + c < 2 ^ 31) : bm_ix (16 * nI K + x) (16 * K + c) := by
  rw [hx]
  show bm_ix (nI 16 * nI K + nI c) _
  exact bm_ixm h
theorem bm_ixp {c t K : Nat} {x : Int32} (hx : x = nI c) (h : 16 * K + (c + t) < 2 ^ 31) : bm_ix (16 * nI K + x + nI t) (16 * K + (c + t)) := by
  rw [hx]
  show bm_ix (nI 16 * nI K + nI c + nI t) _
  rw [pk_mul, nI_add, nI_add, Nat.add_assoc]
  exact bm_ix_nI h
theorem bm_crw {seed : Int64} {a : Nat} {ch : Int32} {q : Nat → Nat} {g : Nat → Int64} {B : Nat} : ∀ t, t < 16 →
    (vp_updL (vp_updL (vp_updL (vp_updL (vp_updL (vp_updL (vp_updL (vp_updL (vp_updL (vp_updL (vp_updL (vp_updL (vp_updL (vp_updL (vp_updL (vp_updL g (16 * B + 0) (bm_ca seed (q 0))) (16 * B + 1) (bm_cb seed a ch (q 0))) (16 * B + 2) (bm_cc seed (q 0))) (16 * B + 3) (bm_ce seed (q 0))) (16 * B + 4) (bm_ca seed (q 1))) (16 * B + 5) (bm_cb seed a ch (q 1))) (16 * B + 6) (bm_cc seed (q 1))) (16 * B + 7) (bm_ce seed (q 1))) (16 * B + 8) (bm_ca seed (q 2))) (16 * B + 9) (bm_cb seed a ch (q 2))) (16 * B + 10) (bm_cc seed (q 2))) (16 * B + 11) (bm_ce seed (q 2))) (16 * B + 12) (bm_ca seed (q 3))) (16 * B + 13) (bm_cb seed a ch (q 3))) (16 * B + 14) (bm_cc seed (q 3))) (16 * B + 15) (bm_ce seed (q 3))) (16 * B + t) = bm_cr seed a ch q t := by
  intro t ht
  have key : ∀ i v (f : Nat → Int64), vp_updL f (16 * B + i) v (16 * B + t) = if t = i then v else f (16 * B + t) := by
    intro i v f
    unfold vp_updL
    by_cases h : t = i
    · rw [if_pos h, if_pos (by rw [h])]
    · rw [if_neg h, if_neg (by omega)]
  simp only [key]
  have hc : t = 0 ∨ t = 1 ∨ t = 2 ∨ t = 3 ∨ t = 4 ∨ t = 5 ∨ t = 6 ∨ t = 7 ∨ t = 8 ∨ t = 9 ∨ t = 10 ∨ t = 11 ∨ t = 12 ∨ t = 13 ∨ t = 14 ∨ t = 15 := by omega
  clear key
  rcases hc with h | h | h | h | h | h | h | h | h | h | h | h | h | h | h | h <;> (subst h; simp [bm_cr])
theorem bm_crk {seed : Int64} {a : Nat} {ch : Int32} {q : Nat → Nat} {g : Nat → Int64} {B : Nat} : ∀ i, (i < 16 * B ∨ 16 * B + 16 ≤ i) →
    (vp_updL (vp_updL (vp_updL (vp_updL (vp_updL (vp_updL (vp_updL (vp_updL (vp_updL (vp_updL (vp_updL (vp_updL (vp_updL (vp_updL (vp_updL (vp_updL g (16 * B + 0) (bm_ca seed (q 0))) (16 * B + 1) (bm_cb seed a ch (q 0))) (16 * B + 2) (bm_cc seed (q 0))) (16 * B + 3) (bm_ce seed (q 0))) (16 * B + 4) (bm_ca seed (q 1))) (16 * B + 5) (bm_cb seed a ch (q 1))) (16 * B + 6) (bm_cc seed (q 1))) (16 * B + 7) (bm_ce seed (q 1))) (16 * B + 8) (bm_ca seed (q 2))) (16 * B + 9) (bm_cb seed a ch (q 2))) (16 * B + 10) (bm_cc seed (q 2))) (16 * B + 11) (bm_ce seed (q 2))) (16 * B + 12) (bm_ca seed (q 3))) (16 * B + 13) (bm_cb seed a ch (q 3))) (16 * B + 14) (bm_cc seed (q 3))) (16 * B + 15) (bm_ce seed (q 3))) i = g i := by
  intro i hi
  have key : ∀ c v (f : Nat → Int64), c < 16 → vp_updL f (16 * B + c) v i = f i := by
    intro c v f hc
    unfold vp_updL
    rw [if_neg (by omega)]
  simp only [key _ _ _ (show 0 < 16 by decide), key _ _ _ (show 1 < 16 by decide), key _ _ _ (show 2 < 16 by decide), key _ _ _ (show 3 < 16 by decide), key _ _ _ (show 4 < 16 by decide), key _ _ _ (show 5 < 16 by decide), key _ _ _ (show 6 < 16 by decide), key _ _ _ (show 7 < 16 by decide), key _ _ _ (show 8 < 16 by decide), key _ _ _ (show 9 < 16 by decide), key _ _ _ (show 10 < 16 by decide), key _ _ _ (show 11 < 16 by decide), key _ _ _ (show 12 < 16 by decide), key _ _ _ (show 13 < 16 by decide), key _ _ _ (show 14 < 16 by decide), key _ _ _ (show 15 < 16 by decide)]
theorem bm_hc4 {d : Int64} {g p : Nat → Int64} : bm_hc d (vp_updL (vp_updL (vp_updL (vp_updL g 0 (p 0)) 1 (p 1)) 2 (p 2)) 3 (p 3)) = bm_hc d p := by
  refine bm_hc_eq ?_
  intro j hj
  have hc : j = 0 ∨ j = 1 ∨ j = 2 ∨ j = 3 := by omega
  rcases hc with h | h | h | h <;> (subst h; simp [vp_updL])
