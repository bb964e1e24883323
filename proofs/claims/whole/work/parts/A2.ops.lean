/-! the picture after each call: the cells of the constructor; numbers below a payment's row -/
theorem bm_sr_lo {g8 g : Nat → Int64} {c p : Nat} {ch : Int64} {k : Nat} (hk : k < 16 * p) : ∀ j, bm_sr g8 c p ch g j k = g k := by
  intro j
  induction j with
  | zero => rfl
  | succ j ih =>
    by_cases q : bm_one ch (nI j) = 1
    · rw [bm_sr_y q]
      unfold vp_updL
      rw [if_neg (by omega), if_neg (by omega), if_neg (by omega)]
      exact ih
    · rw [bm_sr_n q]
      unfold vp_updL
      rw [if_neg (by omega), if_neg (by omega), if_neg (by omega)]
      exact ih
theorem bm_s0_lo {g : Nat → Int64} {p : Nat} {u v w x : Int64} {k : Nat} (hk : k < 16 * p) : bm_s0 g p u v w x k = g k := by
  unfold bm_s0 vp_updL
  rw [if_neg (by omega), if_neg (by omega), if_neg (by omega), if_neg (by omega)]
section BMS
variable {ct : Nat → ClassId} {x : Nat} {tr np tr1 np1 : Int32} {bl bl1 : Int64} {f1 f2 f3 g1 g2 g3 : Nat → Int32} {wf : Nat → Nat → Option Nat} {pw pw1 : Nat → Option Nat} {lc lc1 : Value} {M M1 : bm_Map}
/-- the object and the row of payments change -/
theorem bm_sta_sp (h : bm_sta ct x np tr bl f1 f2 f3 wf pw lc M) (hx : M1 x = some (.inr (6, [.ref (x + 1), .ref (x + 2), .ref (x + 11), .int np1, .ref (x + 12), lc1, .int tr1, .long bl1, .int (g2 0), .int (g2 1), .int (g2 2), .int (g2 3)]))) (h11 : M1 (x + 11) = some (.inl (ct 4, 20, .inr (.inr (.inr (.inr pw1)))))) (hk : ∀ b, x < b → b < x + 21 → b ≠ x + 11 → M1 b = M b) : bm_sta ct x np1 tr1 bl1 f1 g2 f3 wf pw1 lc1 M1 := by
  obtain ⟨-, ⟨ac, h2, h2'⟩, ⟨fo, so, h3⟩, ⟨cf, h4, h4'⟩, ⟨pt, h5⟩, ⟨vA, vC, vE, vB, vX, vY, vP, h6⟩, -, ⟨h, h8⟩, h9, h10⟩ := h
  have kk : ∀ {b e}, M b = some e → x < b → b < x + 21 → b ≠ x + 11 → M1 b = some e := fun q1 q2 q3 q4 => (hk _ q2 q3 q4).trans q1
  exact ⟨hx, ⟨ac, kk h2 (by omega) (by omega) (by omega), h2'⟩, ⟨fo, so, kk h3 (by omega) (by omega) (by omega)⟩, ⟨cf, kk h4 (by omega) (by omega) (by omega), h4'⟩, ⟨pt, kk h5 (by omega) (by omega) (by omega)⟩, ⟨vA, vC, vE, vB, vX, vY, vP, fun j hj => kk (h6 j hj) (by omega) (by omega) (by omega)⟩, h11, ⟨h, kk h8 (by omega) (by omega) (by omega)⟩, fun a ha => kk (h9 a ha) (by omega) (by omega) (by omega), fun a ha => kk (h10 a ha) (by omega) (by omega) (by omega)⟩
/-- the object, the row of hashes, the proposal, one account change -/
theorem bm_sta_wd (h : bm_sta ct x np tr bl f1 f2 f3 wf pw lc M) {a : Nat} (ha4 : a < 4) (hx : M1 x = some (.inr (6, [.ref (x + 1), .ref (x + 2), .ref (x + 11), .int np, .ref (x + 12), lc1, .int tr1, .long bl1, .int (g2 0), .int (g2 1), .int (g2 2), .int (g2 3)])))
    (h2 : ∃ fo so : Int32, M1 (x + 2) = some (.inr (5, [.ref (x + 3), .ref (x + 4), .int fo, .int so]))) (h4 : ∃ pt : Nat → Option Nat, M1 (x + 4) = some (.inl (ct 5, 4, .inr (.inr (.inr (.inr pt)))))) (hc : ∃ vA vC vE vB vX vY vP : Nat → Int64, ∀ j, j < 6 → M1 (x + 2 + (3 + j)) = some (.inr (1, [.long (vA j), .long (vC j), .long (vE j), .long (vB j), .long (vX j), .long (vY j), .long (vP j)]))) (h12 : ∃ h : Nat → Int64, M1 (x + 12) = some (.inl (ct 1, 4, .inr (.inl h))))
    {bal cc : Int32} (hA : M1 (x + (13 + 2 * a)) = some (.inr (0, [.int bal, .ref (x + (14 + 2 * a)), .int cc]))) {wa : Nat → Option Nat} (hW : M1 (x + (14 + 2 * a)) = some (.inl (ct 6, 8, .inr (.inr (.inr (.inr wa))))))
    (e1 : g1 a = bal ∧ ∀ b, b ≠ a → g1 b = f1 b) (e3 : g3 a = cc ∧ ∀ b, b ≠ a → g3 b = f3 b) (hk : ∀ b, b ≠ x → b ≠ x + 12 → b ≠ x + (13 + 2 * a) → b ≠ x + (14 + 2 * a) → (b < x + 2 ∨ x + 11 ≤ b ∨ b = x + 3) → b < x + 21 → x ≤ b → M1 b = M b) :
    bm_sta ct x np tr1 bl1 g1 g2 g3 (fun b => if b = a then wa else wf b) pw lc1 M1 := by
  obtain ⟨-, ⟨ac, s2, s2'⟩, -, ⟨cf, s4, s4'⟩, -, -, s7, -, s9, s10⟩ := h
  refine ⟨hx, ⟨ac, (hk _ (by omega) (by omega) (by omega) (by omega) (by omega) (by omega) (by omega)).trans s2, s2'⟩, h2, ⟨cf, (hk _ (by omega) (by omega) (by omega) (by omega) (by omega) (by omega) (by omega)).trans s4, s4'⟩, h4, hc, (hk _ (by omega) (by omega) (by omega) (by omega) (by omega) (by omega) (by omega)).trans s7, h12, fun b hb => ?_, fun b hb => ?_⟩
  · by_cases q : b = a
    · subst q
      rw [e1.1, e3.1]
      exact hA
    · rw [e1.2 b q, e3.2 b q]
      exact (hk _ (by omega) (by omega) (by omega) (by omega) (by omega) (by omega) (by omega)).trans (s9 b hb)
  · dsimp only
    by_cases q : b = a
    · subst q
      rw [if_pos rfl]
      exact hW
    · rw [if_neg q]
      exact (hk _ (by omega) (by omega) (by omega) (by omega) (by omega) (by omega) (by omega)).trans (s10 b hb)
/-- the object and the row of hashes change -/
theorem bm_sta_x (h : bm_sta ct x np tr bl f1 f2 f3 wf pw lc M) (hx : M1 x = some (.inr (6, [.ref (x + 1), .ref (x + 2), .ref (x + 11), .int np, .ref (x + 12), lc1, .int tr1, .long bl1, .int (g2 0), .int (g2 1), .int (g2 2), .int (g2 3)]))) (h12 : ∃ h : Nat → Int64, M1 (x + 12) = some (.inl (ct 1, 4, .inr (.inl h)))) (hk : ∀ b, x < b → b < x + 21 → b ≠ x + 12 → M1 b = M b) : bm_sta ct x np tr1 bl1 f1 g2 f3 wf pw lc1 M1 := by
  obtain ⟨-, ⟨ac, h2, h2'⟩, ⟨fo, so, h3⟩, ⟨cf, h4, h4'⟩, ⟨pt, h5⟩, ⟨vA, vC, vE, vB, vX, vY, vP, h6⟩, h7, -, h9, h10⟩ := h
  have kk : ∀ {b e}, M b = some e → x < b → b < x + 21 → b ≠ x + 12 → M1 b = some e := fun q1 q2 q3 q4 => (hk _ q2 q3 q4).trans q1
  exact ⟨hx, ⟨ac, kk h2 (by omega) (by omega) (by omega), h2'⟩, ⟨fo, so, kk h3 (by omega) (by omega) (by omega)⟩, ⟨cf, kk h4 (by omega) (by omega) (by omega), h4'⟩, ⟨pt, kk h5 (by omega) (by omega) (by omega)⟩, ⟨vA, vC, vE, vB, vX, vY, vP, fun j hj => kk (h6 j hj) (by omega) (by omega) (by omega)⟩, kk h7 (by omega) (by omega) (by omega), h12, fun a ha => kk (h9 a ha) (by omega) (by omega) (by omega), fun a ha => kk (h10 a ha) (by omega) (by omega) (by omega)⟩
end BMS
