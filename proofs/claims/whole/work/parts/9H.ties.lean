/-- note k of the reference tells what the credit tells -/
def bm_NE (tk : Nat → Int64) (e : bm_CE) (k : Nat) : Prop := tk (10 * k) = e.d0 ∧ (∀ j, j < 4 → tk (10 * k + (1 + j)) = e.h j) ∧ tk (10 * k + 5) = e.c0 ∧ ∀ j, j < 4 → tk (10 * k + (6 + j)) = e.hv j
/-- the credits, the newest first, are the notes, the oldest first -/
def bm_LN (tk : Nat → Int64) : List bm_CE → Prop
  | [] => True
  | e :: t => bm_NE tk e t.length ∧ bm_LN tk t
theorem bm_NE_me {tk : Nat → Int64} {e : bm_CE} {k : Nat} (h : bm_NE tk e k) (d : Int64) (g : Nat → Int64) : bm_ie e.d0 d e.h g 4 = bm_me tk g d k 4 := bm_ie_me h.1 h.2.1 4 (Nat.le_refl _)
theorem bm_fc_none {tk : Nat → Int64} {d : Int64} {g : Nat → Int64} : ∀ {L : List bm_CE}, bm_LN tk L → (∀ i, i < L.length → bm_me tk g d i 4 = 0) → bm_fc d g L = .null := by
  intro L
  induction L with
  | nil => intro _ _; rfl
  | cons e t ih =>
    intro hL h
    rw [bm_fc_n ((bm_NE_me hL.1 d g).trans (h t.length (Nat.lt_succ_self _)))]
    exact ih hL.2 (fun i hi => h i (Nat.lt_succ_of_lt hi))
/-- the one credit that is of this coin is found by both -/
theorem bm_fc_some {tk : Nat → Int64} {d : Int64} {g : Nat → Int64} {kk : Nat} (hf : ¬ bm_me tk g d kk 4 = 0) : ∀ {L : List bm_CE}, bm_LN tk L → kk < L.length → (∀ i, i < L.length → i ≠ kk → bm_me tk g d i 4 = 0) → ∃ e, e ∈ L ∧ bm_fc d g L = .ref e.a ∧ bm_NE tk e kk := by
  intro L
  induction L with
  | nil => intro _ h _; exact absurd h (Nat.not_lt_zero _)
  | cons e t ih =>
    intro hL hk h
    by_cases q : t.length = kk
    · refine ⟨e, List.mem_cons_self, bm_fc_y ?_, q ▸ hL.1⟩
      rw [bm_NE_me hL.1 d g, q]
      exact hf
    · rw [bm_fc_n ((bm_NE_me hL.1 d g).trans (h t.length (Nat.lt_succ_self _) q))]
      have hk2 : kk < t.length := by
        have : kk < t.length + 1 := hk
        omega
      obtain ⟨e2, m2, a2, b2⟩ := ih hL.2 hk2 (fun i hi hne => h i (Nat.lt_succ_of_lt hi) hne)
      exact ⟨e2, List.mem_cons_of_mem _ m2, a2, b2⟩
