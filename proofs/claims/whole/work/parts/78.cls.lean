theorem bm_le4 {c : Nat} (h : 4 ≤ c) (h2 : c ≤ 6) : (4 : Int32) ≤ nI c := by
  rcases (show c = 4 ∨ c = 5 ∨ c = 6 by omega) with h | h | h <;> (subst h; decide)
theorem bm_s3s {a1 a2 j c : Nat} {o : Nat → Nat} (S3 : ∀ x, x < j → ((¬ x = a1 ∧ ¬ x = a2) ↔ ∃ i, i < c ∧ x = o i)) (S1 : ∀ i, i < c → o i < j) (h : j = a1 ∨ j = a2) : ∀ x, x < j + 1 → ((¬ x = a1 ∧ ¬ x = a2) ↔ ∃ i, i < c ∧ x = o i) := by
  intro x hx
  by_cases e : x = j
  · subst e
    constructor
    · intro q; exact absurd h (fun z => z.elim q.1 q.2)
    · rintro ⟨i, hi, he⟩; have := S1 i hi; omega
  · exact S3 x (by omega)
theorem bm_s3i {a1 a2 j c t : Nat} {o : Nat → Nat} (S3 : ∀ x, x < j → ((¬ x = a1 ∧ ¬ x = a2) ↔ ∃ i, i < c ∧ x = o i)) (S1 : ∀ i, i < c → o i < j) (h1 : ¬ j = a1) (h2 : ¬ j = a2) (ht : t ≤ c) : ∀ x, x < j + 1 → ((¬ x = a1 ∧ ¬ x = a2) ↔ ∃ i, i < c + 1 ∧ x = bm_in o t j i) := by
  intro x hx
  rw [bm_in_mem ht]
  by_cases e : x = j
  · subst e
    exact ⟨fun _ => Or.inl rfl, fun _ => ⟨h1, h2⟩⟩
  · rw [S3 x (by omega)]
    exact ⟨Or.inr, fun z => z.resolve_left e⟩
theorem bm_s3e {a1 a2 j c : Nat} {o : Nat → Nat} (S3 : ∀ x, x < j → ((¬ x = a1 ∧ ¬ x = a2) ↔ ∃ i, i < c ∧ x = o i)) (S1 : ∀ i, i < c → o i < j) (h : ∀ x, j ≤ x → x < 6 → x = a1 ∨ x = a2) : ∀ x, x < 6 → ((¬ x = a1 ∧ ¬ x = a2) ↔ ∃ i, i < c ∧ x = o i) := by
  intro x hx
  by_cases e : x < j
  · exact S3 x e
  · constructor
    · intro q; exact absurd (h x (by omega) hx) (fun z => z.elim q.1 q.2)
    · rintro ⟨i, hi, he⟩; have := S1 i hi; omega
theorem bm_in_lt {j c t : Nat} {o : Nat → Nat} (S1 : ∀ i, i < c → o i < j) (ht : t ≤ c) : ∀ i, i < c + 1 → bm_in o t j i < j + 1 := by
  intro i hi
  unfold bm_in
  by_cases a1 : i < t
  · rw [if_pos a1]; have := S1 i (by omega); omega
  · rw [if_neg a1]
    by_cases a2 : i = t
    · rw [if_pos a2]; omega
    · rw [if_neg a2]; have := S1 (i - 1) (by omega); omega
