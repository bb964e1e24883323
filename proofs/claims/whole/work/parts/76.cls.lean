theorem bm_vus {f : Nat → Option Nat} {k : Nat} {v : Option Nat} : va_up f k v k = v := by simp [va_up]
theorem bm_vun {f : Nat → Option Nat} {k i : Nat} {v : Option Nat} (h : i ≠ k) : va_up f k v i = f i := by simp [va_up, h]
theorem bm_dec {t : Nat} (h : 0 < t) : nI t + Int32.ofInt (-1) = nI (t - 1) := by
  rw [show Int32.ofInt (-1) = -(nI 1) by decide, ← Int32.sub_eq_add_neg]
  exact pk_sub h
/-- a row of indices into which j was put at place t -/
def bm_in (o : Nat → Nat) (t j i : Nat) : Nat := if i < t then o i else if i = t then j else o (i - 1)
theorem bm_is1 {w : Nat → Option Nat} {o : Nat → Nat} {q t : Nat} {v : Option Nat} (w1 : ∀ i, i < t → w i = some (q + (3 + o i))) : ∀ i, i < t - 1 → va_up w t v i = some (q + (3 + o i)) := fun i hi => (bm_vun (by omega)).trans (w1 i (by omega))
theorem bm_is2 {w : Nat → Option Nat} {o : Nat → Nat} {q t c : Nat} (w2 : ∀ i, t < i → i ≤ c → w i = some (q + (3 + o (i - 1)))) : ∀ i, t - 1 < i → i ≤ c → va_up w t (some (q + (3 + o (t - 1)))) i = some (q + (3 + o (i - 1))) := by
  intro i h1 h2
  by_cases e : i = t
  · subst e; exact bm_vus
  · exact (bm_vun e).trans (w2 i (by omega) h2)
theorem bm_is3 {vP : Nat → Int64} {o : Nat → Nat} {t c j : Nat} (ht : 0 < t) (w3 : ∀ i, t ≤ i → i < c → vP j < vP (o i)) (h : vP j < vP (o (t - 1))) : ∀ i, t - 1 ≤ i → i < c → vP j < vP (o i) := by
  intro i h1 h2
  by_cases e : i = t - 1
  · subst e; exact h
  · exact w3 i (by omega) h2
theorem bm_isf {w : Nat → Option Nat} {o : Nat → Nat} {q t c j : Nat} (w1 : ∀ i, i < t → w i = some (q + (3 + o i))) (w2 : ∀ i, t < i → i ≤ c → w i = some (q + (3 + o (i - 1)))) : ∀ i, i ≤ c → va_up w t (some (q + (3 + j))) i = some (q + (3 + bm_in o t j i)) := by
  intro i hi
  unfold bm_in
  by_cases h1 : i < t
  · rw [if_pos h1, bm_vun (by omega)]; exact w1 i h1
  · rw [if_neg h1]
    by_cases h2 : i = t
    · rw [if_pos h2, h2]; exact bm_vus
    · rw [if_neg h2, bm_vun h2]; exact w2 i (by omega) hi
/-- the row stays in order -/
theorem bm_in_lx {vP : Nat → Int64} {o : Nat → Nat} {t c j : Nat} (htc : t ≤ c) (hlt : ∀ i, i < c → o i < j) (hs : ∀ i k, i < k → k < c → bm_lx vP (o i) (o k)) (w3 : ∀ i, t ≤ i → i < c → vP j < vP (o i)) (w4 : t = 0 ∨ ¬ vP j < vP (o (t - 1))) : ∀ i k, i < k → k < c + 1 → bm_lx vP (bm_in o t j i) (bm_in o t j k) := by
  intro i k hik hk
  have lo : ∀ i, i < t → bm_lx vP (o i) j := by
    intro i hi
    rcases w4 with h0 | h0
    · omega
    · have h1 : (vP (o (t - 1))).toInt ≤ (vP j).toInt := Int64.le_iff_toInt_le.mp (Int64.not_lt.mp h0)
      have h2 : (vP (o i)).toInt ≤ (vP (o (t - 1))).toInt := by
        by_cases e : i = t - 1
        · rw [e]; exact Int.le_refl _
        · rcases hs i (t - 1) (by omega) (by omega) with h | h <;> omega
      have h3 := hlt i (by omega)
      unfold bm_lx
      omega
  have hi : ∀ i, t ≤ i → i < c → bm_lx vP j (o i) := fun i h1 h2 => Or.inl (Int64.lt_iff_toInt_lt.mp (w3 i h1 h2))
  unfold bm_in
  by_cases a1 : i < t
  · rw [if_pos a1]
    by_cases b1 : k < t
    · rw [if_pos b1]; exact hs i k hik (by omega)
    · rw [if_neg b1]
      by_cases b2 : k = t
      · rw [if_pos b2]; exact lo i a1
      · rw [if_neg b2]
        exact hs i (k - 1) (by omega) (by omega)
  · rw [if_neg a1, if_neg (show ¬ k < t by omega), if_neg (show ¬ k = t by omega)]
    by_cases a2 : i = t
    · rw [if_pos a2]; exact hi (k - 1) (by omega) (by omega)
    · rw [if_neg a2]; exact hs (i - 1) (k - 1) (by omega) (by omega)
theorem bm_in_mem {o : Nat → Nat} {t c j : Nat} (htc : t ≤ c) (x : Nat) : (∃ i, i < c + 1 ∧ x = bm_in o t j i) ↔ (x = j ∨ ∃ i, i < c ∧ x = o i) := by
  unfold bm_in
  constructor
  · rintro ⟨i, hi, hx⟩
    by_cases a1 : i < t
    · rw [if_pos a1] at hx; exact Or.inr ⟨i, by omega, hx⟩
    · rw [if_neg a1] at hx
      by_cases a2 : i = t
      · rw [if_pos a2] at hx; exact Or.inl hx
      · rw [if_neg a2] at hx; exact Or.inr ⟨i - 1, by omega, hx⟩
  · rintro (h | ⟨i, hi, hx⟩)
    · exact ⟨t, by omega, by rw [if_neg (Nat.lt_irrefl t), if_pos rfl]; exact h⟩
    · by_cases a1 : i < t
      · exact ⟨i, by omega, by rw [if_pos a1]; exact hx⟩
      · exact ⟨i + 1, by omega, by rw [if_neg (by omega), if_neg (by omega)]; exact hx⟩
