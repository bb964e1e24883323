theorem bm_cf6 {q : Nat} : ∀ j, j < 6 → va_up (va_up (va_up (va_up (va_up (va_up (fun _ => none) 0 (some (q + 3))) 1 (some (q + 4))) 2 (some (q + 5))) 3 (some (q + 6))) 4 (some (q + 7))) 5 (some (q + 8)) j = some (q + (3 + j)) := by
  intro j hj
  rcases (show j = 0 ∨ j = 1 ∨ j = 2 ∨ j = 3 ∨ j = 4 ∨ j = 5 by omega) with h | h | h | h | h | h <;> (subst h; simp [va_up])
