theorem bm_ac4 {x : Nat} : ∀ a, a < 4 → va_up (va_up (va_up (va_up (fun _ => none) 0 (some (x + 13))) 1 (some (x + 15))) 2 (some (x + 17))) 3 (some (x + 19)) a = some (x + (13 + 2 * a)) := by
  intro j hj
  rcases (show j = 0 ∨ j = 1 ∨ j = 2 ∨ j = 3 by omega) with h | h | h | h <;> (subst h; simp [va_up])
theorem bm_al4 {p : Nat → Prop} (h0 : p 0) (h1 : p 1) (h2 : p 2) (h3 : p 3) : ∀ j, j < 4 → p j := by
  intro j hj
  rcases (show j = 0 ∨ j = 1 ∨ j = 2 ∨ j = 3 by omega) with h | h | h | h <;> (subst h; assumption)
