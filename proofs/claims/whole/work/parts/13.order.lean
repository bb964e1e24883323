/-! the four parts in their order: 'the least of those left' and 'sorted' name the same ones -/
def bm_lst (lf : Nat → Int32) (pr : Nat → Int64) : Nat → Int32
  | 0 => -1
  | j + 1 => if ¬ lf j = 0 ∧ (bm_lst lf pr j < 0 ∨ pr j < pr (bm_lst lf pr j).toNatClampNeg) then nI j else bm_lst lf pr j
theorem bm_lst_ok (lf : Nat → Int32) (pr : Nat → Int64) : ∀ n, n ≤ 6 → ((∀ j, j < n → lf j = 0) ∧ bm_lst lf pr n = -1) ∨ ∃ b, b < n ∧ ¬ lf b = 0 ∧ bm_lst lf pr n = nI b ∧ ∀ j, j < n → ¬ lf j = 0 → (pr b).toInt ≤ (pr j).toInt ∧ ((pr j).toInt = (pr b).toInt → b ≤ j) := by
  intro n
  induction n with
  | zero =>
    intro _
    exact Or.inl ⟨fun j h => absurd h (Nat.not_lt_zero j), rfl⟩
  | succ n ih =>
    intro hn
    have e : bm_lst lf pr (n + 1) = if ¬ lf n = 0 ∧ (bm_lst lf pr n < 0 ∨ pr n < pr (bm_lst lf pr n).toNatClampNeg) then nI n else bm_lst lf pr n := rfl
    rcases ih (by omega) with ⟨h0, h1⟩ | ⟨b, hb, hl, h1, h2⟩
    · by_cases hz : lf n = 0
      · refine Or.inl ⟨fun j hj => ?_, ?_⟩
        · by_cases hjn : j = n
          · rw [hjn]; exact hz
          · exact h0 j (by omega)
        · rw [e, if_neg (fun q => q.1 hz)]
          exact h1
      · refine Or.inr ⟨n, by omega, hz, ?_, fun j hj hlj => ?_⟩
        · rw [e, if_pos ⟨hz, Or.inl (by rw [h1]; decide)⟩]
        · have hjn : j = n := by
            refine Decidable.byContradiction (fun q => ?_)
            exact hlj (h0 j (by omega))
          subst hjn
          exact ⟨Int.le_refl _, fun _ => Nat.le_refl _⟩
    · have hnn : ¬ bm_lst lf pr n < 0 := by rw [h1]; exact nI_pos (by omega)
      have hcl : (bm_lst lf pr n).toNatClampNeg = b := by rw [h1]; exact nI_clamp (by omega)
      by_cases hz : ¬ lf n = 0 ∧ pr n < pr b
      · have hlt := Int64.lt_iff_toInt_lt.mp hz.2
        refine Or.inr ⟨n, by omega, hz.1, ?_, fun j hj hlj => ?_⟩
        · rw [e, if_pos ⟨hz.1, Or.inr (by rw [hcl]; exact hz.2)⟩]
        · by_cases hjn : j = n
          · subst hjn
            exact ⟨Int.le_refl _, fun _ => Nat.le_refl _⟩
          · have h3 := h2 j (by omega) hlj
            exact ⟨by omega, fun q => by omega⟩
      · refine Or.inr ⟨b, by omega, hl, ?_, fun j hj hlj => ?_⟩
        · rw [e, if_neg (fun q => hz ⟨q.1, by
            rcases q.2 with q | q
            · exact absurd q hnn
            · rw [hcl] at q; exact q⟩)]
          exact h1
        · by_cases hjn : j = n
          · subst hjn
            have h3 : ¬ pr j < pr b := fun q => hz ⟨hlj, q⟩
            rw [Int64.lt_iff_toInt_lt] at h3
            exact ⟨by omega, fun _ => by omega⟩
          · exact h2 j (by omega) hlj
/-- which are left, and which one is taken -/
def bm_lf (lf : Nat → Int32) (pr : Nat → Int64) : Nat → Nat → Int32
  | 0 => lf
  | i + 1 => upd (bm_lf lf pr i) (bm_lst (bm_lf lf pr i) pr 6).toNatClampNeg 0
def bm_or (lf : Nat → Int32) (pr : Nat → Int64) (i : Nat) : Nat := (bm_lst (bm_lf lf pr i) pr 6).toNatClampNeg
/-- i stands ahead of j -/
def bm_lx (pr : Nat → Int64) (i j : Nat) : Prop := (pr i).toInt < (pr j).toInt ∨ ((pr i).toInt = (pr j).toInt ∧ i < j)
theorem bm_or_eq {lf : Nat → Int32} {pr : Nat → Int64} {q : Nat → Nat} (hq : ∀ i, i < 4 → q i < 6) (hs : ∀ i j, i < j → j < 4 → bm_lx pr (q i) (q j)) (hl : ∀ j, j < 6 → (¬ lf j = 0 ↔ ∃ t, t < 4 ∧ j = q t)) :
    ∀ i, i ≤ 4 → (∀ j, j < 6 → (¬ bm_lf lf pr i j = 0 ↔ ∃ t, i ≤ t ∧ t < 4 ∧ j = q t)) ∧ (i < 4 → bm_lst (bm_lf lf pr i) pr 6 = nI (q i)) := by
  have key : ∀ i, (∀ j, j < 6 → (¬ bm_lf lf pr i j = 0 ↔ ∃ t, i ≤ t ∧ t < 4 ∧ j = q t)) → i < 4 → bm_lst (bm_lf lf pr i) pr 6 = nI (q i) := by
    intro i h hi
    have hqi := (h (q i) (hq i hi)).mpr ⟨i, Nat.le_refl _, hi, rfl⟩
    rcases bm_lst_ok (bm_lf lf pr i) pr 6 (Nat.le_refl _) with ⟨h0, -⟩ | ⟨b, hb, hlb, h1, h2⟩
    · exact absurd (h0 (q i) (hq i hi)) hqi
    · obtain ⟨t, ht1, ht2, ht3⟩ := (h b hb).mp hlb
      have h3 := h2 (q i) (hq i hi) hqi
      by_cases hti : t = i
      · rw [h1, ht3, hti]
      · exfalso
        have h4 := hs i t (by omega) ht2
        rw [← ht3] at h4
        rcases h4 with h4 | ⟨h4, h5⟩
        · omega
        · have := h3.2 h4
          omega
  intro i
  induction i with
  | zero =>
    intro _
    have h0 : ∀ j, j < 6 → (¬ bm_lf lf pr 0 j = 0 ↔ ∃ t, 0 ≤ t ∧ t < 4 ∧ j = q t) := fun j hj => ⟨fun z => by
      obtain ⟨t, h1, h2⟩ := (hl j hj).mp z
      exact ⟨t, Nat.zero_le _, h1, h2⟩, fun ⟨t, _, h1, h2⟩ => (hl j hj).mpr ⟨t, h1, h2⟩⟩
    exact ⟨h0, key 0 h0⟩
  | succ i ih =>
    intro hi
    obtain ⟨h1, h2⟩ := ih (by omega)
    have h3 := h2 (by omega)
    have h0 : ∀ j, j < 6 → (¬ bm_lf lf pr (i + 1) j = 0 ↔ ∃ t, i + 1 ≤ t ∧ t < 4 ∧ j = q t) := by
      intro j hj
      have hqi := hq i (by omega)
      have e : bm_lf lf pr (i + 1) j = if j = q i then 0 else bm_lf lf pr i j := by
        show upd (bm_lf lf pr i) (bm_lst (bm_lf lf pr i) pr 6).toNatClampNeg 0 j = _
        rw [h3, nI_clamp (by omega)]
        rfl
      rw [e]
      by_cases hji : j = q i
      · rw [if_pos hji]
        refine ⟨fun z => absurd rfl z, fun ⟨t, t1, t2, t3⟩ => ?_⟩
        exfalso
        have h4 := hs i t (by omega) t2
        rw [← hji, ← t3] at h4
        rcases h4 with h4 | ⟨-, h4⟩ <;> omega
      · rw [if_neg hji, h1 j hj]
        refine ⟨fun ⟨t, t1, t2, t3⟩ => ⟨t, ?_, t2, t3⟩, fun ⟨t, t1, t2, t3⟩ => ⟨t, by omega, t2, t3⟩⟩
        by_cases hti : t = i
        · rw [hti] at t3; exact absurd t3 hji
        · omega
    exact ⟨h0, key (i + 1) h0⟩
