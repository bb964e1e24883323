/-! the world as a map from addresses to cells: what is held of the heap, and rows that read and write it -/
abbrev bm_Map : Type := Nat → Option va_E
def bm_up (M : bm_Map) (a : Nat) (e : va_E) : bm_Map := fun b => if b = a then some e else M b
theorem bm_up_self (M : bm_Map) (a : Nat) (e : va_E) : bm_up M a e a = some e := by simp [bm_up]
theorem bm_up_ne {M : bm_Map} {a b : Nat} {e : va_E} (h : b ≠ a) : bm_up M a e b = M b := by simp [bm_up, h]
def bm_A (base : Nat) : Nat → Prop := fun q => base ≤ q
/-- the heap holds the map; all its cells lie from base on -/
def bm_M (D : va_G) (base : Nat) (M : bm_Map) (H : Heap) : Prop := ∃ ws : va_W, va_P D bm_cl ws H ∧ va_D (bm_A base) ws ∧ ∀ (a : Nat) (e : va_E), M a = some e ↔ (a, e) ∈ ws
theorem bm_Mset {A : Nat → Prop} {M : bm_Map} {ws : va_W} {q0 a : Nat} {e0 e : va_E} (hw : ∀ (a : Nat) (e : va_E), M a = some e ↔ (a, e) ∈ ws) (hD : va_D A ws) (hq : ws[q0]? = some (a, e0)) : ∀ (b : Nat) (x : va_E), bm_up M a e b = some x ↔ (b, x) ∈ ws.set q0 (a, e) := by
  intro b x
  have hl : q0 < ws.length := (List.getElem?_eq_some_iff.mp hq).1
  constructor
  · intro h
    by_cases hb : b = a
    · subst hb
      rw [bm_up_self] at h
      cases h
      exact List.mem_of_getElem? (List.getElem?_set_self hl)
    · rw [bm_up_ne hb] at h
      obtain ⟨k, hk⟩ := List.getElem?_of_mem ((hw b x).mp h)
      have hkq : k ≠ q0 := fun z => by
        subst z
        rw [hq] at hk
        cases hk
        exact hb rfl
      exact List.mem_of_getElem? (i := k) (by rw [List.getElem?_set_ne (Ne.symm hkq)]; exact hk)
  · intro h
    obtain ⟨k, hk⟩ := List.getElem?_of_mem h
    by_cases hkq : k = q0
    · subst hkq
      rw [List.getElem?_set_self hl] at hk
      cases hk
      exact bm_up_self _ _ _
    · rw [List.getElem?_set_ne (Ne.symm hkq)] at hk
      have hb : b ≠ a := fun z => hkq (hD.1 k q0 (b, x) (a, e0) hk hq z)
      rw [bm_up_ne hb]
      exact (hw b x).mpr (List.mem_of_getElem? hk)
theorem bm_Mpush {A : Nat → Prop} {M : bm_Map} {ws : va_W} {q : Nat} {e : va_E} (hw : ∀ (a : Nat) (e : va_E), M a = some e ↔ (a, e) ∈ ws) (hD : va_D A (ws ++ [(q, e)])) : ∀ (b : Nat) (x : va_E), bm_up M q e b = some x ↔ (b, x) ∈ ws ++ [(q, e)] := by
  intro b x
  constructor
  · intro h
    by_cases hb : b = q
    · subst hb
      rw [bm_up_self] at h
      cases h
      exact List.mem_append_right _ (List.mem_singleton.mpr rfl)
    · rw [bm_up_ne hb] at h
      exact List.mem_append_left _ ((hw b x).mp h)
  · intro h
    rcases List.mem_append.mp h with h1 | h1
    · have hb : b ≠ q := fun z => by
        obtain ⟨k, hk⟩ := List.getElem?_of_mem h1
        have hl := (List.getElem?_eq_some_iff.mp hk).1
        have e1 : (ws ++ [(q, e)])[k]? = some (b, x) := by rw [List.getElem?_append_left hl]; exact hk
        have e2 : (ws ++ [(q, e)])[ws.length]? = some (q, e) := by rw [List.getElem?_append_right (Nat.le_refl _), Nat.sub_self]; rfl
        have := hD.1 k ws.length (b, x) (q, e) e1 e2 z
        omega
      rw [bm_up_ne hb]
      exact (hw b x).mpr h1
    · cases List.mem_singleton.mp h1
      exact bm_up_self _ _ _
theorem bm_M.at {D : va_G} {base : Nat} {M : bm_Map} {H : Heap} {a : Nat} {e : va_E} (h : bm_M D base M H) (he : M a = some e) : va_at D bm_cl (a, e) H ∧ base ≤ a := by
  obtain ⟨ws, hP, hD, hw⟩ := h
  obtain ⟨k, hk⟩ := List.getElem?_of_mem ((hw a e).mp he)
  exact ⟨hP k _ hk, hD.2 k _ hk⟩
theorem bm_M.lt {D : va_G} {base : Nat} {M : bm_Map} {H : Heap} {a : Nat} {e : va_E} (h : bm_M D base M H) (he : M a = some e) : a < H.size := (h.at he).1.lt
theorem bm_M.new {D : va_G} {base : Nat} {M : bm_Map} {H : Heap} (h : bm_M D base M H) {a : Nat} (ha : H.size ≤ a) : M a = none := by
  cases he : M a with
  | none => rfl
  | some e => have := h.lt he; omega
/-- the array classes -/
def bm_tys (ct : Nat → ClassId) : List (ClassId × FieldType) := [(ct 0, .int), (ct 1, .long), (ct 2, .boolean), (ct 3, .object "BlindMint$Account"), (ct 4, .object "BlindMint$Payment"), (ct 5, .object "BlindMint$Candidate"), (ct 6, .object "BlindMint$Coin")]
theorem bm_M.set {D : va_G} {base : Nat} {M : bm_Map} {H H1 : Heap} {a : Nat} {e0 e : va_E} (h : bm_M D base M H) (he : M a = some e0) (hat : va_at D bm_cl (a, e) H1) (oq : ∀ q : Nat, q ≠ a → H1[q]? = H[q]?) : bm_M D base (bm_up M a e) H1 := by
  obtain ⟨ws, hP, hD, hw⟩ := h
  obtain ⟨q0, hq⟩ := List.getElem?_of_mem ((hw a _).mp he)
  exact ⟨ws.set q0 (a, e), hP.set hD hq hat oq, hD.set hq, bm_Mset hw hD hq⟩
theorem bm_M.push {D : va_G} {base : Nat} {M : bm_Map} {H H1 : Heap} {e : va_E} (h : bm_M D base M H) (hB : base ≤ H.size) (hat : va_at D bm_cl (H.size, e) H1) (oq : ∀ q : Nat, q < H.size → H1[q]? = H[q]?) : bm_M D base (bm_up M H.size e) H1 := by
  obtain ⟨ws, hP, hD, hw⟩ := h
  have hD1 : va_D (bm_A base) (ws ++ [(H.size, e)]) := hD.push hP rfl hB
  refine ⟨ws ++ [(H.size, e)], (hP.kept (fun k x hx => oq x.1 ((hP k x hx).lt))).app (fun k x hx => ?_), hD1, bm_Mpush hw hD1⟩
  have hz : k < 1 := (List.getElem?_eq_some_iff.mp hx).1
  rw [show k = 0 by omega] at hx
  cases hx
  exact hat
/-- the int i is the place k -/
def bm_ix (i : Int32) (k : Nat) : Prop := ¬ i < 0 ∧ i.toNatClampNeg = k
theorem bm_ix_in {i : Int32} {k n : Nat} (h : bm_ix i k) (hk : k < n) : vp_in i n := by
  obtain ⟨h0, rfl⟩ := h
  intro z
  rcases z with z | z
  · exact h0 z
  · omega
theorem bm_ix_nI {k : Nat} (h : k < 2 ^ 31) : bm_ix (nI k) k := ⟨nI_pos h, nI_clamp h⟩
theorem bm_ne_oo {M : bm_Map} {a b i j : Nat} {fs gs : List Value} (ha : M a = some (.inr (i, fs))) (hb : M b = some (.inr (j, gs))) (h : i ≠ j) : b ≠ a := fun z => by
  subst z
  rw [ha] at hb
  injection hb with hb
  injection hb with hb
  injection hb with hb
  exact h hb
theorem bm_ne_oa {M : bm_Map} {a b : Nat} {x : Nat × List Value} {y : ClassId × vp_A} (ha : M a = some (.inr x)) (hb : M b = some (.inl y)) : b ≠ a := fun z => by
  subst z
  rw [ha] at hb
  cases hb
theorem bm_ne_ao {M : bm_Map} {a b : Nat} {x : Nat × List Value} {y : ClassId × vp_A} (ha : M a = some (.inl y)) (hb : M b = some (.inr x)) : b ≠ a := fun z => by
  subst z
  rw [ha] at hb
  cases hb
theorem bm_ne_aa {M : bm_Map} {a b n k : Nat} {c d : ClassId} {x y : (Nat → Int32) ⊕ (Nat → Int64) ⊕ (Nat → UInt32) ⊕ (Nat → UInt64) ⊕ (Nat → Option Nat)} (ha : M a = some (.inl (c, n, x))) (hb : M b = some (.inl (d, k, y))) (h : n ≠ k) : b ≠ a := fun z => by
  subst z
  rw [ha] at hb
  injection hb with hb
  injection hb with hb
  injection hb with _ hb
  injection hb with hb
  exact h hb
