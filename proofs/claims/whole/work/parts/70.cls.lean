theorem bm_up_up {M : bm_Map} {a : Nat} {e e2 : va_E} : bm_up (bm_up M a e) a e2 = bm_up M a e2 := by
  funext b
  unfold bm_up
  by_cases h : b = a
  · rw [if_pos h, if_pos h]
  · rw [if_neg h, if_neg h, if_neg h]
theorem bm_up_same {M : bm_Map} {a : Nat} {e : va_E} (h : M a = some e) : M = bm_up M a e := by
  funext b
  unfold bm_up
  by_cases hb : b = a
  · rw [if_pos hb, hb, h]
  · rw [if_neg hb]
theorem bm_up_comm {M : bm_Map} {a b : Nat} {e e2 : va_E} (h : a ≠ b) : bm_up (bm_up M a e) b e2 = bm_up (bm_up M b e2) a e := by
  funext c
  unfold bm_up
  by_cases h1 : c = b
  · rw [if_pos h1, if_neg (fun z => h (z.symm.trans h1)), if_pos h1]
  · rw [if_neg h1, if_neg h1]
/-- a payment's pair hash, of its own sixteen numbers -/
def bm_pf (f : Nat → Int64) (ch : Int64) (j : Nat) : Int64 := if bm_one ch (nI j) = 1 then bm_h2 (bm_h2 (f (4 + 3 * j)) (f (4 + 3 * j + 1))) (f (4 + 3 * j + 2)) else bm_h2 (f (4 + 3 * j + 2)) (bm_h2 (f (4 + 3 * j)) (f (4 + 3 * j + 1)))
theorem bm_pf_y {f : Nat → Int64} {j : Nat} {ch : Int64} (h : bm_one ch (nI j) = 1) : bm_h2 (bm_h2 (f (4 + 3 * j)) (f (4 + 3 * j + 1))) (f (4 + 3 * j + 2)) = bm_pf f ch j := (if_pos h).symm
theorem bm_pf_n {f : Nat → Int64} {j : Nat} {ch : Int64} (h : ¬ bm_one ch (nI j) = 1) : bm_h2 (f (4 + 3 * j + 2)) (bm_h2 (f (4 + 3 * j)) (f (4 + 3 * j + 1))) = bm_pf f ch j := (if_neg h).symm
theorem bm_pf_ph {f r : Nat → Int64} {p : Nat} (h : ∀ i, i < 16 → f i = r (16 * p + i)) (ch : Int64) {j : Nat} (hj : j < 4) : bm_pf f ch j = bm_ph r p ch j := by
  unfold bm_pf bm_ph
  rw [h (4 + 3 * j) (by omega), h (4 + 3 * j + 1) (by omega), h (4 + 3 * j + 2) (by omega)]
  rfl
theorem bm_one_01 (x : Int64) (i : Int32) : bm_one x i = 0 ∨ bm_one x i = 1 := by
  unfold bm_one
  split
  · exact Or.inr rfl
  · exact Or.inl rfl
theorem bm_one_nz {x : Int64} {i : Int32} (h : ¬ bm_one x i = 0) : bm_one x i = 1 := (bm_one_01 x i).resolve_left h
theorem bm_one_z {x : Int64} {i : Int32} (h : bm_one x i = 0) : ¬ bm_one x i = 1 := bm_one01 h
/-- is the credit of this denomination and these pair hashes, after j of them -/
def bm_ie (d0 d : Int64) (h h' : Nat → Int64) : Nat → Int32
  | 0 => if d0 = d then 1 else 0
  | j + 1 => if ¬ bm_ie d0 d h h' j = 0 ∧ h j = h' j then 1 else 0
theorem bm_ie_a {d0 d : Int64} {h h' : Nat → Int64} (q : d0 = d) : bm_ie d0 d h h' 0 = 1 := if_pos q
theorem bm_ie_b {d0 d : Int64} {h h' : Nat → Int64} (q : ¬ d0 = d) : bm_ie d0 d h h' 0 = 0 := if_neg q
theorem bm_ie_0 {d0 d : Int64} {h h' : Nat → Int64} {j : Nat} (q : bm_ie d0 d h h' j = 0) : bm_ie d0 d h h' (j + 1) = 0 := if_neg (fun z => z.1 q)
theorem bm_ie_n {d0 d : Int64} {h h' : Nat → Int64} {j : Nat} (q : ¬ h j = h' j) : bm_ie d0 d h h' (j + 1) = 0 := if_neg (fun z => q z.2)
theorem bm_ie_y {d0 d : Int64} {h h' : Nat → Int64} {j : Nat} (q : ¬ bm_ie d0 d h h' j = 0) (q2 : h j = h' j) : bm_ie d0 d h h' (j + 1) = 1 := if_pos ⟨q, q2⟩
theorem bm_ie_me {tk : Nat → Int64} {d0 d : Int64} {h h' : Nat → Int64} {k : Nat} (q0 : tk (10 * k) = d0) (q : ∀ j, j < 4 → tk (10 * k + (1 + j)) = h j) : ∀ n, n ≤ 4 → bm_ie d0 d h h' n = bm_me tk h' d k n := by
  intro n
  induction n with
  | zero => intro _; show (if d0 = d then (1 : Int32) else 0) = (if tk (10 * k) = d then 1 else 0); rw [q0]
  | succ n ih =>
    intro hn
    show (if ¬ bm_ie d0 d h h' n = 0 ∧ h n = h' n then (1 : Int32) else 0) = (if ¬ bm_me tk h' d k n = 0 ∧ tk (10 * k + (1 + n)) = h' n then 1 else 0)
    rw [ih (by omega), q n (by omega)]
theorem bm_ie_01 {d0 d : Int64} {h h' : Nat → Int64} : ∀ n, bm_ie d0 d h h' n = 0 ∨ bm_ie d0 d h h' n = 1 := by
  intro n
  cases n with
  | zero => show (if d0 = d then (1 : Int32) else 0) = 0 ∨ (if d0 = d then (1 : Int32) else 0) = 1; split; exact Or.inr rfl; exact Or.inl rfl
  | succ n => show (if ¬ bm_ie d0 d h h' n = 0 ∧ h n = h' n then (1 : Int32) else 0) = 0 ∨ (if ¬ bm_ie d0 d h h' n = 0 ∧ h n = h' n then (1 : Int32) else 0) = 1; split; exact Or.inr rfl; exact Or.inl rfl
theorem bm_z01 {x : Int32} (h : x = 0 ∨ x = 1) : narrow .boolean (.int x) = .int x := by rcases h with h | h <;> (rw [h]; decide)
/-- what two payments tell together: the least part that differs -/
def bm_rv (hv f : Nat → Int64) (df : Int64) : Nat → Int64
  | 0 => (-1)
  | n + 1 => if bm_one df (nI (3 - n)) = 1 then hv (3 - n) ^^^ f (4 + 3 * (3 - n)) else bm_rv hv f df n
theorem bm_rv_y {hv f : Nat → Int64} {df : Int64} {n : Nat} (h : bm_one df (nI (3 - n)) = 1) : bm_rv hv f df (n + 1) = hv (3 - n) ^^^ f (4 + 3 * (3 - n)) := if_pos h
theorem bm_rv_n {hv f : Nat → Int64} {df : Int64} {n : Nat} (h : ¬ bm_one df (nI (3 - n)) = 1) : bm_rv hv f df (n + 1) = bm_rv hv f df n := if_neg h
def bm_hd (u v w : Int64) : Int32 := if u ^^^ v = w then 1 else 0
/-- which account an identity names -/
def bm_ac (x : Int64) : Int32 := if x < 1000 ∨ 1004 ≤ x then (-1) else x.toInt32 - 1000
theorem bm_ac_1 {x : Int64} (h : x < 1000) : (-1) = bm_ac x := (if_pos (Or.inl h)).symm
theorem bm_ac_2 {x : Int64} (h : 1004 ≤ x) : (-1) = bm_ac x := (if_pos (Or.inr h)).symm
theorem bm_ac_3 {x : Int64} (h : ¬ x < 1000) (h2 : ¬ 1004 ≤ x) : x.toInt32 - 1000 = bm_ac x := (if_neg (fun q => q.elim h h2)).symm
/-- the hash of a coin after i of its pair hashes -/
def bm_oc (d : Int64) (h : Nat → Int64) : Nat → Int64
  | 0 => bm_step 7 d
  | i + 1 => bm_step (bm_oc d h i) (h i)
def bm_hu (dn sp w : Int32) : Int32 := if dn = w ∧ sp = 0 then 1 else 0
theorem bm_hu_1 {dn sp w : Int32} (h : ¬ dn = w) : bm_hu dn sp w = 0 := if_neg (fun q => h q.1)
theorem bm_hu_2 {dn sp w : Int32} (h : ¬ sp = 0) : bm_hu dn sp w = 0 := if_neg (fun q => h q.2)
theorem bm_hu_3 {dn sp w : Int32} (h : dn = w) (h2 : sp = 0) : bm_hu dn sp w = 1 := if_pos ⟨h, h2⟩
