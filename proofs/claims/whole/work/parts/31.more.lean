/-! rows on the constants; small tests -/
section BME
variable {p : Program} {l : Launch} {e : Env} {R : Room} {s : State} {m : MethodId} {args : Array Value} {below : List Frame} {meth : Method} {c : Code} {H : Heap} {locs : List Loc} {cells slots : Nat} {Q : State → Prop}
variable {cc : ByteArray} {pc : Nat} {ls : Array Slot} {rest : List Value} {A : Nat → Prop} {H0 : Heap} {ad : Nat → Nat}
theorem bm_tq (hexec : p.tables.exec = Jvm.exec) (hb : c.code = cc) {C : String} {t N : Nat} (hT : va_T (.object C) t N (fun j => .ref (ad j)) A s s.heap) (hS : va_S A s.heap H locs) {i : Int32} (k : Nat) (hi : bm_ix i k) (hk : k < N) (hdg : decode cc pc = .ok (.aaload, 1))
    (kk : W p l e R s m args below meth c H locs cells slots Q (F0 m (pc + 1) ls (.ref (ad k) :: rest))) : W p l e R s m args below meth c H locs cells slots Q (F0 m pc ls (.int i :: .ref t :: rest)) := by
  have hin := bm_ix_in hi hk
  obtain ⟨h0, rfl⟩ := hi
  exact vb_tq hexec hb hT hS hin rfl hdg kk
end BME
theorem bm_preE {D : va_G} {ct : Nat → ClassId} {base : Nat} {ad : Nat → Nat} {M : bm_Map} {sz i : Nat} {As : List Value} {s : State} {H : Heap} {locs : List Loc} (hM : bm_M D base M H) (hG : bm_G D ct base ad s) (hS : va_S (bm_A base) s.heap H locs) (hz : H.size = sz) (hi : i < 3) : PreV s H "BlindMint$Denomination" (ad i) (bm_Pre D ct base ad M sz (.ref (ad i) :: As)) As :=
  ⟨bm_blind, by
    obtain ⟨cell, h1, h2, h3, -⟩ := (hG.2.2.2.2.2.1 i hi).kept hS.2.1
    exact ⟨cell, h1, h2, h3⟩, fun U hU hW => ⟨rfl, by rw [hU]; exact hz, by rw [hU]; exact hM, hG.go hS hU hW⟩⟩
/-- 1 where v lies in 0 .. n - 1 -/
def bm_bl (v n : Int32) : Int32 := if v < 0 ∨ n ≤ v then 0 else 1
def bm_bL (v n : Int64) : Int32 := if v < 0 ∨ n ≤ v then 0 else 1
theorem bm_bl_z {v n : Int32} (h : v < 0 ∨ n ≤ v) : bm_bl v n = 0 := if_pos h
theorem bm_bl_o {v n : Int32} (h : ¬ (v < 0 ∨ n ≤ v)) : bm_bl v n = 1 := if_neg h
theorem bm_bL_z {v n : Int64} (h : v < 0 ∨ n ≤ v) : bm_bL v n = 0 := if_pos h
theorem bm_bL_o {v n : Int64} (h : ¬ (v < 0 ∨ n ≤ v)) : bm_bL v n = 1 := if_neg h
theorem bm_bl_in {v : Int32} {N : Nat} (hN : N < 2 ^ 31) (h : ¬ bm_bl v (nI N) = 0) : ∃ j, j < N ∧ v = nI j := by
  rcases pk_ix v hN with h1 | h1 | h1
  · exact absurd (bm_bl_z (Or.inl h1)) h
  · exact absurd (bm_bl_z (Or.inr h1)) h
  · exact h1
theorem bm_bl_nI {j N : Nat} (h : j < N) (hN : N < 2 ^ 31) : bm_bl (nI j) (nI N) = 1 := bm_bl_o (fun q => q.elim (nI_pos (by omega)) (nI_ge h hN))
theorem bm_bL_in {v : Int64} {N : Nat} (hN : N < 2 ^ 31) (h : ¬ bm_bL v (lN N) = 0) : ∃ j, j < N ∧ v = lN j := by
  have h1 : ¬ (v < 0 ∨ lN N ≤ v) := fun q => h (bm_bL_z q)
  obtain ⟨k, hk, rfl⟩ := pk_lOf (fun q => h1 (Or.inl q))
  refine ⟨k, ?_, rfl⟩
  have h2 : ¬ lN N ≤ lN k := fun q => h1 (Or.inr q)
  rw [pk_lLE (by omega) hk] at h2
  omega
theorem bm_inv {p q : Nat} (hq : bm_Pr q) (hp : p % q ≠ 0) : p * (p ^ (q - 2) % q) % q = 1 := by
  have h1 := hq.1
  rw [Nat.mul_mod_mod, ← Nat.pow_succ', show (q - 2).succ = q - 1 by omega]
  exact bm_fermat hq hp
theorem bm_prP : ∀ d, bm_Pr (bm_p d)
  | 0 => bm_pr_p0
  | 1 => bm_pr_p1
  | _ + 2 => bm_pr_p2
theorem bm_prQ : ∀ d, bm_Pr (bm_q d)
  | 0 => bm_pr_q0
  | 1 => bm_pr_q1
  | _ + 2 => bm_pr_q2
theorem bm_pb2 : 2 ^ 29 < bm_p 2 ∧ bm_p 2 < 2 ^ 30 := ⟨by decide, by decide⟩
theorem bm_pb (d : Nat) : 2 ^ 29 < bm_p d ∧ bm_p d < 2 ^ 30 := by
  match d with
  | 0 => exact ⟨by decide, by decide⟩
  | 1 => exact ⟨by decide, by decide⟩
  | _ + 2 => exact bm_pb2
theorem bm_qb2 : 2 ^ 29 < bm_q 2 ∧ bm_q 2 < 2 ^ 30 := ⟨by decide, by decide⟩
theorem bm_qb (d : Nat) : 2 ^ 29 < bm_q d ∧ bm_q d < 2 ^ 30 := by
  match d with
  | 0 => exact ⟨by decide, by decide⟩
  | 1 => exact ⟨by decide, by decide⟩
  | _ + 2 => exact bm_qb2
/-- the k of the root's exponent -/
def bm_kp : Nat → Nat
  | 0 => 3
  | 1 => 8
  | _ => 4
def bm_kq : Nat → Nat
  | 0 => 13
  | 1 => 16
  | _ => 5
def bm_u (k p : Nat) : Nat := (1 + k * (p - 1)) / 17
theorem bm_up_ok2 : 17 * bm_u (bm_kp 2) (bm_p 2) = 1 + bm_kp 2 * (bm_p 2 - 1) ∧ 1 ≤ bm_kp 2 ∧ bm_kp 2 < 17 ∧ bm_u (bm_kp 2) (bm_p 2) < 2 ^ 30 ∧ (1 + bm_kp 2 * (bm_p 2 - 1)) % 17 = 0 ∧ ∀ k, k < bm_kp 2 → (1 + k * (bm_p 2 - 1)) % 17 ≠ 0 := ⟨by decide, by decide, by decide, by decide, by decide, by decide⟩
theorem bm_up_ok (d : Nat) : 17 * bm_u (bm_kp d) (bm_p d) = 1 + bm_kp d * (bm_p d - 1) ∧ 1 ≤ bm_kp d ∧ bm_kp d < 17 ∧ bm_u (bm_kp d) (bm_p d) < 2 ^ 30 ∧ (1 + bm_kp d * (bm_p d - 1)) % 17 = 0 ∧ ∀ k, k < bm_kp d → (1 + k * (bm_p d - 1)) % 17 ≠ 0 := by
  match d with
  | 0 => exact ⟨by decide, by decide, by decide, by decide, by decide, by decide⟩
  | 1 => exact ⟨by decide, by decide, by decide, by decide, by decide, by decide⟩
  | _ + 2 => exact bm_up_ok2
theorem bm_uq_ok2 : 17 * bm_u (bm_kq 2) (bm_q 2) = 1 + bm_kq 2 * (bm_q 2 - 1) ∧ 1 ≤ bm_kq 2 ∧ bm_kq 2 < 17 ∧ bm_u (bm_kq 2) (bm_q 2) < 2 ^ 30 ∧ (1 + bm_kq 2 * (bm_q 2 - 1)) % 17 = 0 ∧ ∀ k, k < bm_kq 2 → (1 + k * (bm_q 2 - 1)) % 17 ≠ 0 := ⟨by decide, by decide, by decide, by decide, by decide, by decide⟩
theorem bm_uq_ok (d : Nat) : 17 * bm_u (bm_kq d) (bm_q d) = 1 + bm_kq d * (bm_q d - 1) ∧ 1 ≤ bm_kq d ∧ bm_kq d < 17 ∧ bm_u (bm_kq d) (bm_q d) < 2 ^ 30 ∧ (1 + bm_kq d * (bm_q d - 1)) % 17 = 0 ∧ ∀ k, k < bm_kq d → (1 + k * (bm_q d - 1)) % 17 ≠ 0 := by
  match d with
  | 0 => exact ⟨by decide, by decide, by decide, by decide, by decide, by decide⟩
  | 1 => exact ⟨by decide, by decide, by decide, by decide, by decide, by decide⟩
  | _ + 2 => exact bm_uq_ok2
/-- the number with these remainders, for the denomination d -/
def bm_jd (d x y : Nat) : Nat := bm_jn (bm_p d) (bm_q d) (bm_p d ^ (bm_q d - 2) % bm_q d) x y
theorem bm_pq2 : bm_p 2 % bm_q 2 ≠ 0 := by decide
theorem bm_pq (d : Nat) : bm_p d % bm_q d ≠ 0 := by
  match d with
  | 0 => decide
  | 1 => decide
  | _ + 2 => exact bm_pq2
theorem bm_jd_p {d x y : Nat} (hx : x < bm_p d) : bm_jd d x y % bm_p d = x := bm_jn_p hx
theorem bm_jd_q {d x y : Nat} (hy : y < bm_q d) : bm_jd d x y % bm_q d = y := bm_jn_q (by have := bm_qb d; omega) (bm_inv (bm_prQ d) (bm_pq d)) hy
theorem bm_jd_lt {d x y : Nat} (hx : x < bm_p d) : bm_jd d x y < bm_p d * bm_q d := bm_jn_lt (by have := bm_qb d; omega) hx
theorem bm_pq_lt (d : Nat) : bm_p d * bm_q d < 2 ^ 60 := by
  have h1 := bm_pb d
  have h2 := bm_qb d
  have h3 : bm_p d * bm_q d ≤ (2 ^ 30 - 1) * (2 ^ 30 - 1) := Nat.mul_le_mul (by omega) (by omega)
  have h4 : ((2 : Nat) ^ 30 - 1) * (2 ^ 30 - 1) < 2 ^ 60 := by decide
  omega
/-- the least of r, r + 1, r + 2 that neither prime divides -/
def bm_bf (d r : Nat) : Nat := if r % bm_p d = 0 ∨ r % bm_q d = 0 then (if (r + 1) % bm_p d = 0 ∨ (r + 1) % bm_q d = 0 then r + 2 else r + 1) else r
theorem bm_nx {p r : Nat} (hp : 2 < p) (h : r % p = 0) : (r + 1) % p ≠ 0 ∧ (r + 2) % p ≠ 0 := by
  rw [Nat.add_mod, h, Nat.zero_add, Nat.mod_mod, Nat.mod_eq_of_lt (show 1 < p by omega), Nat.add_mod r 2, h, Nat.zero_add, Nat.mod_mod, Nat.mod_eq_of_lt hp]
  exact ⟨by decide, by decide⟩
theorem bm_bf_ok (d r : Nat) : (bm_bf d r) % bm_p d ≠ 0 ∧ (bm_bf d r) % bm_q d ≠ 0 ∧ r ≤ bm_bf d r ∧ bm_bf d r ≤ r + 2 := by
  have hp := bm_pb d
  have hq := bm_qb d
  have hp2 : 2 < bm_p d := by omega
  have hq2 : 2 < bm_q d := by omega
  unfold bm_bf
  generalize bm_p d = p at hp2 ⊢
  generalize bm_q d = q at hq2 ⊢
  by_cases h0 : r % p = 0 ∨ r % q = 0
  · rw [if_pos h0]
    by_cases h1 : (r + 1) % p = 0 ∨ (r + 1) % q = 0
    · rw [if_pos h1]
      refine ⟨fun z => ?_, fun z => ?_, by omega, by omega⟩
      · have a0 : ¬ r % p = 0 := fun y => (bm_nx hp2 y).2 z
        have a1 : ¬ (r + 1) % p = 0 := fun y => (bm_nx hp2 y).1 z
        exact (bm_nx hq2 (h0.resolve_left a0)).1 (h1.resolve_left a1)
      · have a0 : ¬ r % q = 0 := fun y => (bm_nx hq2 y).2 z
        have a1 : ¬ (r + 1) % q = 0 := fun y => (bm_nx hq2 y).1 z
        exact (bm_nx hp2 (h0.resolve_right a0)).1 (h1.resolve_right a1)
    · rw [if_neg h1]
      exact ⟨fun z => h1 (Or.inl z), fun z => h1 (Or.inr z), by omega, by omega⟩
  · rw [if_neg h0]
    exact ⟨fun z => h0 (Or.inl z), fun z => h0 (Or.inr z), by omega, by omega⟩
/-- the mint's blinded number, and the signature -/
def bm_bn (d m r : Nat) : Nat := bm_jd d (m * r ^ 17 % bm_p d) (m * r ^ 17 % bm_q d)
def bm_sg (d m : Nat) : Nat := bm_jd d (m ^ bm_u (bm_kp d) (bm_p d) % bm_p d) (m ^ bm_u (bm_kq d) (bm_q d) % bm_q d)
/-- what the class makes of the blinded number's root is the number's own root -/
theorem bm_sg_ok {d m r : Nat} (hp : r % bm_p d ≠ 0) (hq : r % bm_q d ≠ 0) : bm_jd d (bm_sg d (bm_bn d m r) % bm_p d * (r ^ (bm_p d - 2) % bm_p d) % bm_p d) (bm_sg d (bm_bn d m r) % bm_q d * (r ^ (bm_q d - 2) % bm_q d) % bm_q d) = bm_sg d m := by
  have h1 := bm_pb d
  have h2 := bm_qb d
  have a1 : m * r ^ 17 % bm_p d < bm_p d := Nat.mod_lt _ (by omega)
  have a2 : m * r ^ 17 % bm_q d < bm_q d := Nat.mod_lt _ (by omega)
  have e1 : bm_sg d (bm_bn d m r) % bm_p d = bm_bn d m r ^ bm_u (bm_kp d) (bm_p d) % bm_p d := bm_jd_p (Nat.mod_lt _ (by omega))
  have e2 : bm_sg d (bm_bn d m r) % bm_q d = bm_bn d m r ^ bm_u (bm_kq d) (bm_q d) % bm_q d := bm_jd_q (Nat.mod_lt _ (by omega))
  have f1 : bm_bn d m r % bm_p d = m * r ^ 17 % bm_p d := bm_jd_p a1
  have f2 : bm_bn d m r % bm_q d = m * r ^ 17 % bm_q d := bm_jd_q a2
  rw [e1, e2, bm_unb (bm_prP d) hp (bm_up_ok d).1 f1, bm_unb (bm_prQ d) hq (bm_uq_ok d).1 f2]
  rfl
