theorem bm_nn {a : Int32} (h : 0 ≤ a) : ∃ n, n < 2 ^ 31 ∧ a = nI n := by
  have h1 := Int32.le_iff_toInt_le.mp h
  rw [show (0 : Int32).toInt = 0 by decide] at h1
  have h2 := Int32.toInt_lt a
  refine ⟨a.toInt.toNat, by omega, Int32.toInt_inj.mp ?_⟩
  rw [nI_toInt (by omega)]
  omega
theorem bm_wn (d : Nat) : ∃ n, n < 2 ^ 31 ∧ bm_w d = nI n := match d with
  | 0 => ⟨1, by decide, by decide⟩
  | 1 => ⟨5, by decide, by decide⟩
  | _ + 2 => ⟨20, by decide, by show (20 : Int32) = nI 20; decide⟩
/-- what is left to pay never falls below zero -/
theorem bm_cs_nn {f4 f7 : Nat → Int32} {a d : Nat} {s : Int32 × Int32} (h : 0 ≤ s.2) : ∀ k, 0 ≤ (bm_cs f4 f7 a d k s).2 := by
  intro k
  induction k with
  | zero => exact h
  | succ k ih =>
    by_cases q : f4 (8 * a + k) = nI d ∧ f7 (8 * a + k) = 0 ∧ ¬ (bm_cs f4 f7 a d k s).2 < bm_w d
    · rw [bm_cs_y q.1 q.2.1 q.2.2]
      obtain ⟨n, hn, e⟩ := bm_nn ih
      obtain ⟨w, hw, e2⟩ := bm_wn d
      have h3 := q.2.2
      show 0 ≤ (bm_cs f4 f7 a d k s).2 - bm_w d
      rw [e, e2] at h3
      rw [e, e2, pk_sub (Nat.not_lt.mp (fun z => h3 (nI_lt z hw)))]
      exact nI_pos' (by omega)
    · rw [bm_cs_n2 q]
      exact ih
theorem bm_cz_nn {f4 f7 : Nat → Int32} {a K : Nat} {v : Int32} (h : 1 ≤ v) : 0 ≤ (bm_cz f4 f7 a K v).2 := bm_cs_nn (bm_cs_nn (bm_cs_nn (Int32.le_trans (by decide) h) K) K) K
/-- the class asks 'not zero', the reference 'more than zero' -/
theorem bm_cz_end {f4 f7 : Nat → Int32} {a K : Nat} {v : Int32} (h : 1 ≤ v) : (bm_cz f4 f7 a K v).2 = 0 ↔ (bm_cz f4 f7 a K v).2 ≤ 0 :=
  ⟨fun e => by rw [e]; exact Int32.le_refl _, fun e => Int32.le_antisymm e (bm_cz_nn h)⟩
theorem bm_and1 (x : Int32) : x &&& 1 = 0 ∨ x &&& 1 = 1 := by
  have h : (x &&& 1).toBitVec = BitVec.setWidth 32 (BitVec.ofBool (x.toBitVec.getLsbD 0)) := by
    rw [Int32.toBitVec_and]
    exact BitVec.and_one_eq_setWidth_ofBool_getLsbD
  cases hb : x.toBitVec.getLsbD 0 with
  | false => rw [hb] at h; exact Or.inl (Int32.toBitVec_inj.mp (h.trans (by decide)))
  | true => rw [hb] at h; exact Or.inr (Int32.toBitVec_inj.mp (h.trans (by decide)))
/-- an opened candidate that doesn't hide the identity is a cheat that was asked for -/
theorem bm_nh_chb {seed w : Int64} {ch : Int32} {i : Nat} : bm_nh (bm_hd (bm_ca seed i) (bm_zqb seed w ch i) w) = bm_chb ch i := by
  unfold bm_hd bm_zqb
  rw [← Int64.xor_assoc, Int64.xor_self, Int64.zero_xor]
  rcases bm_and1 (ch >>> (nI i &&& 31)) with h | h
  · rw [show bm_chb ch i = 0 from h, show (0 : Int32).toInt64 = 0 by decide, Int64.xor_zero, if_pos rfl]
    decide
  · rw [show bm_chb ch i = 1 from h, show (1 : Int32).toInt64 = 1 by decide, if_neg (fun z => ?_)]
    · decide
    · have h2 : w ^^^ (w ^^^ 1) = w ^^^ w := by rw [z]
      rw [← Int64.xor_assoc, Int64.xor_self, Int64.zero_xor] at h2
      exact absurd h2 (by decide)
