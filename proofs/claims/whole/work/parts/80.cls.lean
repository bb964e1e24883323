def bm_zqb (seed w : Int64) (ch : Int32) (j : Nat) : Int64 := bm_ca seed j ^^^ (w ^^^ (bm_chb ch j).toInt64)
def bm_zqx (seed : Int64) (j : Nat) : Int64 := bm_h2 (bm_ca seed j) (bm_cc seed j)
def bm_zqy (seed w : Int64) (ch : Int32) (j : Nat) : Int64 := bm_h2 (bm_zqb seed w ch j) (bm_ce seed j)
def bm_zqp (seed w : Int64) (ch : Int32) (j : Nat) : Int64 := bm_h2 (bm_zqx seed j) (bm_zqy seed w ch j)
theorem bm_zqb_cb {seed : Int64} {a : Nat} {ch : Int32} (j : Nat) : bm_zqb seed (lN (1000 + a)) ch j = bm_cb seed a ch j := (Int64.xor_assoc _ _ _).symm
theorem bm_zqp_cp {seed : Int64} {a : Nat} {ch : Int32} (j : Nat) : bm_zqp seed (lN (1000 + a)) ch j = bm_cp seed a ch j := by
  unfold bm_zqp bm_zqx bm_zqy bm_cp
  rw [bm_zqb_cb]
theorem bm_o12 (n : Nat) : bm_o1 n ≠ bm_o2 n := by unfold bm_o1 bm_o2; omega
theorem bm_al6 {p : Nat → Prop} (h0 : p 0) (h1 : p 1) (h2 : p 2) (h3 : p 3) (h4 : p 4) (h5 : p 5) : ∀ j, j < 6 → p j := by
  intro j hj
  rcases (show j = 0 ∨ j = 1 ∨ j = 2 ∨ j = 3 ∨ j = 4 ∨ j = 5 by omega) with h | h | h | h | h | h <;> (subst h; assumption)
