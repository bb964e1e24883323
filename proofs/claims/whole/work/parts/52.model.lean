theorem bm_ixm {c j i : Nat} (h : c * j + i < 2 ^ 31) : bm_ix (nI c * nI j + nI i) (c * j + i) := by
  rw [pk_mul, nI_add]
  exact bm_ix_nI h
theorem bm_all6 {P : Nat → Prop} (h0 : P 0) (h1 : P 1) (h2 : P 2) (h3 : P 3) (h4 : P 4) (h5 : P 5) : ∀ j, j < 6 → P j := fun j hj =>
  match j, hj with
  | 0, _ => h0
  | 1, _ => h1
  | 2, _ => h2
  | 3, _ => h3
  | 4, _ => h4
  | 5, _ => h5
theorem bm_all4 {P : Nat → Prop} (h0 : P 0) (h1 : P 1) (h2 : P 2) (h3 : P 3) : ∀ j, j < 4 → P j := fun j hj =>
  match j, hj with
  | 0, _ => h0
  | 1, _ => h1
  | 2, _ => h2
  | 3, _ => h3
/-- a candidate's numbers -/
def bm_ca (seed : Int64) (j : Nat) : Int64 := bm_h2 seed (lN (3 * j))
def bm_cc (seed : Int64) (j : Nat) : Int64 := bm_h2 seed (lN (3 * j + 1))
def bm_ce (seed : Int64) (j : Nat) : Int64 := bm_h2 seed (lN (3 * j + 2))
def bm_chb (ch : Int32) (j : Nat) : Int32 := (ch >>> (nI j &&& 31)) &&& 1
def bm_cb (seed : Int64) (a : Nat) (ch : Int32) (j : Nat) : Int64 := (bm_ca seed j ^^^ lN (1000 + a)) ^^^ (bm_chb ch j).toInt64
def bm_cp (seed : Int64) (a : Nat) (ch : Int32) (j : Nat) : Int64 := bm_h2 (bm_h2 (bm_ca seed j) (bm_cc seed j)) (bm_h2 (bm_cb seed a ch j) (bm_ce seed j))
def bm_tt (pr : Nat → Int64) : Int64 := bm_end (bm_step (bm_step (bm_step (bm_step (bm_step (bm_step 7 (pr 0)) (pr 1)) (pr 2)) (pr 3)) (pr 4)) (pr 5))
def bm_o1 (n : Nat) : Nat := n % 6
def bm_o2 (n : Nat) : Nat := (n % 6 + 1 + n / 6 % 5) % 6
/-- a payment's challenge -/
def bm_ch (r : Nat → Int64) (p : Nat) : Int64 := bm_h3 (r (16 * p + 2)) (r (16 * p + 3)) (r (16 * p + 1))
