/-- the coins that are chosen, and what is left to pay -/
def bm_cs (f4 f7 : Nat → Int32) (a d : Nat) : Nat → Int32 × Int32 → Int32 × Int32
  | 0, s => s
  | k + 1, s => if f4 (8 * a + k) = nI d ∧ f7 (8 * a + k) = 0 ∧ ¬ (bm_cs f4 f7 a d k s).2 < bm_w d then ((bm_cs f4 f7 a d k s).1 ||| (1 <<< (nI k &&& 31)), (bm_cs f4 f7 a d k s).2 - bm_w d) else ((bm_cs f4 f7 a d k s).1 ||| 0, (bm_cs f4 f7 a d k s).2 - 0)
theorem bm_cs_y {f4 f7 : Nat → Int32} {a d k : Nat} {s : Int32 × Int32} (h1 : f4 (8 * a + k) = nI d) (h2 : f7 (8 * a + k) = 0) (h3 : ¬ (bm_cs f4 f7 a d k s).2 < bm_w d) : bm_cs f4 f7 a d (k + 1) s = ((bm_cs f4 f7 a d k s).1 ||| (1 <<< (nI k &&& 31)), (bm_cs f4 f7 a d k s).2 - bm_w d) := if_pos ⟨h1, h2, h3⟩
theorem bm_cs_n {f4 f7 : Nat → Int32} {a d k : Nat} {s : Int32 × Int32} (h : ¬ (f4 (8 * a + k) = nI d ∧ f7 (8 * a + k) = 0 ∧ ¬ (bm_cs f4 f7 a d k s).2 < bm_w d)) : bm_cs f4 f7 a d (k + 1) s = ((bm_cs f4 f7 a d k s).1 ||| 0, (bm_cs f4 f7 a d k s).2 - 0) := if_neg h
/-- all three denominations, the dearest first -/
def bm_cz (f4 f7 : Nat → Int32) (a K : Nat) (v : Int32) : Int32 × Int32 := bm_cs f4 f7 a 0 K (bm_cs f4 f7 a 1 K (bm_cs f4 f7 a 2 K (0, v)))
/-- the row of a payment after j parts -/
def bm_sr (g8 : Nat → Int64) (c p : Nat) (ch : Int64) (g : Nat → Int64) : Nat → Nat → Int64
  | 0 => g
  | j + 1 => if bm_one ch (nI j) = 1 then vp_updL (vp_updL (vp_updL (bm_sr g8 c p ch g j) (16 * p + (4 + 3 * j)) (g8 (16 * c + 4 * j))) (16 * p + (5 + 3 * j)) (g8 (16 * c + 4 * j + 2))) (16 * p + (6 + 3 * j)) (bm_h2 (g8 (16 * c + 4 * j + 1)) (g8 (16 * c + 4 * j + 1 + 2)))
    else vp_updL (vp_updL (vp_updL (bm_sr g8 c p ch g j) (16 * p + (4 + 3 * j)) (g8 (16 * c + 4 * j + 1))) (16 * p + (5 + 3 * j)) (g8 (16 * c + 4 * j + 1 + 2))) (16 * p + (6 + 3 * j)) (bm_h2 (g8 (16 * c + 4 * j)) (g8 (16 * c + 4 * j + 2)))
theorem bm_sr_y {g8 g : Nat → Int64} {c p j : Nat} {ch : Int64} (h : bm_one ch (nI j) = 1) : bm_sr g8 c p ch g (j + 1) = vp_updL (vp_updL (vp_updL (bm_sr g8 c p ch g j) (16 * p + (4 + 3 * j)) (g8 (16 * c + 4 * j))) (16 * p + (5 + 3 * j)) (g8 (16 * c + 4 * j + 2))) (16 * p + (6 + 3 * j)) (bm_h2 (g8 (16 * c + 4 * j + 1)) (g8 (16 * c + 4 * j + 1 + 2))) := if_pos h
theorem bm_sr_n {g8 g : Nat → Int64} {c p j : Nat} {ch : Int64} (h : ¬ bm_one ch (nI j) = 1) : bm_sr g8 c p ch g (j + 1) = vp_updL (vp_updL (vp_updL (bm_sr g8 c p ch g j) (16 * p + (4 + 3 * j)) (g8 (16 * c + 4 * j + 1))) (16 * p + (5 + 3 * j)) (g8 (16 * c + 4 * j + 1 + 2))) (16 * p + (6 + 3 * j)) (bm_h2 (g8 (16 * c + 4 * j)) (g8 (16 * c + 4 * j + 2))) := if_neg h
/-- the first four numbers of a payment's row -/
def bm_s0 (g : Nat → Int64) (p : Nat) (u v w x : Int64) : Nat → Int64 := vp_updL (vp_updL (vp_updL (vp_updL g (16 * p) u) (16 * p + 1) v) (16 * p + 2) w) (16 * p + 3) x
theorem bm_one0 {x : Int64} {i : Int32} (h : ¬ (x >>> (i.toInt64 &&& 63)) &&& 1 = 1) : bm_one x i = 0 := if_neg h
theorem bm_one1 {x : Int64} {i : Int32} (h : (x >>> (i.toInt64 &&& 63)) &&& 1 = 1) : bm_one x i = 1 := if_pos h
theorem bm_one01 {x : Int64} {i : Int32} (h : bm_one x i = 0) : ¬ bm_one x i = 1 := by rw [h]; decide
