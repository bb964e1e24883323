/-! the parts of a coin: four are left to be picked -/
theorem bm_pig : ∀ (n : Nat) (zs : List Nat), (∀ j, j < n → j ∈ zs) → n ≤ zs.length := by
  intro n
  induction n with
  | zero => intro zs _; exact Nat.zero_le _
  | succ n ih =>
    intro zs h
    have h1 := ih (zs.erase n) (fun j hj => (List.mem_erase_of_ne (by omega)).mpr (h j (by omega)))
    have h2 := List.length_erase_of_mem (h n (Nat.lt_succ_self _))
    have h3 := List.length_pos_of_mem (h n (Nat.lt_succ_self _))
    omega
theorem bm_zer {lf : Nat → Int32} {pr : Nat → Int64} {zs : List Nat} (h : ∀ j, lf j = 0 → j ∈ zs) : ∀ i, ∃ zi : List Nat, zi.length = zs.length + i ∧ ∀ j, bm_lf lf pr i j = 0 → j ∈ zi := by
  intro i
  induction i with
  | zero => exact ⟨zs, rfl, h⟩
  | succ i ih =>
    obtain ⟨zi, h1, h2⟩ := ih
    refine ⟨(bm_lst (bm_lf lf pr i) pr 6).toNatClampNeg :: zi, by rw [List.length_cons, h1]; omega, fun j hj => ?_⟩
    have hj1 : upd (bm_lf lf pr i) (bm_lst (bm_lf lf pr i) pr 6).toNatClampNeg 0 j = 0 := hj
    unfold upd at hj1
    by_cases q : j = (bm_lst (bm_lf lf pr i) pr 6).toNatClampNeg
    · exact q ▸ List.mem_cons_self
    · rw [if_neg q] at hj1
      exact List.mem_cons_of_mem _ (h2 j hj1)
theorem bm_pick {n : Nat} {pr : Nat → Int64} {i : Nat} (hi : i < 4) : bm_or (bm_lf0 n) pr i < 6 ∧ bm_lst (bm_lf (bm_lf0 n) pr i) pr 6 = nI (bm_or (bm_lf0 n) pr i) := by
  have h0 : ∀ j, bm_lf0 n j = 0 → j ∈ [bm_o1 n, bm_o2 n] := fun j hj => by
    by_cases q : ¬ bm_lf0 n j = 0
    · exact absurd hj q
    · have q1 := mt bm_lf0_set.mpr q
      by_cases z : j = bm_o1 n
      · subst z; exact List.mem_cons_self
      · by_cases z2 : j = bm_o2 n
        · subst z2; exact List.mem_cons_of_mem _ List.mem_cons_self
        · exact absurd ⟨z, z2⟩ q1
  obtain ⟨zi, h1, h2⟩ := bm_zer (pr := pr) h0 i
  rcases bm_lst_ok (bm_lf (bm_lf0 n) pr i) pr 6 (Nat.le_refl _) with ⟨h3, -⟩ | ⟨b, hb, -, h3, -⟩
  · have h4 := bm_pig 6 zi (fun j hj => h2 j (h3 j hj))
    have h5 : [bm_o1 n, bm_o2 n].length = 2 := rfl
    omega
  · have h4 : bm_or (bm_lf0 n) pr i = b := by
      show (bm_lst (bm_lf (bm_lf0 n) pr i) pr 6).toNatClampNeg = b
      rw [h3]
      exact nI_clamp (by omega)
    rw [h4]
    exact ⟨hb, h3⟩
/-- whichever way the parts were sorted, they are the picked ones -/
theorem bm_oq {seed : Int64} {a n : Nat} {ch : Int32} {o : Nat → Nat} (h1 : ∀ i, i < 4 → o i < 6) (h2 : ∀ i k, i < k → k < 4 → bm_lx (bm_zqp seed (lN (1000 + a)) ch) (o i) (o k)) (h3 : ∀ y, y < 6 → ((¬ y = bm_o1 n ∧ ¬ y = bm_o2 n) ↔ ∃ i, i < 4 ∧ y = o i)) (i : Nat) (hi : i < 4) : o i = bm_or (bm_lf0 n) (bm_cp seed a ch) i := by
  have h4 := bm_wq h1 h2 h3 i hi
  show _ = (bm_lst (bm_lf (bm_lf0 n) (bm_cp seed a ch) i) (bm_cp seed a ch) 6).toNatClampNeg
  rw [h4]
  exact (nI_clamp (by have := h1 i hi; omega)).symm
/-- a den's int as a long -/
theorem bm_bL_i {v : Int32} (h : bm_bl v 3 = 0) : bm_bL v.toInt64 3 = 0 := by
  by_cases q : v < 0 ∨ 3 ≤ v
  · refine bm_bL_z ?_
    rcases q with q | q
    · refine Or.inl ?_
      rw [Int64.lt_iff_toInt_lt, Int32.toInt_toInt64]
      exact Int32.lt_iff_toInt_lt.mp q
    · refine Or.inr ?_
      rw [Int64.le_iff_toInt_le, Int32.toInt_toInt64]
      exact Int32.le_iff_toInt_le.mp q
  · rw [bm_bl_o q] at h
    exact absurd h (by decide)
/-- a coin's sixteen numbers put into the parts -/
def bm_g8 (seed : Int64) (a : Nat) (ch : Int32) (q : Nat → Nat) (c : Nat) (g8 : Nat → Int64) : Nat → Int64 := fun i => if i < 16 * c ∨ 16 * c + 16 ≤ i then g8 i else bm_cr seed a ch q (i - 16 * c)
theorem bm_g8_in {seed : Int64} {a : Nat} {ch : Int32} {q : Nat → Nat} {c : Nat} {g8 : Nat → Int64} {t : Nat} (ht : t < 16) : bm_g8 seed a ch q c g8 (16 * c + t) = bm_cr seed a ch q t := by
  unfold bm_g8
  rw [if_neg (by omega), Nat.add_sub_cancel_left]
theorem bm_g8_out {seed : Int64} {a : Nat} {ch : Int32} {q : Nat → Nat} {c : Nat} {g8 : Nat → Int64} {i : Nat} (h : i < 16 * c ∨ 16 * c + 16 ≤ i) : bm_g8 seed a ch q c g8 i = g8 i := if_pos h
theorem bm_g8_eq {seed : Int64} {a : Nat} {ch : Int32} {q : Nat → Nat} {c : Nat} {g8 y : Nat → Int64} (h1 : ∀ t, t < 16 → y (16 * c + t) = bm_cr seed a ch q t) (h2 : ∀ i, (i < 16 * c ∨ 16 * c + 16 ≤ i) → y i = g8 i) : y = bm_g8 seed a ch q c g8 := by
  funext i
  by_cases z : i < 16 * c ∨ 16 * c + 16 ≤ i
  · rw [bm_g8_out z]; exact h2 i z
  · have h3 := h1 (i - 16 * c) (by omega)
    have h4 := bm_g8_in (seed := seed) (a := a) (ch := ch) (q := q) (c := c) (g8 := g8) (t := i - 16 * c) (by omega)
    rw [show 16 * c + (i - 16 * c) = i by omega] at h3 h4
    rw [h3, h4]
/-- the picture of a new mint -/
theorem bm_BD_init {ct : Nat → ClassId} {x : Nat} {M : bm_Map} (h : ∃ cf ac : Nat → Option Nat, M x = some (.inr (6, [.ref (x + 1), .ref (x + 2), .ref (x + 11), .int 0, .ref (x + 12), .null, .int (-1), .long (-1), .int 0, .int 0, .int 0, .int 0])) ∧ M (x + 1) = some (.inl (ct 3, 4, .inr (.inr (.inr (.inr ac))))) ∧ (∀ a, a < 4 → ac a = some (x + (13 + 2 * a))) ∧ M (x + 2) = some (.inr (5, [.ref (x + 3), .ref (x + 4), .int 0, .int 0])) ∧ M (x + 3) = some (.inl (ct 5, 6, .inr (.inr (.inr (.inr cf))))) ∧ (∀ j, j < 6 → cf j = some (x + (5 + j))) ∧ M (x + 4) = some (.inl (ct 5, 4, .inr (.inr (.inr (.inr (fun _ => none)))))) ∧ (∀ j, j < 6 → M (x + (5 + j)) = some (.inr (1, [.long 0, .long 0, .long 0, .long 0, .long 0, .long 0, .long 0]))) ∧ M (x + 11) = some (.inl (ct 4, 20, .inr (.inr (.inr (.inr (fun _ => none)))))) ∧ M (x + 12) = some (.inl (ct 1, 4, .inr (.inl (fun _ => 0)))) ∧ (∀ a, a < 4 → M (x + (13 + 2 * a)) = some (.inr (0, [.int 100, .ref (x + (14 + 2 * a)), .int 0]))) ∧ ∀ a, a < 4 → M (x + (14 + 2 * a)) = some (.inl (ct 6, 8, .inr (.inr (.inr (.inr (fun _ => none))))))) :
    bm_BD ct x 0 (-1) (-1) 0 (upd (upd (upd (upd (fun _ => 0) 0 100) 1 100) 2 100) 3 100) (fun _ => 0) (fun _ => 0) (fun _ => 0) (fun _ => 0) (fun _ => 0) (fun _ => 0) (fun _ => 0) (fun _ => 0) (fun _ => 0) M := by
  obtain ⟨cf, ac, h1, h2, h3, h4, h5, h6, h7, h8, h9, h10, h11, h12⟩ := h
  refine ⟨fun _ => 0, 0, fun _ _ => none, fun _ => none, .null, fun _ => 0, fun _ => 0, [], fun a _ => ⟨rfl, Nat.zero_le _⟩, ⟨rfl, Nat.zero_le _⟩, rfl, ⟨h1, ⟨ac, h2, h3⟩, ⟨0, 0, h4⟩, ⟨cf, h5, fun j hj => by rw [h6 j hj]; congr 1; omega⟩, ⟨_, h7⟩, ⟨fun _ => 0, fun _ => 0, fun _ => 0, fun _ => 0, fun _ => 0, fun _ => 0, fun _ => 0, fun j hj => by rw [show x + 2 + (3 + j) = x + (5 + j) by omega]; exact h8 j hj⟩, h9, ⟨_, h10⟩, fun a ha => ?_, h12⟩, ⟨fun a i _ hi => absurd hi (Nat.not_lt_zero _), fun a i _ hi => absurd hi (Nat.not_lt_zero _), fun a i b k _ hi => absurd hi (Nat.not_lt_zero _)⟩, ⟨fun p hp => absurd hp (Nat.not_lt_zero _), fun p hp => absurd hp (Nat.not_lt_zero _), fun p r hp => absurd hp (Nat.not_lt_zero _)⟩, rfl, trivial, rfl, fun e he => absurd he List.not_mem_nil, fun i j hij hj => absurd hj (Nat.not_lt_zero _)⟩
  rw [h11 a ha]
  rcases (show a = 0 ∨ a = 1 ∨ a = 2 ∨ a = 3 by omega) with q | q | q | q <;> (subst q; rfl)
theorem bm_v3_cg {A C Y A1 C1 Y1 : Nat → Int64} (h1 : ∀ i, i < 4 → A i = A1 i) (h2 : ∀ i, i < 4 → C i = C1 i) (h3 : ∀ i, i < 4 → Y i = Y1 i) (t : Nat) (ht : t < 12) : bm_v3 A C Y t = bm_v3 A1 C1 Y1 t := by
  unfold bm_v3
  rw [h1 (t / 3) (by omega), h2 (t / 3) (by omega), h3 (t / 3) (by omega)]
/-- what the coin's rows tell is what the parts hold -/
theorem bm_wd_F {seed : Int64} {a : Nat} {ch : Int32} {Q o : Nat → Nat} {q : Nat} {g8 : Nat → Int64} (ho : ∀ i, i < 4 → o i = Q i) :
    (∀ t, t < 12 → bm_v3 (fun i => bm_ca seed (o i)) (fun i => bm_cc seed (o i)) (fun i => bm_zqy seed (lN (1000 + a)) ch (o i)) t = bm_v3 (fun j => bm_g8 seed a ch Q q g8 (16 * q + 4 * j)) (fun j => bm_g8 seed a ch Q q g8 (16 * q + 4 * j + 2)) (fun j => bm_h2 (bm_g8 seed a ch Q q g8 (16 * q + 4 * j + 1)) (bm_g8 seed a ch Q q g8 (16 * q + 4 * j + 1 + 2))) t) ∧
    ∀ t, t < 12 → bm_v3 (fun i => bm_zqb seed (lN (1000 + a)) ch (o i)) (fun i => bm_ce seed (o i)) (fun i => bm_zqx seed (o i)) t = bm_v3 (fun j => bm_g8 seed a ch Q q g8 (16 * q + 4 * j + 1)) (fun j => bm_g8 seed a ch Q q g8 (16 * q + 4 * j + 1 + 2)) (fun j => bm_h2 (bm_g8 seed a ch Q q g8 (16 * q + 4 * j)) (bm_g8 seed a ch Q q g8 (16 * q + 4 * j + 2))) t := by
  have e0 : ∀ i, i < 4 → bm_g8 seed a ch Q q g8 (16 * q + 4 * i) = bm_ca seed (o i) := fun i hi => by rw [bm_g8_in (by omega), bm_cr_0, ho i hi]
  have e1 : ∀ i, i < 4 → bm_g8 seed a ch Q q g8 (16 * q + 4 * i + 1) = bm_zqb seed (lN (1000 + a)) ch (o i) := fun i hi => by rw [Nat.add_assoc, bm_g8_in (by omega), bm_cr_1, ho i hi, bm_zqb_cb]
  have e2 : ∀ i, i < 4 → bm_g8 seed a ch Q q g8 (16 * q + 4 * i + 2) = bm_cc seed (o i) := fun i hi => by rw [Nat.add_assoc, bm_g8_in (by omega), bm_cr_2, ho i hi]
  have e3 : ∀ i, i < 4 → bm_g8 seed a ch Q q g8 (16 * q + 4 * i + 1 + 2) = bm_ce seed (o i) := fun i hi => by rw [show 16 * q + 4 * i + 1 + 2 = 16 * q + (4 * i + 3) by omega, bm_g8_in (by omega), bm_cr_3, ho i hi]
  refine ⟨fun t ht => bm_v3_cg (fun i hi => (e0 i hi).symm) (fun i hi => (e2 i hi).symm) (fun i hi => ?_) t ht, fun t ht => bm_v3_cg (fun i hi => (e1 i hi).symm) (fun i hi => (e3 i hi).symm) (fun i hi => ?_) t ht⟩
  · rw [e1 i hi, e3 i hi]
    rfl
  · rw [e0 i hi, e2 i hi]
    rfl
theorem bm_chb01 {ch : Int32} {i j : Nat} (h : ¬ bm_chb ch i + bm_chb ch j = 0) : 0 < bm_chb ch i + bm_chb ch j ∧ ¬ bm_chb ch i + bm_chb ch j ≤ 0 := by
  rcases bm_and1 (ch >>> (nI i &&& 31)) with a | a <;> rcases bm_and1 (ch >>> (nI j &&& 31)) with b | b <;> (have a1 : bm_chb ch i = _ := a; have b1 : bm_chb ch j = _ := b; rw [a1, b1] at h ⊢; revert h; decide)
theorem bm_ie_cg {d0 d : Int64} {h g g1 : Nat → Int64} (q : ∀ t, t < 4 → g t = g1 t) : ∀ j, j ≤ 4 → bm_ie d0 d h g j = bm_ie d0 d h g1 j := by
  intro j
  induction j with
  | zero => intro _; rfl
  | succ j ih =>
    intro hj
    show (if ¬ bm_ie d0 d h g j = 0 ∧ h j = g j then (1 : Int32) else 0) = if ¬ bm_ie d0 d h g1 j = 0 ∧ h j = g1 j then 1 else 0
    rw [ih (by omega), q j (by omega)]
theorem bm_fc_cg {d : Int64} {g g1 : Nat → Int64} (q : ∀ t, t < 4 → g t = g1 t) : ∀ L : List bm_CE, bm_fc d g L = bm_fc d g1 L := by
  intro L
  induction L with
  | nil => rfl
  | cons e t ih =>
    show (if bm_ie e.d0 d e.h g 4 = 0 then bm_fc d g t else .ref e.a) = if bm_ie e.d0 d e.h g1 4 = 0 then bm_fc d g1 t else .ref e.a
    rw [bm_ie_cg q 4 (Nat.le_refl _), ih]
theorem bm_bL_or {v n : Int64} (h : bm_bL v n = 0) : v < 0 ∨ n ≤ v := by
  by_cases q : v < 0 ∨ n ≤ v
  · exact q
  · rw [bm_bL_o q] at h
    exact absurd h (by decide)
theorem bm_bL_01 {v n : Int64} (h : ¬ bm_bL v n = 0) : bm_bL v n = 1 := by
  by_cases q : v < 0 ∨ n ≤ v
  · exact absurd (bm_bL_z q) h
  · exact bm_bL_o q
theorem bm_lt2 {v : Int64} (h : 3 ≤ v) : 2 < v := by
  have h1 := Int64.le_iff_toInt_le.mp h
  refine Int64.lt_iff_toInt_lt.mpr ?_
  have h3 : (3 : Int64).toInt = 3 := by decide
  have h4 : (2 : Int64).toInt = 2 := by decide
  omega
