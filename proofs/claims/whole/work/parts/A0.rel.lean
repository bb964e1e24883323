/-! the mint's picture: the same numbers as the reference's -/
/-- the cells that the constructor made -/
def bm_sta (ct : Nat → ClassId) (x : Nat) (np tr : Int32) (bl : Int64) (f1 f2 f3 : Nat → Int32) (wf : Nat → Nat → Option Nat) (pw : Nat → Option Nat) (lc : Value) (M : bm_Map) : Prop :=
  M x = some (.inr (6, [.ref (x + 1), .ref (x + 2), .ref (x + 11), .int np, .ref (x + 12), lc, .int tr, .long bl, .int (f2 0), .int (f2 1), .int (f2 2), .int (f2 3)])) ∧
  (∃ ac : Nat → Option Nat, M (x + 1) = some (.inl (ct 3, 4, .inr (.inr (.inr (.inr ac))))) ∧ ∀ a, a < 4 → ac a = some (x + (13 + 2 * a))) ∧
  (∃ fo so : Int32, M (x + 2) = some (.inr (5, [.ref (x + 3), .ref (x + 4), .int fo, .int so]))) ∧
  (∃ cf : Nat → Option Nat, M (x + 3) = some (.inl (ct 5, 6, .inr (.inr (.inr (.inr cf))))) ∧ ∀ j, j < 6 → cf j = some (x + 2 + (3 + j))) ∧
  (∃ pt : Nat → Option Nat, M (x + 4) = some (.inl (ct 5, 4, .inr (.inr (.inr (.inr pt)))))) ∧
  (∃ vA vC vE vB vX vY vP : Nat → Int64, ∀ j, j < 6 → M (x + 2 + (3 + j)) = some (.inr (1, [.long (vA j), .long (vC j), .long (vE j), .long (vB j), .long (vX j), .long (vY j), .long (vP j)]))) ∧
  M (x + 11) = some (.inl (ct 4, 20, .inr (.inr (.inr (.inr pw))))) ∧
  (∃ h : Nat → Int64, M (x + 12) = some (.inl (ct 1, 4, .inr (.inl h)))) ∧
  (∀ a, a < 4 → M (x + (13 + 2 * a)) = some (.inr (0, [.int (f1 a), .ref (x + (14 + 2 * a)), .int (f3 a)]))) ∧
  ∀ a, a < 4 → M (x + (14 + 2 * a)) = some (.inl (ct 6, 8, .inr (.inr (.inr (.inr (wf a))))))
/-- the coin q, at c -/
def bm_coq (ct : Nat → ClassId) (x : Nat) (f4 : Nat → Int32) (g5 g6 : Nat → Int64) (f7 : Nat → Int32) (g8 : Nat → Int64) (c q : Nat) (M : bm_Map) : Prop :=
  x + 40 ≤ c ∧ M c = some (.inr (2, [.int (f4 q), .long (g5 q), .long (g6 q), .int (f7 q), .ref (c + 1), .ref (c + 2)])) ∧
  (∃ F : Nat → Int64, M (c + 1) = some (.inl (ct 1, 12, .inr (.inl F))) ∧ ∀ t, t < 12 → F t = bm_v3 (fun j => g8 (16 * q + 4 * j)) (fun j => g8 (16 * q + 4 * j + 2)) (fun j => bm_h2 (g8 (16 * q + 4 * j + 1)) (g8 (16 * q + 4 * j + 1 + 2))) t) ∧
  ∃ F : Nat → Int64, M (c + 2) = some (.inl (ct 1, 12, .inr (.inl F))) ∧ ∀ t, t < 12 → F t = bm_v3 (fun j => g8 (16 * q + 4 * j + 1)) (fun j => g8 (16 * q + 4 * j + 1 + 2)) (fun j => bm_h2 (g8 (16 * q + 4 * j)) (g8 (16 * q + 4 * j + 2))) t
/-- the payment p, at c -/
def bm_pyq (ct : Nat → ClassId) (x : Nat) (g9 : Nat → Int64) (c p : Nat) (M : bm_Map) : Prop :=
  x + 40 ≤ c ∧ M c = some (.inr (4, [.ref (c + 1)])) ∧ ∃ F : Nat → Int64, M (c + 1) = some (.inl (ct 1, 16, .inr (.inl F))) ∧ ∀ i, i < 16 → F i = g9 (16 * p + i)
/-- no two notes are of one coin -/
def bm_uq (tk : Nat → Int64) (K : Nat) : Prop := ∀ i j, i < j → j < K → ∀ (d : Int64) (g : Nat → Int64), bm_me tk g d i 4 = 0 ∨ bm_me tk g d j 4 = 0
def bm_cre (ct : Nat → ClassId) (x K : Nat) (g10 : Nat → Int64) (L : List bm_CE) (lc : Value) (M : bm_Map) : Prop :=
  bm_CL ct M L lc ∧ bm_LN g10 L ∧ L.length = K ∧ (∀ e ∈ L, x + 40 ≤ e.a ∧ x + 40 ≤ e.b ∧ x + 40 ≤ e.c) ∧ bm_uq g10 K
/-- how many coins, payments, notes; where they lie -/
def bm_dyn (ct : Nat → ClassId) (x n K : Nat) (kf : Nat → Nat) (f4 : Nat → Int32) (g5 g6 : Nat → Int64) (f7 : Nat → Int32) (g8 g9 g10 : Nat → Int64) (wf : Nat → Nat → Option Nat) (pw : Nat → Option Nat) (lc : Value) (co pa : Nat → Nat) (L : List bm_CE) (M : bm_Map) : Prop :=
  ((∀ a i, a < 4 → i < kf a → wf a i = some (co (8 * a + i))) ∧ (∀ a i, a < 4 → i < kf a → bm_coq ct x f4 g5 g6 f7 g8 (co (8 * a + i)) (8 * a + i) M) ∧ ∀ a i b k, a < 4 → i < kf a → b < 4 → k < kf b → co (8 * a + i) = co (8 * b + k) → 8 * a + i = 8 * b + k) ∧
  ((∀ p, p < n → pw p = some (pa p)) ∧ (∀ p, p < n → bm_pyq ct x g9 (pa p) p M) ∧ ∀ p r, p < n → r < n → pa p = pa r → p = r) ∧ bm_cre ct x K g10 L lc M
def bm_BD (ct : Nat → ClassId) (x K : Nat) (tr : Int32) (bl : Int64) (np : Int32) (f1 f2 f3 f4 : Nat → Int32) (g5 g6 : Nat → Int64) (f7 : Nat → Int32) (g8 g9 g10 : Nat → Int64) (M : bm_Map) : Prop :=
  ∃ (kf : Nat → Nat) (n : Nat) (wf : Nat → Nat → Option Nat) (pw : Nat → Option Nat) (lc : Value) (co pa : Nat → Nat) (L : List bm_CE),
    (∀ a, a < 4 → f3 a = nI (kf a) ∧ kf a ≤ 8) ∧ (np = nI n ∧ n ≤ 20) ∧ f2 1 = nI K ∧ bm_sta ct x np tr bl f1 f2 f3 wf pw lc M ∧ bm_dyn ct x n K kf f4 g5 g6 f7 g8 g9 g10 wf pw lc co pa L M
/-- what lies from x + 40 on is kept -/
def bm_ext (x : Nat) (M M1 : bm_Map) : Prop := ∀ b e, x + 40 ≤ b → M b = some e → M1 b = some e
/-- objects of a class, rows of a length, from x + 40 on, are kept -/
def bm_eo (x ci : Nat) (M M1 : bm_Map) : Prop := ∀ (b : Nat) (fs : List Value), x + 40 ≤ b → M b = some (.inr (ci, fs)) → M1 b = some (.inr (ci, fs))
def bm_ea (ct : Nat → ClassId) (x N : Nat) (M M1 : bm_Map) : Prop := ∀ (b : Nat) (F : Nat → Int64), x + 40 ≤ b → M b = some (.inl (ct 1, N, .inr (.inl F))) → M1 b = some (.inl (ct 1, N, .inr (.inl F)))
theorem bm_ext.eo {x ci : Nat} {M M1 : bm_Map} (h : bm_ext x M M1) : bm_eo x ci M M1 := fun b _ q1 q2 => h b _ q1 q2
theorem bm_ext.ea {ct : Nat → ClassId} {x N : Nat} {M M1 : bm_Map} (h : bm_ext x M M1) : bm_ea ct x N M M1 := fun b _ q1 q2 => h b _ q1 q2
theorem bm_coq.ext {ct : Nat → ClassId} {x : Nat} {f4 : Nat → Int32} {g5 g6 : Nat → Int64} {f7 : Nat → Int32} {g8 : Nat → Int64} {c q : Nat} {M M1 : bm_Map} (h : bm_coq ct x f4 g5 g6 f7 g8 c q M) (ho : bm_eo x 2 M M1) (ha : bm_ea ct x 12 M M1) : bm_coq ct x f4 g5 g6 f7 g8 c q M1 := by
  obtain ⟨h1, h2, ⟨F, h3, h4⟩, G, h5, h6⟩ := h
  exact ⟨h1, ho _ _ h1 h2, ⟨F, ha _ _ (by omega) h3, h4⟩, G, ha _ _ (by omega) h5, h6⟩
theorem bm_pyq.ext {ct : Nat → ClassId} {x : Nat} {g9 : Nat → Int64} {c p : Nat} {M M1 : bm_Map} (h : bm_pyq ct x g9 c p M) (ho : bm_eo x 4 M M1) (ha : bm_ea ct x 16 M M1) : bm_pyq ct x g9 c p M1 := by
  obtain ⟨h1, h2, F, h3, h4⟩ := h
  exact ⟨h1, ho _ _ h1 h2, F, ha _ _ (by omega) h3, h4⟩
theorem bm_CL_ext {ct : Nat → ClassId} {x : Nat} {M M1 : bm_Map} (ho : bm_eo x 3 M M1) (ha : bm_ea ct x 4 M M1) : ∀ {L : List bm_CE} {v : Value}, bm_CL ct M L v → (∀ e ∈ L, x + 40 ≤ e.a ∧ x + 40 ≤ e.b ∧ x + 40 ≤ e.c) → bm_CL ct M1 L v := by
  intro L
  induction L with
  | nil => intro v h _; exact h
  | cons e t ih =>
    intro v h hk
    obtain ⟨h1, bv, h2, h3, h4, h5⟩ := h
    obtain ⟨k1, k2, k3⟩ := hk e List.mem_cons_self
    exact ⟨h1, bv, ho _ _ k1 h2, ha _ _ k2 h3, ha _ _ k3 h4, ih h5 (fun e2 m2 => hk e2 (List.mem_cons_of_mem _ m2))⟩
theorem bm_cre.ext {ct : Nat → ClassId} {x K : Nat} {g10 : Nat → Int64} {L : List bm_CE} {lc : Value} {M M1 : bm_Map} (h : bm_cre ct x K g10 L lc M) (ho : bm_eo x 3 M M1) (ha : bm_ea ct x 4 M M1) : bm_cre ct x K g10 L lc M1 := by
  obtain ⟨h1, h2, h3, h4, h5⟩ := h
  exact ⟨bm_CL_ext ho ha h1 h4, h2, h3, h4, h5⟩
section BMD
variable {ct : Nat → ClassId} {x n K : Nat} {kf : Nat → Nat} {tr np : Int32} {bl : Int64} {f1 f2 f3 f4 : Nat → Int32} {g5 g6 : Nat → Int64} {f7 : Nat → Int32} {g8 g9 g10 : Nat → Int64} {wf : Nat → Nat → Option Nat} {pw : Nat → Option Nat} {lc : Value} {co pa : Nat → Nat} {L : List bm_CE} {M M1 : bm_Map}
theorem bm_dyn.ext (h : bm_dyn ct x n K kf f4 g5 g6 f7 g8 g9 g10 wf pw lc co pa L M) (hk : bm_ext x M M1) : bm_dyn ct x n K kf f4 g5 g6 f7 g8 g9 g10 wf pw lc co pa L M1 := by
  obtain ⟨⟨a1, a2, a3⟩, ⟨b1, b2, b3⟩, c1⟩ := h
  exact ⟨⟨a1, fun a i ha hi => (a2 a i ha hi).ext hk.eo hk.ea, a3⟩, ⟨b1, fun p hp => (b2 p hp).ext hk.eo hk.ea, b3⟩, c1.ext hk.eo hk.ea⟩
theorem bm_sta.kept (h : bm_sta ct x np tr bl f1 f2 f3 wf pw lc M) (hk : ∀ b, x ≤ b → b < x + 21 → M1 b = M b) : bm_sta ct x np tr bl f1 f2 f3 wf pw lc M1 := by
  obtain ⟨h1, ⟨ac, h2, h2'⟩, ⟨fo, so, h3⟩, ⟨cf, h4, h4'⟩, ⟨pt, h5⟩, ⟨vA, vC, vE, vB, vX, vY, vP, h6⟩, h7, ⟨h, h8⟩, h9, h10⟩ := h
  exact ⟨(hk _ (by omega) (by omega)).trans h1, ⟨ac, (hk _ (by omega) (by omega)).trans h2, h2'⟩, ⟨fo, so, (hk _ (by omega) (by omega)).trans h3⟩, ⟨cf, (hk _ (by omega) (by omega)).trans h4, h4'⟩, ⟨pt, (hk _ (by omega) (by omega)).trans h5⟩, ⟨vA, vC, vE, vB, vX, vY, vP, fun j hj => (hk _ (by omega) (by omega)).trans (h6 j hj)⟩, (hk _ (by omega) (by omega)).trans h7, ⟨h, (hk _ (by omega) (by omega)).trans h8⟩, fun a ha => (hk _ (by omega) (by omega)).trans (h9 a ha), fun a ha => (hk _ (by omega) (by omega)).trans (h10 a ha)⟩
theorem bm_BD.kept (h : bm_BD ct x K tr bl np f1 f2 f3 f4 g5 g6 f7 g8 g9 g10 M) (hk : ∀ b, (x ≤ b ∧ b < x + 21) ∨ x + 40 ≤ b → M1 b = M b) : bm_BD ct x K tr bl np f1 f2 f3 f4 g5 g6 f7 g8 g9 g10 M1 := by
  obtain ⟨kf, n, wf, pw, lc, co, pa, L, h1, h2, h3, h4, h5⟩ := h
  exact ⟨kf, n, wf, pw, lc, co, pa, L, h1, h2, h3, h4.kept (fun b q1 q2 => hk b (Or.inl ⟨q1, q2⟩)), h5.ext (fun b e q1 q2 => (hk b (Or.inr q1)).trans q2)⟩
/-- the row of pair hashes may hold anything -/
theorem bm_BD.up12 (h : bm_BD ct x K tr bl np f1 f2 f3 f4 g5 g6 f7 g8 g9 g10 M) (h9 : Nat → Int64) : bm_BD ct x K tr bl np f1 f2 f3 f4 g5 g6 f7 g8 g9 g10 (bm_up M (x + 12) (.inl (ct 1, 4, .inr (.inl h9)))) := by
  obtain ⟨kf, n, wf, pw, lc, co, pa, L, h1, h2, h3, ⟨s1, ⟨ac, s2, s2'⟩, ⟨fo, so, s3⟩, ⟨cf, s4, s4'⟩, ⟨pt, s5⟩, ⟨vA, vC, vE, vB, vX, vY, vP, s6⟩, s7, -, s9, s10⟩, h5⟩ := h
  have ne : ∀ b, b ≠ x + 12 → bm_up M (x + 12) (.inl (ct 1, 4, .inr (.inl h9))) b = M b := fun b hb => bm_up_ne hb
  refine ⟨kf, n, wf, pw, lc, co, pa, L, h1, h2, h3, ⟨(ne _ (by omega)).trans s1, ⟨ac, (ne _ (by omega)).trans s2, s2'⟩, ⟨fo, so, (ne _ (by omega)).trans s3⟩, ⟨cf, (ne _ (by omega)).trans s4, s4'⟩, ⟨pt, (ne _ (by omega)).trans s5⟩, ⟨vA, vC, vE, vB, vX, vY, vP, fun j hj => (ne _ (by omega)).trans (s6 j hj)⟩, (ne _ (by omega)).trans s7, ⟨h9, bm_up_self _ _ _⟩, fun a ha => (ne _ (by omega)).trans (s9 a ha), fun a ha => (ne _ (by omega)).trans (s10 a ha)⟩, h5.ext (fun b e q1 q2 => (ne b (by omega)).trans q2)⟩
end BMD
