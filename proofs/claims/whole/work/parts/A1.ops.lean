/-! the picture after each call that writes -/
theorem bm_mt_cg {tk tk' g : Nat → Int64} {d : Int64} {k : Nat} (h : ∀ i, i < 5 → tk' (10 * k + i) = tk (10 * k + i)) : ∀ j, j ≤ 4 → bm_me tk' g d k j = bm_me tk g d k j := by
  intro j
  induction j with
  | zero =>
    intro _
    show (if tk' (10 * k) = d then (1 : Int32) else 0) = if tk (10 * k) = d then 1 else 0
    rw [show tk' (10 * k) = tk (10 * k) from h 0 (by decide)]
  | succ j ih =>
    intro hj
    show (if ¬ bm_me tk' g d k j = 0 ∧ tk' (10 * k + (1 + j)) = g j then (1 : Int32) else 0) = if ¬ bm_me tk g d k j = 0 ∧ tk (10 * k + (1 + j)) = g j then 1 else 0
    rw [ih (by omega), h (1 + j) (by omega)]
theorem bm_me_cg2 {tk g g' : Nat → Int64} {d : Int64} {k : Nat} (h : ∀ i, i < 4 → g i = g' i) : ∀ j, j ≤ 4 → bm_me tk g d k j = bm_me tk g' d k j := by
  intro j
  induction j with
  | zero => intro _; rfl
  | succ j ih =>
    intro hj
    show (if ¬ bm_me tk g d k j = 0 ∧ tk (10 * k + (1 + j)) = g j then (1 : Int32) else 0) = if ¬ bm_me tk g' d k j = 0 ∧ tk (10 * k + (1 + j)) = g' j then 1 else 0
    rw [ih (by omega), h j (by omega)]
theorem bm_me_nz {tk g : Nat → Int64} {d : Int64} {k : Nat} : ∀ j, ¬ bm_me tk g d k j = 0 → tk (10 * k) = d ∧ ∀ t, t < j → tk (10 * k + (1 + t)) = g t := by
  intro j
  induction j with
  | zero =>
    intro h
    by_cases q : tk (10 * k) = d
    · exact ⟨q, fun t ht => absurd ht (Nat.not_lt_zero _)⟩
    · exact absurd (if_neg q : bm_me tk g d k 0 = 0) h
  | succ j ih =>
    intro h
    by_cases q : ¬ bm_me tk g d k j = 0 ∧ tk (10 * k + (1 + j)) = g j
    · obtain ⟨h1, h2⟩ := ih q.1
      refine ⟨h1, fun t ht => ?_⟩
      by_cases z : t = j
      · subst z; exact q.2
      · exact h2 t (by omega)
    · exact absurd (if_neg q : bm_me tk g d k (j + 1) = 0) h
theorem bm_LN_cg {tk tk' : Nat → Int64} : ∀ {L : List bm_CE}, (∀ i, i < 10 * L.length → tk' i = tk i) → bm_LN tk L → bm_LN tk' L := by
  intro L
  induction L with
  | nil => intro _ h; exact h
  | cons e t ih =>
    intro h hL
    obtain ⟨⟨h1, h2, h3, h4⟩, h5⟩ := hL
    have hl : (e :: t).length = t.length + 1 := rfl
    rw [hl] at h
    exact ⟨⟨(h _ (by omega)).trans h1, fun j hj => (h _ (by omega)).trans (h2 j hj), (h _ (by omega)).trans h3, fun j hj => (h _ (by omega)).trans (h4 j hj)⟩, ih (fun i hi => h i (by omega)) h5⟩
/-- the notes after a deposit -/
theorem bm_td_at {r h g : Nat → Int64} {p K : Nat} : ∀ j, j ≤ 4 → (∀ i, (i < 10 * K + 1 ∨ i = 10 * K + 5 ∨ 10 * K + 10 ≤ i) → bm_td r h p K g j i = g i) ∧ ∀ t, t < j → bm_td r h p K g j (10 * K + (1 + t)) = h t ∧ bm_td r h p K g j (10 * K + (6 + t)) = r (16 * p + (4 + 3 * t)) := by
  intro j
  induction j with
  | zero => intro _; exact ⟨fun i _ => rfl, fun t ht => absurd ht (Nat.not_lt_zero _)⟩
  | succ j ih =>
    intro hj
    obtain ⟨h1, h2⟩ := ih (by omega)
    refine ⟨fun i hi => ?_, fun t ht => ?_⟩
    · show vp_updL (vp_updL (bm_td r h p K g j) (10 * K + (1 + j)) (h j)) (10 * K + (6 + j)) (r (16 * p + (4 + 3 * j))) i = g i
      unfold vp_updL
      rw [if_neg (by omega), if_neg (by omega)]
      exact h1 i hi
    · show vp_updL (vp_updL (bm_td r h p K g j) (10 * K + (1 + j)) (h j)) (10 * K + (6 + j)) (r (16 * p + (4 + 3 * j))) (10 * K + (1 + t)) = h t ∧ vp_updL (vp_updL (bm_td r h p K g j) (10 * K + (1 + j)) (h j)) (10 * K + (6 + j)) (r (16 * p + (4 + 3 * j))) (10 * K + (6 + t)) = r (16 * p + (4 + 3 * t))
      unfold vp_updL
      by_cases z : t = j
      · subst z
        rw [if_neg (by omega), if_pos rfl, if_pos rfl]
        exact ⟨rfl, rfl⟩
      · rw [if_neg (by omega), if_neg (by omega), if_neg (by omega), if_neg (by omega)]
        exact h2 t (by omega)
section BMO
variable {ct : Nat → ClassId} {x n K : Nat} {kf : Nat → Nat} {tr np : Int32} {bl : Int64} {f1 f2 f3 f4 : Nat → Int32} {g5 g6 : Nat → Int64} {f7 : Nat → Int32} {g8 g9 g10 : Nat → Int64} {wf : Nat → Nat → Option Nat} {pw : Nat → Option Nat} {lc : Value} {co pa : Nat → Nat} {L : List bm_CE} {M M1 : bm_Map}
/-- tamper: number i of payment p -/
theorem bm_dyn_tamper (h : bm_dyn ct x n K kf f4 g5 g6 f7 g8 g9 g10 wf pw lc co pa L M) {p i : Nat} (hp : p < n) (hi : i < 16) {F : Nat → Int64} (hF : M (pa p + 1) = some (.inl (ct 1, 16, .inr (.inl F)))) (hg : ∀ i, i < 16 → F i = g9 (16 * p + i)) (v : Int64) :
    bm_dyn ct x n K kf f4 g5 g6 f7 g8 (vp_updL g9 (16 * p + i) v) g10 wf pw lc co pa L (bm_up M (pa p + 1) (.inl (ct 1, 16, .inr (.inl (vp_updL F i v))))) := by
  obtain ⟨⟨a1, a2, a3⟩, ⟨b1, b2, b3⟩, c1⟩ := h
  have ho : ∀ ci, bm_eo x ci M (bm_up M (pa p + 1) (.inl (ct 1, 16, .inr (.inl (vp_updL F i v))))) := fun ci b fs _ hb => (bm_up_ne (bm_ne_ao hF hb)).trans hb
  have ha : ∀ N, 16 ≠ N → bm_ea ct x N M (bm_up M (pa p + 1) (.inl (ct 1, 16, .inr (.inl (vp_updL F i v))))) := fun N hN b G _ hb => (bm_up_ne (bm_ne_aa hF hb hN)).trans hb
  refine ⟨⟨a1, fun a k q1 q2 => (a2 a k q1 q2).ext (ho 2) (ha 12 (by decide)), a3⟩, ⟨b1, fun r hr => ?_, b3⟩, c1.ext (ho 3) (ha 4 (by decide))⟩
  obtain ⟨h1, h2, G, h3, h4⟩ := b2 r hr
  by_cases q : r = p
  · subst q
    refine ⟨h1, ho 4 _ _ h1 h2, vp_updL F i v, bm_up_self _ _ _, fun k hk => ?_⟩
    unfold vp_updL
    by_cases z : k = i
    · subst z; simp
    · rw [if_neg z, if_neg (by omega)]
      exact hg k hk
  · have hne : pa r + 1 ≠ pa p + 1 := fun z => q (b3 r p hr hp (by omega))
    refine ⟨h1, ho 4 _ _ h1 h2, G, (bm_up_ne hne).trans h3, fun k hk => ?_⟩
    unfold vp_updL
    rw [if_neg (by omega)]
    exact h4 k hk
/-- spend: the coin 8 a + i is spent, a payment more -/
theorem bm_dyn_spend (h : bm_dyn ct x n K kf f4 g5 g6 f7 g8 g9 g10 wf pw lc co pa L M) {a i sz : Nat} (ha4 : a < 4) (hi : i < kf a) (hxz : x + 40 ≤ sz) (hlt : ∀ b e, M b = some e → b < sz) {PN g9' : Nat → Int64}
    (e1 : M1 (co (8 * a + i)) = some (.inr (2, [.int (f4 (8 * a + i)), .long (g5 (8 * a + i)), .long (g6 (8 * a + i)), .int 1, .ref (co (8 * a + i) + 1), .ref (co (8 * a + i) + 2)]))) (e2 : M1 sz = some (.inr (4, [.ref (sz + 1)]))) (e3 : M1 (sz + 1) = some (.inl (ct 1, 16, .inr (.inl PN)))) (hfr : ∀ b, b ≠ x → b ≠ x + 11 → b ≠ co (8 * a + i) → b < sz → M1 b = M b)
    (hP : ∀ k, k < 16 → PN k = g9' (16 * n + k)) (hP2 : ∀ k, k < 16 * n → g9' k = g9 k) :
    bm_dyn ct x (n + 1) K kf f4 g5 g6 (upd f7 (8 * a + i) 1) g8 g9' g10 wf (va_up pw n (some sz)) lc co (fun p => if p = n then sz else pa p) L M1 := by
  obtain ⟨⟨a1, a2, a3⟩, ⟨b1, b2, b3⟩, c1⟩ := h
  have hq := (a2 a i ha4 hi).2.1
  have hea : ∀ N, bm_ea ct x N M M1 := fun N b F q1 hb => (hfr b (by omega) (by omega) (bm_ne_oa hq hb) (hlt b _ hb)).trans hb
  have heo : ∀ ci, 2 ≠ ci → bm_eo x ci M M1 := fun ci hci b fs q1 hb => (hfr b (by omega) (by omega) (bm_ne_oo hq hb hci) (hlt b _ hb)).trans hb
  have hpsz : ∀ p, p < n → pa p < sz := fun p hp => hlt _ _ (b2 p hp).2.1
  refine ⟨⟨a1, fun b k hb hk => ?_, a3⟩, ⟨fun p hp => ?_, fun p hp => ?_, fun p r hp hr => ?_⟩, c1.ext (heo 3 (by decide)) (hea 4)⟩
  · obtain ⟨h1, h2, ⟨F, h3, h4⟩, G, h5, h6⟩ := a2 b k hb hk
    by_cases q : 8 * b + k = 8 * a + i
    · rw [q] at h1 h2 h3 h4 h5 h6 ⊢
      refine ⟨h1, ?_, ⟨F, hea 12 _ _ (by omega) h3, h4⟩, G, hea 12 _ _ (by omega) h5, h6⟩
      rw [show upd f7 (8 * a + i) 1 (8 * a + i) = 1 by simp [upd]]
      exact e1
    · have hne : co (8 * b + k) ≠ co (8 * a + i) := fun z => q (a3 b k a i hb hk ha4 hi z)
      refine ⟨h1, ?_, ⟨F, hea 12 _ _ (by omega) h3, h4⟩, G, hea 12 _ _ (by omega) h5, h6⟩
      rw [show upd f7 (8 * a + i) 1 (8 * b + k) = f7 (8 * b + k) by simp [upd, q]]
      exact (hfr _ (by omega) (by omega) hne (hlt _ _ h2)).trans h2
  · dsimp only
    unfold va_up
    by_cases q : p = n
    · subst q; simp
    · rw [if_neg q, if_neg q]
      exact b1 p (by omega)
  · dsimp only
    by_cases q : p = n
    · subst q
      rw [if_pos rfl]
      exact ⟨hxz, e2, PN, e3, hP⟩
    · rw [if_neg q]
      obtain ⟨h1, h2, F, h3, h4⟩ := b2 p (by omega)
      exact ⟨h1, heo 4 (by decide) _ _ h1 h2, F, hea 16 _ _ (by omega) h3, fun k hk => (h4 k hk).trans (hP2 _ (by omega)).symm⟩
  · intro z
    dsimp only at z
    by_cases q : p = n <;> by_cases q2 : r = n
    · omega
    · rw [if_pos q, if_neg q2] at z
      have := hpsz r (by omega)
      omega
    · rw [if_neg q, if_pos q2] at z
      have := hpsz p (by omega)
      omega
    · rw [if_neg q, if_neg q2] at z
      exact b3 p r (by omega) (by omega) z
/-- withdraw: a coin more of the account a -/
theorem bm_dyn_withdraw (h : bm_dyn ct x n K kf f4 g5 g6 f7 g8 g9 g10 wf pw lc co pa L M) {a sz : Nat} (ha4 : a < 4) (hk8 : ∀ b, b < 4 → kf b ≤ 8) (hi : kf a < 8) (hxz : x + 40 ≤ sz) (hlt : ∀ b e, M b = some e → b < sz) {d : Int32} {nu sg : Int64} {g8' F1 F0 : Nat → Int64}
    (e1 : M1 sz = some (.inr (2, [.int d, .long nu, .long sg, .int 0, .ref (sz + 1), .ref (sz + 2)]))) (e2 : M1 (sz + 1) = some (.inl (ct 1, 12, .inr (.inl F1)))) (e3 : M1 (sz + 2) = some (.inl (ct 1, 12, .inr (.inl F0)))) (hfr : ∀ b, x + 40 ≤ b → b < sz → M1 b = M b)
    (hF1 : ∀ t, t < 12 → F1 t = bm_v3 (fun j => g8' (16 * (8 * a + kf a) + 4 * j)) (fun j => g8' (16 * (8 * a + kf a) + 4 * j + 2)) (fun j => bm_h2 (g8' (16 * (8 * a + kf a) + 4 * j + 1)) (g8' (16 * (8 * a + kf a) + 4 * j + 1 + 2))) t)
    (hF0 : ∀ t, t < 12 → F0 t = bm_v3 (fun j => g8' (16 * (8 * a + kf a) + 4 * j + 1)) (fun j => g8' (16 * (8 * a + kf a) + 4 * j + 1 + 2)) (fun j => bm_h2 (g8' (16 * (8 * a + kf a) + 4 * j)) (g8' (16 * (8 * a + kf a) + 4 * j + 2))) t)
    (h8 : ∀ i, (i < 16 * (8 * a + kf a) ∨ 16 * (8 * a + kf a) + 16 ≤ i) → g8' i = g8 i) :
    bm_dyn ct x n K (fun b => if b = a then kf a + 1 else kf b) (upd f4 (8 * a + kf a) d) (vp_updL g5 (8 * a + kf a) nu) (vp_updL g6 (8 * a + kf a) sg) (upd f7 (8 * a + kf a) 0) g8' g9 g10 (fun b => if b = a then va_up (wf a) (kf a) (some sz) else wf b) pw lc (fun q => if q = 8 * a + kf a then sz else co q) pa L M1 := by
  obtain ⟨⟨a1, a2, a3⟩, ⟨b1, b2, b3⟩, c1⟩ := h
  have hext : bm_ext x M M1 := fun b e q1 hb => (hfr b q1 (hlt b e hb)).trans hb
  have hold : ∀ b k, b < 4 → k < (if b = a then kf a + 1 else kf b) → 8 * b + k ≠ 8 * a + kf a → k < kf b := fun b k hb hk hne => by
    by_cases q : b = a
    · subst q
      rw [if_pos rfl] at hk
      omega
    · rw [if_neg q] at hk
      exact hk
  have hcsz : ∀ b k, b < 4 → k < kf b → co (8 * b + k) < sz := fun b k hb hk => hlt _ _ (a2 b k hb hk).2.1
  have hqq : ∀ b k, b < 4 → k < (if b = a then kf a + 1 else kf b) → 8 * b + k = 8 * a + kf a → b = a ∧ k = kf a := fun b k hb hk he => by
    have h1 := hk8 b hb
    by_cases q : b = a
    · subst q; exact ⟨rfl, by omega⟩
    · rw [if_neg q] at hk
      omega
  refine ⟨⟨fun b k hb hk => ?_, fun b k hb hk => ?_, fun b k b2' k2 hb hk hb2 hk2 => ?_⟩, ⟨b1, fun p hp => (b2 p hp).ext hext.eo hext.ea, b3⟩, c1.ext hext.eo hext.ea⟩
  · dsimp only at hk ⊢
    by_cases q : 8 * b + k = 8 * a + kf a
    · obtain ⟨rfl, rfl⟩ := hqq b k hb hk q
      simp [va_up]
    · have hk2 := hold b k hb hk q
      rw [if_neg q]
      by_cases z : b = a
      · subst z
        rw [if_pos rfl]
        unfold va_up
        rw [if_neg (by omega)]
        exact a1 b k hb hk2
      · rw [if_neg z]
        exact a1 b k hb hk2
  · dsimp only at hk ⊢
    by_cases q : 8 * b + k = 8 * a + kf a
    · rw [q, if_pos rfl]
      refine ⟨hxz, ?_, ⟨F1, e2, hF1⟩, F0, e3, hF0⟩
      rw [show upd f4 (8 * a + kf a) d (8 * a + kf a) = d by simp [upd], show vp_updL g5 (8 * a + kf a) nu (8 * a + kf a) = nu by simp [vp_updL], show vp_updL g6 (8 * a + kf a) sg (8 * a + kf a) = sg by simp [vp_updL], show upd f7 (8 * a + kf a) 0 (8 * a + kf a) = 0 by simp [upd]]
      exact e1
    · have hk2 := hold b k hb hk q
      rw [if_neg q]
      obtain ⟨h1, h2, ⟨F, h3, h4⟩, G, h5, h6⟩ := (a2 b k hb hk2).ext hext.eo hext.ea
      have hg : ∀ t, t < 16 → g8' (16 * (8 * b + k) + t) = g8 (16 * (8 * b + k) + t) := fun t ht => h8 _ (by omega)
      have hv1 : ∀ t, t < 12 → bm_v3 (fun j => g8 (16 * (8 * b + k) + 4 * j)) (fun j => g8 (16 * (8 * b + k) + 4 * j + 2)) (fun j => bm_h2 (g8 (16 * (8 * b + k) + 4 * j + 1)) (g8 (16 * (8 * b + k) + 4 * j + 1 + 2))) t = bm_v3 (fun j => g8' (16 * (8 * b + k) + 4 * j)) (fun j => g8' (16 * (8 * b + k) + 4 * j + 2)) (fun j => bm_h2 (g8' (16 * (8 * b + k) + 4 * j + 1)) (g8' (16 * (8 * b + k) + 4 * j + 1 + 2))) t := fun t ht => by
        have z0 := hg (4 * (t / 3)) (by omega)
        have z1 := hg (4 * (t / 3) + 1) (by omega)
        have z2 := hg (4 * (t / 3) + 2) (by omega)
        have z3 := hg (4 * (t / 3) + 3) (by omega)
        unfold bm_v3
        dsimp only
        rw [show 16 * (8 * b + k) + 4 * (t / 3) + 1 + 2 = 16 * (8 * b + k) + (4 * (t / 3) + 3) by omega, show 16 * (8 * b + k) + 4 * (t / 3) + 2 = 16 * (8 * b + k) + (4 * (t / 3) + 2) by omega, show 16 * (8 * b + k) + 4 * (t / 3) + 1 = 16 * (8 * b + k) + (4 * (t / 3) + 1) by omega, z0, z1, z2, z3]
      have hv0 : ∀ t, t < 12 → bm_v3 (fun j => g8 (16 * (8 * b + k) + 4 * j + 1)) (fun j => g8 (16 * (8 * b + k) + 4 * j + 1 + 2)) (fun j => bm_h2 (g8 (16 * (8 * b + k) + 4 * j)) (g8 (16 * (8 * b + k) + 4 * j + 2))) t = bm_v3 (fun j => g8' (16 * (8 * b + k) + 4 * j + 1)) (fun j => g8' (16 * (8 * b + k) + 4 * j + 1 + 2)) (fun j => bm_h2 (g8' (16 * (8 * b + k) + 4 * j)) (g8' (16 * (8 * b + k) + 4 * j + 2))) t := fun t ht => by
        have z0 := hg (4 * (t / 3)) (by omega)
        have z1 := hg (4 * (t / 3) + 1) (by omega)
        have z2 := hg (4 * (t / 3) + 2) (by omega)
        have z3 := hg (4 * (t / 3) + 3) (by omega)
        unfold bm_v3
        dsimp only
        rw [show 16 * (8 * b + k) + 4 * (t / 3) + 1 + 2 = 16 * (8 * b + k) + (4 * (t / 3) + 3) by omega, show 16 * (8 * b + k) + 4 * (t / 3) + 2 = 16 * (8 * b + k) + (4 * (t / 3) + 2) by omega, show 16 * (8 * b + k) + 4 * (t / 3) + 1 = 16 * (8 * b + k) + (4 * (t / 3) + 1) by omega, z0, z1, z2, z3]
      refine ⟨h1, ?_, ⟨F, h3, fun t ht => (h4 t ht).trans (hv1 t ht)⟩, G, h5, fun t ht => (h6 t ht).trans (hv0 t ht)⟩
      rw [show upd f4 (8 * a + kf a) d (8 * b + k) = f4 (8 * b + k) by simp [upd, q], show vp_updL g5 (8 * a + kf a) nu (8 * b + k) = g5 (8 * b + k) by simp [vp_updL, q], show vp_updL g6 (8 * a + kf a) sg (8 * b + k) = g6 (8 * b + k) by simp [vp_updL, q], show upd f7 (8 * a + kf a) 0 (8 * b + k) = f7 (8 * b + k) by simp [upd, q]]
      exact h2
  · intro z
    dsimp only at hk hk2 z
    by_cases q : 8 * b + k = 8 * a + kf a <;> by_cases q2 : 8 * b2' + k2 = 8 * a + kf a
    · omega
    · rw [if_pos q, if_neg q2] at z
      have := hcsz b2' k2 hb2 (hold b2' k2 hb2 hk2 q2)
      omega
    · rw [if_neg q, if_pos q2] at z
      have := hcsz b k hb (hold b k hb hk q)
      omega
    · rw [if_neg q, if_neg q2] at z
      exact a3 b k b2' k2 hb (hold b k hb hk q) hb2 (hold b2' k2 hb2 hk2 q2) z
/-- deposit: a note more -/
theorem bm_dyn_deposit (h : bm_dyn ct x n K kf f4 g5 g6 f7 g8 g9 g10 wf pw lc co pa L M) {ce : bm_CE} (hx : x + 40 ≤ ce.a ∧ x + 40 ≤ ce.b ∧ x + 40 ≤ ce.c) (hext : bm_ext x M M1)
    (e1 : M1 ce.a = some (.inr (3, [.long ce.d0, .ref ce.b, .long ce.c0, .ref ce.c, lc]))) (e2 : M1 ce.b = some (.inl (ct 1, 4, .inr (.inl ce.h)))) (e3 : M1 ce.c = some (.inl (ct 1, 4, .inr (.inl ce.hv)))) {g10' : Nat → Int64} (hNE : bm_NE g10' ce K) (hold : ∀ i, i < 10 * K → g10' i = g10 i) (hnone : ∀ i, i < K → bm_me g10 ce.h ce.d0 i 4 = 0) :
    bm_dyn ct x n (K + 1) kf f4 g5 g6 f7 g8 g9 g10' wf pw (.ref ce.a) co pa (ce :: L) M1 := by
  obtain ⟨⟨a1, a2, a3⟩, ⟨b1, b2, b3⟩, c1, c2, c3, c4, c5⟩ := h
  have hme : ∀ i, i < K → ∀ d g, bm_me g10' g d i 4 = bm_me g10 g d i 4 := fun i hi d g => bm_mt_cg (fun t ht => hold _ (by omega)) 4 (Nat.le_refl _)
  refine ⟨⟨a1, fun a i ha hi => (a2 a i ha hi).ext hext.eo hext.ea, a3⟩, ⟨b1, fun p hp => (b2 p hp).ext hext.eo hext.ea, b3⟩, ⟨rfl, lc, e1, e2, e3, bm_CL_ext hext.eo hext.ea c1 c4⟩, ⟨c3 ▸ hNE, bm_LN_cg (by rw [c3]; exact hold) c2⟩, by rw [List.length_cons, c3], fun e he => ?_, fun i j hij hj d g => ?_⟩
  · rcases List.mem_cons.mp he with rfl | he
    · exact hx
    · exact c4 e he
  · by_cases q : j = K
    · subst q
      by_cases z : bm_me g10' g d j 4 = 0
      · exact Or.inr z
      · obtain ⟨z1, z2⟩ := bm_me_nz 4 z
        refine Or.inl ?_
        rw [hme i hij, ← hnone i hij, ← hNE.1, z1]
        exact bm_me_cg2 (fun t ht => (z2 t ht).symm.trans (hNE.2.1 t ht)) 4 (Nat.le_refl _)
    · rw [hme i (by omega), hme j (by omega)]
      exact c5 i j hij (by omega) d g
end BMO
