/-! one state for both sides; a call of the law on both -/
/-- traced, blinded, payments, notes, money, counts, coins, kinds, numbers, signatures, spent, parts, rows, notes -/
abbrev bm_St : Type := Int32 × Int64 × Int32 × Nat × (Nat → Int32) × (Nat → Int32) × (Nat → Int32) × (Nat → Int32) × (Nat → Int64) × (Nat → Int64) × (Nat → Int32) × (Nat → Int64) × (Nat → Int64) × (Nat → Int64)
def bm_BS (ct : Nat → ClassId) (x : Nat) : bm_St → bm_Map → Prop := fun t M => match t with
  | (tr, bl, np, K, f1, f2, f3, f4, g5, g6, f7, g8, g9, g10) => bm_BD ct x K tr bl np f1 f2 f3 f4 g5 g6 f7 g8 g9 g10 M
def bm_MS (ct : Nat → ClassId) (m : Nat) (th : Int32) : bm_St → bm_Map → Prop := fun t M => match t with
  | (tr, bl, np, K, f1, f2, f3, f4, g5, g6, f7, g8, g9, g10) => ∃ (g11 g12 g13 g14 g15 : Nat → Int64) (f16 : Nat → Int32) (g17 : Nat → Int64), bm_MD ct m th tr bl np (nI K) f1 f2 f3 f4 g5 g6 f7 g8 g9 g10 g11 g12 g13 g14 g15 f16 g17 M
/-- after a wrapper: its answer k, the number b in the row if k = 0, the mint at t, the reference untouched -/
def bm_PW (ct : Nat → ClassId) (x : Nat) (k : Int32) (b : Int64) (t : bm_St) (M : bm_Map) : Option Value → bm_Map → Nat → Prop := fun r M1 _ => r = some (.int k) ∧ bm_BS ct x t M1 ∧ (∃ w1 : Nat → Int64, M1 (x + 39) = some (.inl (ct 1, 1, .inr (.inl w1))) ∧ (k = 0 → w1 0 = b)) ∧ ∀ c, x + 21 ≤ c → c < x + 39 → M1 c = M c
theorem bm_BS.mk {ct : Nat → ClassId} {x K : Nat} {tr : Int32} {bl : Int64} {np : Int32} {f1 f2 f3 f4 : Nat → Int32} {g5 g6 : Nat → Int64} {f7 : Nat → Int32} {g8 g9 g10 : Nat → Int64} {M : bm_Map} (h : bm_BD ct x K tr bl np f1 f2 f3 f4 g5 g6 f7 g8 g9 g10 M) : bm_BS ct x (tr, bl, np, K, f1, f2, f3, f4, g5, g6, f7, g8, g9, g10) M := h
theorem bm_rwide {s : State} {pl : Platform} {r r1 : Room} (h : s.hasRoom pl r1 = true) (h1 : r.frames ≤ r1.frames) (h2 : r.cells ≤ r1.cells) (h3 : r.slots ≤ r1.slots) (h4 : r.locals ≤ r1.locals) : s.hasRoom pl r = true := by
  simp only [State.hasRoom, Bool.and_eq_true, decide_eq_true_eq] at h ⊢
  obtain ⟨⟨⟨⟨a1, a2, a3, a4, a5, a6⟩, a7⟩, a8⟩, a9⟩ := h
  exact ⟨⟨⟨⟨by omega, by omega, by omega, by omega, by omega, a6⟩, by omega⟩, by omega⟩, a9⟩
theorem bm_MG.wide {l : Launch} {y : MethodName} {ws : List Cond} {rm rm1 : Room} {Pc : Array Value → State → Prop} {Qc : Array Value → State → Outcome → State → Prop} {mc ms mc1 ms1 : Nat} {free : Addr → Prop} (hM : bm_MG l y ws rm Pc Qc mc ms free) (h1 : rm.frames ≤ rm1.frames) (h2 : rm.cells ≤ rm1.cells) (h3 : rm.slots ≤ rm1.slots) (h4 : rm.locals ≤ rm1.locals) (h5 : mc ≤ mc1) (h6 : ms ≤ ms1) : bm_MG l y ws rm1 Pc Qc mc1 ms1 free := by
  intro p e ha hc hk s m args below hf hr hb hal hn hh hro hws hP
  obtain ⟨n, o, a1, a2, a3, a4, L, ⟨a5, a6⟩, a7⟩ := hM p e ha hc hk s m args below hf hr hb hal hn hh (bm_rwide hro h1 h2 h3 h4) hws hP
  exact ⟨n, o, a1, a2, a3, a4, L, ⟨a5, a6.weaken (fun x hx _ => hx) h5 h6⟩, a7⟩
theorem bm_Mp {l : Launch} {y : MethodName} {ws : List Cond} {rm : Room} {Pc : Array Value → State → Prop} {D : va_G} {base : Nat} {post post1 : Option Value → bm_Map → Nat → Prop} {mc ms : Nat} {free : Addr → Prop} (hM : Met l y ws rm Pc (bm_Post D base post) mc ms free) (h : ∀ (v : Option Value) (M1 : bm_Map) (H : Heap), post v M1 H.size → bm_M D base M1 H → post1 v M1 H.size) : Met l y ws rm Pc (bm_Post D base post1) mc ms free := by
  intro p e ha hc hk s m args below hf happ hP hK
  obtain ⟨n, o, a1, a2, a3, ⟨v, M1, b1, b2, b3, b4⟩, a5⟩ := hM p e ha hc hk s m args below hf happ hP hK
  exact ⟨n, o, a1, a2, a3, ⟨v, M1, b1, h v M1 _ b2 b3, b3, b4⟩, a5⟩
theorem bm_BS.kept {ct : Nat → ClassId} {x : Nat} {t : bm_St} {M M1 : bm_Map} (h : bm_BS ct x t M) (hk : ∀ b, (x ≤ b ∧ b < x + 21) ∨ x + 40 ≤ b → M1 b = M b) : bm_BS ct x t M1 := bm_BD.kept h hk
/-- a refused call that wrote nothing -/
theorem bm_PW_t {D : va_G} {base : Nat} {ct : Nat → ClassId} {x sz : Nat} {t : bm_St} {M : bm_Map} {w : Nat → Int64} {k : Int32} {b : Int64} (hB : bm_BS ct x t M) (ho : M (x + 39) = some (.inl (ct 1, 1, .inr (.inl w)))) (hk : ¬ k = 0) (v : Option Value) (M1 : bm_Map) (H : Heap) (hp : v = some (.int k) ∧ (M1 = M ∧ H.size = sz + 1)) (_ : bm_M D base M1 H) : bm_PW ct x k b t M v M1 H.size := by
  obtain ⟨h1, rfl, -⟩ := hp
  exact ⟨h1, hB, ⟨w, ho, fun z => absurd z hk⟩, fun _ _ _ => rfl⟩
/-- a call that read an int, or a long -/
theorem bm_PW_i {D : va_G} {base : Nat} {ct : Nat → ClassId} {x sz : Nat} {t : bm_St} {M : bm_Map} {w : Nat → Int64} {b : Int32} (hB : bm_BS ct x t M) (v : Option Value) (M1 : bm_Map) (H : Heap) (hp : v = some (.int 0) ∧ ∃ (i : Int32) (M9 : bm_Map), bm_Is (some (.int b)) M sz (some (.int i)) M9 H.size ∧ M1 = bm_up M9 (x + 39) (.inl (ct 1, 1, .inr (.inl (vp_updL w 0 i.toInt64))))) (_ : bm_M D base M1 H) : bm_PW ct x 0 b.toInt64 t M v M1 H.size := by
  obtain ⟨h1, i, M9, ⟨h2, rfl, -⟩, rfl⟩ := hp
  cases h2
  exact ⟨h1, hB.kept (fun c hc => bm_up_ne (by omega)), ⟨_, bm_up_self _ _ _, fun _ => by simp [vp_updL]⟩, fun c q1 q2 => bm_up_ne (by omega)⟩
theorem bm_PW_l {D : va_G} {base : Nat} {ct : Nat → ClassId} {x sz : Nat} {t : bm_St} {M : bm_Map} {w : Nat → Int64} {b : Int64} (hB : bm_BS ct x t M) (v : Option Value) (M1 : bm_Map) (H : Heap) (hp : v = some (.int 0) ∧ ∃ (i : Int64) (M9 : bm_Map), bm_Is (some (.long b)) M sz (some (.long i)) M9 H.size ∧ M1 = bm_up M9 (x + 39) (.inl (ct 1, 1, .inr (.inl (vp_updL w 0 i))))) (_ : bm_M D base M1 H) : bm_PW ct x 0 b t M v M1 H.size := by
  obtain ⟨h1, i, M9, ⟨h2, rfl, -⟩, rfl⟩ := hp
  cases h2
  exact ⟨h1, hB.kept (fun c hc => bm_up_ne (by omega)), ⟨_, bm_up_self _ _ _, fun _ => by simp [vp_updL]⟩, fun c q1 q2 => bm_up_ne (by omega)⟩
theorem bm_bl_01 {v n : Int32} (h : ¬ bm_bl v n = 0) : bm_bl v n = 1 := by
  by_cases q : v < 0 ∨ n ≤ v
  · exact absurd (bm_bl_z q) h
  · exact bm_bl_o q
/-- a call that returned, and what it wrote -/
theorem bm_PW_g {ct : Nat → ClassId} {x n : Nat} {t : bm_St} {M M9 M1 : bm_Map} {w : Nat → Int64} {b : Int64} {v : Option Value} (hv : v = some (.int 0)) (hB : bm_BS ct x t M9) (hf : ∀ c, x + 21 ≤ c → c < x + 39 → M9 c = M c) (h1 : M1 = bm_up M9 (x + 39) (.inl (ct 1, 1, .inr (.inl (vp_updL w 0 b))))) : bm_PW ct x 0 b t M v M1 n := by
  subst h1
  exact ⟨hv, hB.kept (fun c hc => bm_up_ne (by omega)), ⟨_, bm_up_self _ _ _, fun _ => by simp [vp_updL]⟩, fun c q1 q2 => (bm_up_ne (by omega)).trans (hf c q1 q2)⟩
/-- a refused call, and what it wrote -/
theorem bm_PW_w {ct : Nat → ClassId} {x n : Nat} {t : bm_St} {M M1 : bm_Map} {w : Nat → Int64} {b : Int64} {k : Int32} {v : Option Value} (hv : v = some (.int k)) (hk : ¬ k = 0) (hB : bm_BS ct x t M1) (ho : M (x + 39) = some (.inl (ct 1, 1, .inr (.inl w)))) (hf : ∀ c, x + 21 ≤ c → c < x + 40 → M1 c = M c) : bm_PW ct x k b t M v M1 n :=
  ⟨hv, hB, ⟨w, (hf _ (by omega) (by omega)).trans ho, fun z => absurd z hk⟩, fun c q1 q2 => hf c q1 (by omega)⟩
/-- after a call that never throws -/
def bm_PR (ct : Nat → ClassId) (x : Nat) (r : Value) (t : bm_St) (M : bm_Map) : Option Value → bm_Map → Nat → Prop := fun v M1 _ => v = some r ∧ bm_BS ct x t M1 ∧ ∀ c, x + 21 ≤ c → c < x + 40 → M1 c = M c
theorem bm_PR_r {D : va_G} {base : Nat} {ct : Nat → ClassId} {x sz : Nat} {t : bm_St} {M : bm_Map} {r : Value} (hB : bm_BS ct x t M) (v : Option Value) (M1 : bm_Map) (H : Heap) (hp : bm_Is (some r) M sz v M1 H.size) (_ : bm_M D base M1 H) : bm_PR ct x r t M v M1 H.size := by
  obtain ⟨h1, rfl, -⟩ := hp
  exact ⟨h1, hB, fun _ _ _ => rfl⟩
