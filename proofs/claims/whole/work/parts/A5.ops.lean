set_option maxHeartbeats 2000000 in
theorem bo_balance (l : Launch) (hlt : l.stackTraces = false) (D : va_G) (ct : Nat → ClassId) (base : Nat) (ad : Nat → Nat) (M : bm_Map) (sz x : Nat) (a1 : Int32) (tr : Int32) (bl : Int64) (np : Int32) (K : Nat) (f1 f2 f3 f4 : Nat → Int32) (g5 g6 : Nat → Int64) (f7 : Nat → Int32) (g8 g9 g10 : Nat → Int64) (w : Nat → Int64) (hH : ∃ H : Heap, bm_M D base M H ∧ H.size = sz) (hB : bm_BD ct x K tr bl np f1 f2 f3 f4 g5 g6 f7 g8 g9 g10 M) (ho : M (x + 39) = some (.inl (ct 1, 1, .inr (.inl w)))) (hK512 : K < 512) :
    ∃ (k : Int32) (b : Int32) (t1 : bm_St), (∃ K1, K1 ≤ K + 1 ∧ t1.2.2.2.1 = K1) ∧ bm_MG l yL_balance (bm_wl yL_balance cL_balance 4 (some .int) [(0, 9, 12, 13)]) { frames := 7, cells := 1, slots := 6, locals := 102 } (bm_Pre D ct base ad M sz [.ref x, .int a1, .ref (x + 39)]) (bm_Post D base (bm_PW ct x k b.toInt64 t1 M)) 1 6 (bm_A base) ∧
      ∀ (th : Int32) (M2 : bm_Map) (s2 : Nat), bm_MS ct (x + 21) th (tr, bl, np, K, f1, f2, f3, f4, g5, g6, f7, g8, g9, g10) M2 → Met l yM_balance (bm_ws yM_balance cM_balance 2 (some .int)) { frames := 1, cells := 0, slots := 0, locals := 21 } (bm_Pre D ct base ad M2 s2 [.ref (x + 21), .int a1]) (bm_Post D base (bm_Pm (x + 21) M2 s2 (fun v M1 => v = some (.int b) ∧ bm_MS ct (x + 21) k t1 M1))) 0 0 (bm_A base) := by
  have hBS : bm_BS ct x (tr, bl, np, K, f1, f2, f3, f4, g5, g6, f7, g8, g9, g10) M := hB
  obtain ⟨kf, n, wf, pw, lc, co, pa, L, hkf, ⟨hnp, hn20⟩, hdc, hsta, hdyn⟩ := id hB
  obtain ⟨s1, ⟨ac, s2, hac⟩, ⟨fo, so, s3⟩, ⟨cf, s4, hcf⟩, ⟨pt, s5⟩, ⟨vA, vC, vE, vB, vX, vY, vP, s6⟩, s7, ⟨h, s8⟩, s9, s10⟩ := id hsta
  obtain ⟨⟨d1, d2, d3⟩, ⟨p1, p2, p3⟩, hcre⟩ := id hdyn
  by_cases hv : bm_bl a1 4 = 0
  ·
    refine ⟨1, 0, (tr, bl, np, K, f1, f2, f3, f4, g5, g6, f7, g8, g9, g10), ⟨K, Nat.le_succ K, rfl⟩, ((bw_L_balance_t1 l D ct base ad M sz x (x + 39) a1 _ 1 6 _ s1 (bc_B_balance_t l hlt D ct base ad M sz x np tr (f2 0) (f2 1) (f2 2) (f2 3) bl lc a1 s1 hv)).post (bm_PW_t hBS ho (by decide))).wide (by decide) (by decide) (by decide) (by decide) (by decide) (by decide), ?_⟩
    · intro th M2 s2 hms
      obtain ⟨g11, g12, g13, g14, g15, f16, g17, hP⟩ := hms
      exact bm_Mp (bc_M_balance_n l D ct base ad M2 s2 (x + 21) th tr bl np (nI K) f1 f2 f3 f4 g5 g6 f7 g8 g9 g10 g11 g12 g13 g14 g15 f16 g17 a1 hP hv) (fun v M1 H hp _ => ⟨hp.1, ⟨hp.2.1.1, _, _, _, _, _, _, _, hp.2.1.2⟩, hp.2.2⟩)
  · obtain ⟨j, hj, rfl⟩ := bm_bl_in (N := 4) (by decide) hv
    refine ⟨0, f1 j, (tr, bl, np, K, f1, f2, f3, f4, g5, g6, f7, g8, g9, g10), ⟨K, Nat.le_succ K, rfl⟩, ((bw_L_balance_ok l D ct base ad M sz x (x + 39) (nI j) _ 0 0 w _ s1 (bc_B_balance_ok l D ct base ad M sz x np tr (f2 0) (f2 1) (f2 2) (f2 3) bl lc j (f1 j) (f3 j) ac s1 s2 (s9 j hj) hac hj) (fun r M1 n9 hp => ⟨_, hp.1, by rw [hp.2.1]; exact ho⟩)).post (bm_PW_i hBS)).wide (by decide) (by decide) (by decide) (by decide) (by decide) (by decide), ?_⟩
    · intro th M2 s2 hms
      obtain ⟨g11, g12, g13, g14, g15, f16, g17, hP⟩ := hms
      exact bm_Mp (bc_M_balance_ok l D ct base ad M2 s2 (x + 21) th tr bl np (nI K) f1 f2 f3 f4 g5 g6 f7 g8 g9 g10 g11 g12 g13 g14 g15 f16 g17 j hP hj) (fun v M1 H hp _ => ⟨hp.1, ⟨hp.2.1.1, _, _, _, _, _, _, _, hp.2.1.2⟩, hp.2.2⟩)
set_option maxHeartbeats 2000000 in
theorem bo_number (l : Launch) (hlt : l.stackTraces = false) (D : va_G) (ct : Nat → ClassId) (base : Nat) (ad : Nat → Nat) (M : bm_Map) (sz x : Nat) (a1 : Int32) (a2 : Int32) (tr : Int32) (bl : Int64) (np : Int32) (K : Nat) (f1 f2 f3 f4 : Nat → Int32) (g5 g6 : Nat → Int64) (f7 : Nat → Int32) (g8 g9 g10 : Nat → Int64) (w : Nat → Int64) (hH : ∃ H : Heap, bm_M D base M H ∧ H.size = sz) (hB : bm_BD ct x K tr bl np f1 f2 f3 f4 g5 g6 f7 g8 g9 g10 M) (ho : M (x + 39) = some (.inl (ct 1, 1, .inr (.inl w)))) (hK512 : K < 512) :
    ∃ (k : Int32) (b : Int64) (t1 : bm_St), (∃ K1, K1 ≤ K + 1 ∧ t1.2.2.2.1 = K1) ∧ bm_MG l yL_number (bm_wl yL_number cL_number 5 (some .int) [(0, 9, 12, 21)]) { frames := 7, cells := 1, slots := 6, locals := 104 } (bm_Pre D ct base ad M sz [.ref x, .int a1, .int a2, .ref (x + 39)]) (bm_Post D base (bm_PW ct x k b t1 M)) 1 6 (bm_A base) ∧
      ∀ (th : Int32) (M2 : bm_Map) (s2 : Nat), bm_MS ct (x + 21) th (tr, bl, np, K, f1, f2, f3, f4, g5, g6, f7, g8, g9, g10) M2 → Met l yM_number (bm_ws yM_number cM_number 3 (some .long)) { frames := 2, cells := 0, slots := 0, locals := 43 } (bm_Pre D ct base ad M2 s2 [.ref (x + 21), .int a1, .int a2]) (bm_Post D base (bm_Pm (x + 21) M2 s2 (fun v M1 => v = some (.long b) ∧ bm_MS ct (x + 21) k t1 M1))) 0 0 (bm_A base) := by
  have hBS : bm_BS ct x (tr, bl, np, K, f1, f2, f3, f4, g5, g6, f7, g8, g9, g10) M := hB
  obtain ⟨kf, n, wf, pw, lc, co, pa, L, hkf, ⟨hnp, hn20⟩, hdc, hsta, hdyn⟩ := id hB
  obtain ⟨s1, ⟨ac, s2, hac⟩, ⟨fo, so, s3⟩, ⟨cf, s4, hcf⟩, ⟨pt, s5⟩, ⟨vA, vC, vE, vB, vX, vY, vP, s6⟩, s7, ⟨h, s8⟩, s9, s10⟩ := id hsta
  obtain ⟨⟨d1, d2, d3⟩, ⟨p1, p2, p3⟩, hcre⟩ := id hdyn
  by_cases hv : bm_bl a1 np = 0
  ·
    refine ⟨1, 0, (tr, bl, np, K, f1, f2, f3, f4, g5, g6, f7, g8, g9, g10), ⟨K, Nat.le_succ K, rfl⟩, ((bw_L_number_t1 l D ct base ad M sz x (x + 39) a1 a2 _ 1 6 _ s1 (bc_B_number_t1 l hlt D ct base ad M sz x np tr (f2 0) (f2 1) (f2 2) (f2 3) bl lc a1 a2 s1 hv)).post (bm_PW_t hBS ho (by decide))).wide (by decide) (by decide) (by decide) (by decide) (by decide) (by decide), ?_⟩
    · intro th M2 s2 hms
      obtain ⟨g11, g12, g13, g14, g15, f16, g17, hP⟩ := hms
      exact bm_Mp (bc_M_number_n1 l D ct base ad M2 s2 (x + 21) th tr bl np (nI K) f1 f2 f3 f4 g5 g6 f7 g8 g9 g10 g11 g12 g13 g14 g15 f16 g17 a1 a2 hP hv) (fun v M1 H hp _ => ⟨hp.1, ⟨hp.2.1.1, _, _, _, _, _, _, _, hp.2.1.2⟩, hp.2.2⟩)
  · obtain ⟨q, hq, rfl⟩ := bm_bl_in (N := n) (by omega) (by rw [← hnp]; exact hv)
    have hv1 : bm_bl (nI q) np = 1 := bm_bl_01 hv
    have hq20 : q < 20 := by omega
    by_cases hw : bm_bl a2 16 = 0
    ·
      refine ⟨1, 0, (tr, bl, np, K, f1, f2, f3, f4, g5, g6, f7, g8, g9, g10), ⟨K, Nat.le_succ K, rfl⟩, ((bw_L_number_t1 l D ct base ad M sz x (x + 39) (nI q) a2 _ 1 6 _ s1 (bc_B_number_t2 l hlt D ct base ad M sz x np tr (f2 0) (f2 1) (f2 2) (f2 3) bl lc q (pa q) a2 pw s1 s7 hq20 hv1 (p1 q hq) hw)).post (bm_PW_t hBS ho (by decide))).wide (by decide) (by decide) (by decide) (by decide) (by decide) (by decide), ?_⟩
      · intro th M2 s2 hms
        obtain ⟨g11, g12, g13, g14, g15, f16, g17, hP⟩ := hms
        exact bm_Mp (bc_M_number_n2 l D ct base ad M2 s2 (x + 21) th tr bl np (nI K) f1 f2 f3 f4 g5 g6 f7 g8 g9 g10 g11 g12 g13 g14 g15 f16 g17 (nI q) a2 hP hv1 hw) (fun v M1 H hp _ => ⟨hp.1, ⟨hp.2.1.1, _, _, _, _, _, _, _, hp.2.1.2⟩, hp.2.2⟩)
    · obtain ⟨i, hi, rfl⟩ := bm_bl_in (N := 16) (by decide) hw
      obtain ⟨u1, u2, F, u3, u4⟩ := p2 q hq
      have e4 := u4 i hi
      refine ⟨0, (g9 (16 * q + i)), (tr, bl, np, K, f1, f2, f3, f4, g5, g6, f7, g8, g9, g10), ⟨K, Nat.le_succ K, rfl⟩, ((bw_L_number_ok l D ct base ad M sz x (x + 39) (nI q) (nI i) _ 0 0 w _ s1 (e4 ▸ bc_B_number_ok l D ct base ad M sz x np tr (f2 0) (f2 1) (f2 2) (f2 3) bl lc q (pa q) (pa q + 1) i pw F s1 s7 u2 u3 hq20 hv1 (p1 q hq) hi) (fun r M1 n9 hp => ⟨_, hp.1, by rw [hp.2.1]; exact ho⟩)).post (bm_PW_l hBS)).wide (by decide) (by decide) (by decide) (by decide) (by decide) (by decide), ?_⟩
      · intro th M2 s2 hms
        obtain ⟨g11, g12, g13, g14, g15, f16, g17, hP⟩ := hms
        exact bm_Mp (bc_M_number_ok l D ct base ad M2 s2 (x + 21) th tr bl np (nI K) f1 f2 f3 f4 g5 g6 f7 g8 g9 g10 g11 g12 g13 g14 g15 f16 g17 q i hP hq20 hi hv1) (fun v M1 H hp _ => ⟨hp.1, ⟨hp.2.1.1, _, _, _, _, _, _, _, hp.2.1.2⟩, hp.2.2⟩)
set_option maxHeartbeats 2000000 in
theorem bo_coin (l : Launch) (hlt : l.stackTraces = false) (D : va_G) (ct : Nat → ClassId) (base : Nat) (ad : Nat → Nat) (M : bm_Map) (sz x : Nat) (a1 : Int32) (a2 : Int32) (tr : Int32) (bl : Int64) (np : Int32) (K : Nat) (f1 f2 f3 f4 : Nat → Int32) (g5 g6 : Nat → Int64) (f7 : Nat → Int32) (g8 g9 g10 : Nat → Int64) (w : Nat → Int64) (hH : ∃ H : Heap, bm_M D base M H ∧ H.size = sz) (hB : bm_BD ct x K tr bl np f1 f2 f3 f4 g5 g6 f7 g8 g9 g10 M) (ho : M (x + 39) = some (.inl (ct 1, 1, .inr (.inl w)))) (hK512 : K < 512) :
    ∃ (k : Int32) (b : Int64) (t1 : bm_St), (∃ K1, K1 ≤ K + 1 ∧ t1.2.2.2.1 = K1) ∧ bm_MG l yL_coin (bm_wl yL_coin cL_coin 5 (some .int) [(0, 9, 12, 21)]) { frames := 7, cells := 1, slots := 6, locals := 104 } (bm_Pre D ct base ad M sz [.ref x, .int a1, .int a2, .ref (x + 39)]) (bm_Post D base (bm_PW ct x k b t1 M)) 1 6 (bm_A base) ∧
      ∀ (th : Int32) (M2 : bm_Map) (s2 : Nat), bm_MS ct (x + 21) th (tr, bl, np, K, f1, f2, f3, f4, g5, g6, f7, g8, g9, g10) M2 → Met l yM_coin (bm_ws yM_coin cM_coin 3 (some .long)) { frames := 2, cells := 0, slots := 0, locals := 43 } (bm_Pre D ct base ad M2 s2 [.ref (x + 21), .int a1, .int a2]) (bm_Post D base (bm_Pm (x + 21) M2 s2 (fun v M1 => v = some (.long b) ∧ bm_MS ct (x + 21) k t1 M1))) 0 0 (bm_A base) := by
  have hBS : bm_BS ct x (tr, bl, np, K, f1, f2, f3, f4, g5, g6, f7, g8, g9, g10) M := hB
  obtain ⟨kf, n, wf, pw, lc, co, pa, L, hkf, ⟨hnp, hn20⟩, hdc, hsta, hdyn⟩ := id hB
  obtain ⟨s1, ⟨ac, s2, hac⟩, ⟨fo, so, s3⟩, ⟨cf, s4, hcf⟩, ⟨pt, s5⟩, ⟨vA, vC, vE, vB, vX, vY, vP, s6⟩, s7, ⟨h, s8⟩, s9, s10⟩ := id hsta
  obtain ⟨⟨d1, d2, d3⟩, ⟨p1, p2, p3⟩, hcre⟩ := id hdyn
  by_cases hv : bm_bl a1 4 = 0
  ·
    refine ⟨1, 0, (tr, bl, np, K, f1, f2, f3, f4, g5, g6, f7, g8, g9, g10), ⟨K, Nat.le_succ K, rfl⟩, ((bw_L_coin_t1 l D ct base ad M sz x (x + 39) a1 a2 _ 1 6 _ s1 (bc_B_coin_t1 l hlt D ct base ad M sz x np tr (f2 0) (f2 1) (f2 2) (f2 3) bl lc a1 a2 s1 hv)).post (bm_PW_t hBS ho (by decide))).wide (by decide) (by decide) (by decide) (by decide) (by decide) (by decide), ?_⟩
    · intro th M2 s2 hms
      obtain ⟨g11, g12, g13, g14, g15, f16, g17, hP⟩ := hms
      exact bm_Mp (bc_M_coin_n1 l D ct base ad M2 s2 (x + 21) th tr bl np (nI K) f1 f2 f3 f4 g5 g6 f7 g8 g9 g10 g11 g12 g13 g14 g15 f16 g17 a1 a2 hP hv) (fun v M1 H hp _ => ⟨hp.1, ⟨hp.2.1.1, _, _, _, _, _, _, _, hp.2.1.2⟩, hp.2.2⟩)
  · obtain ⟨j, hj, rfl⟩ := bm_bl_in (N := 4) (by decide) hv
    obtain ⟨hk1, hk2⟩ := hkf j hj
    by_cases hw : bm_bl a2 (f3 j) = 0
    ·
      refine ⟨1, 0, (tr, bl, np, K, f1, f2, f3, f4, g5, g6, f7, g8, g9, g10), ⟨K, Nat.le_succ K, rfl⟩, ((bw_L_coin_t1 l D ct base ad M sz x (x + 39) (nI j) a2 _ 1 6 _ s1 (bc_B_coin_t2 l hlt D ct base ad M sz x np tr (f2 0) (f2 1) (f2 2) (f2 3) bl lc j a2 (f1 j) (f3 j) ac s1 s2 (s9 j hj) hac hj hw)).post (bm_PW_t hBS ho (by decide))).wide (by decide) (by decide) (by decide) (by decide) (by decide) (by decide), ?_⟩
      · intro th M2 s2 hms
        obtain ⟨g11, g12, g13, g14, g15, f16, g17, hP⟩ := hms
        exact bm_Mp (bc_M_coin_n2 l D ct base ad M2 s2 (x + 21) th tr bl np (nI K) f1 f2 f3 f4 g5 g6 f7 g8 g9 g10 g11 g12 g13 g14 g15 f16 g17 j a2 hP hj hw) (fun v M1 H hp _ => ⟨hp.1, ⟨hp.2.1.1, _, _, _, _, _, _, _, hp.2.1.2⟩, hp.2.2⟩)
    · obtain ⟨i, hi, rfl⟩ := bm_bl_in (N := kf j) (by omega) (by rw [← hk1]; exact hw)
      have hw1 : bm_bl (nI i) (f3 j) = 1 := bm_bl_01 hw
      have hi8 : i < 8 := by omega
      refine ⟨0, (g5 (8 * j + i)), (tr, bl, np, K, f1, f2, f3, f4, g5, g6, f7, g8, g9, g10), ⟨K, Nat.le_succ K, rfl⟩, ((bw_L_coin_ok l D ct base ad M sz x (x + 39) (nI j) (nI i) _ 0 0 w _ s1 (bc_B_coin_ok l D ct base ad M sz x np tr (f2 0) (f2 1) (f2 2) (f2 3) bl lc j i (co (8 * j + i)) (co (8 * j + i) + 1) (co (8 * j + i) + 2) (f1 j) (f3 j) (f4 (8 * j + i)) (f7 (8 * j + i)) (g5 (8 * j + i)) (g6 (8 * j + i)) ac (wf j) s1 s2 (s9 j hj) (s10 j hj) (d2 j i hj hi).2.1 hac hj hi8 hw1 (d1 j i hj hi)) (fun r M1 n9 hp => ⟨_, hp.1, by rw [hp.2.1]; exact ho⟩)).post (bm_PW_l hBS)).wide (by decide) (by decide) (by decide) (by decide) (by decide) (by decide), ?_⟩
      · intro th M2 s2 hms
        obtain ⟨g11, g12, g13, g14, g15, f16, g17, hP⟩ := hms
        exact bm_Mp (bc_M_coin_ok l D ct base ad M2 s2 (x + 21) th tr bl np (nI K) f1 f2 f3 f4 g5 g6 f7 g8 g9 g10 g11 g12 g13 g14 g15 f16 g17 j i hP hj hi8 hw1) (fun v M1 H hp _ => ⟨hp.1, ⟨hp.2.1.1, _, _, _, _, _, _, _, hp.2.1.2⟩, hp.2.2⟩)
set_option maxHeartbeats 2000000 in
theorem bo_signature (l : Launch) (hlt : l.stackTraces = false) (D : va_G) (ct : Nat → ClassId) (base : Nat) (ad : Nat → Nat) (M : bm_Map) (sz x : Nat) (a1 : Int32) (a2 : Int32) (tr : Int32) (bl : Int64) (np : Int32) (K : Nat) (f1 f2 f3 f4 : Nat → Int32) (g5 g6 : Nat → Int64) (f7 : Nat → Int32) (g8 g9 g10 : Nat → Int64) (w : Nat → Int64) (hH : ∃ H : Heap, bm_M D base M H ∧ H.size = sz) (hB : bm_BD ct x K tr bl np f1 f2 f3 f4 g5 g6 f7 g8 g9 g10 M) (ho : M (x + 39) = some (.inl (ct 1, 1, .inr (.inl w)))) (hK512 : K < 512) :
    ∃ (k : Int32) (b : Int64) (t1 : bm_St), (∃ K1, K1 ≤ K + 1 ∧ t1.2.2.2.1 = K1) ∧ bm_MG l yL_signature (bm_wl yL_signature cL_signature 5 (some .int) [(0, 9, 12, 21)]) { frames := 7, cells := 1, slots := 6, locals := 104 } (bm_Pre D ct base ad M sz [.ref x, .int a1, .int a2, .ref (x + 39)]) (bm_Post D base (bm_PW ct x k b t1 M)) 1 6 (bm_A base) ∧
      ∀ (th : Int32) (M2 : bm_Map) (s2 : Nat), bm_MS ct (x + 21) th (tr, bl, np, K, f1, f2, f3, f4, g5, g6, f7, g8, g9, g10) M2 → Met l yM_signature (bm_ws yM_signature cM_signature 3 (some .long)) { frames := 2, cells := 0, slots := 0, locals := 43 } (bm_Pre D ct base ad M2 s2 [.ref (x + 21), .int a1, .int a2]) (bm_Post D base (bm_Pm (x + 21) M2 s2 (fun v M1 => v = some (.long b) ∧ bm_MS ct (x + 21) k t1 M1))) 0 0 (bm_A base) := by
  have hBS : bm_BS ct x (tr, bl, np, K, f1, f2, f3, f4, g5, g6, f7, g8, g9, g10) M := hB
  obtain ⟨kf, n, wf, pw, lc, co, pa, L, hkf, ⟨hnp, hn20⟩, hdc, hsta, hdyn⟩ := id hB
  obtain ⟨s1, ⟨ac, s2, hac⟩, ⟨fo, so, s3⟩, ⟨cf, s4, hcf⟩, ⟨pt, s5⟩, ⟨vA, vC, vE, vB, vX, vY, vP, s6⟩, s7, ⟨h, s8⟩, s9, s10⟩ := id hsta
  obtain ⟨⟨d1, d2, d3⟩, ⟨p1, p2, p3⟩, hcre⟩ := id hdyn
  by_cases hv : bm_bl a1 4 = 0
  ·
    refine ⟨1, 0, (tr, bl, np, K, f1, f2, f3, f4, g5, g6, f7, g8, g9, g10), ⟨K, Nat.le_succ K, rfl⟩, ((bw_L_signature_t1 l D ct base ad M sz x (x + 39) a1 a2 _ 1 6 _ s1 (bc_B_signature_t1 l hlt D ct base ad M sz x np tr (f2 0) (f2 1) (f2 2) (f2 3) bl lc a1 a2 s1 hv)).post (bm_PW_t hBS ho (by decide))).wide (by decide) (by decide) (by decide) (by decide) (by decide) (by decide), ?_⟩
    · intro th M2 s2 hms
      obtain ⟨g11, g12, g13, g14, g15, f16, g17, hP⟩ := hms
      exact bm_Mp (bc_M_signature_n1 l D ct base ad M2 s2 (x + 21) th tr bl np (nI K) f1 f2 f3 f4 g5 g6 f7 g8 g9 g10 g11 g12 g13 g14 g15 f16 g17 a1 a2 hP hv) (fun v M1 H hp _ => ⟨hp.1, ⟨hp.2.1.1, _, _, _, _, _, _, _, hp.2.1.2⟩, hp.2.2⟩)
  · obtain ⟨j, hj, rfl⟩ := bm_bl_in (N := 4) (by decide) hv
    obtain ⟨hk1, hk2⟩ := hkf j hj
    by_cases hw : bm_bl a2 (f3 j) = 0
    ·
      refine ⟨1, 0, (tr, bl, np, K, f1, f2, f3, f4, g5, g6, f7, g8, g9, g10), ⟨K, Nat.le_succ K, rfl⟩, ((bw_L_signature_t1 l D ct base ad M sz x (x + 39) (nI j) a2 _ 1 6 _ s1 (bc_B_signature_t2 l hlt D ct base ad M sz x np tr (f2 0) (f2 1) (f2 2) (f2 3) bl lc j a2 (f1 j) (f3 j) ac s1 s2 (s9 j hj) hac hj hw)).post (bm_PW_t hBS ho (by decide))).wide (by decide) (by decide) (by decide) (by decide) (by decide) (by decide), ?_⟩
      · intro th M2 s2 hms
        obtain ⟨g11, g12, g13, g14, g15, f16, g17, hP⟩ := hms
        exact bm_Mp (bc_M_signature_n2 l D ct base ad M2 s2 (x + 21) th tr bl np (nI K) f1 f2 f3 f4 g5 g6 f7 g8 g9 g10 g11 g12 g13 g14 g15 f16 g17 j a2 hP hj hw) (fun v M1 H hp _ => ⟨hp.1, ⟨hp.2.1.1, _, _, _, _, _, _, _, hp.2.1.2⟩, hp.2.2⟩)
    · obtain ⟨i, hi, rfl⟩ := bm_bl_in (N := kf j) (by omega) (by rw [← hk1]; exact hw)
      have hw1 : bm_bl (nI i) (f3 j) = 1 := bm_bl_01 hw
      have hi8 : i < 8 := by omega
      refine ⟨0, (g6 (8 * j + i)), (tr, bl, np, K, f1, f2, f3, f4, g5, g6, f7, g8, g9, g10), ⟨K, Nat.le_succ K, rfl⟩, ((bw_L_signature_ok l D ct base ad M sz x (x + 39) (nI j) (nI i) _ 0 0 w _ s1 (bc_B_signature_ok l D ct base ad M sz x np tr (f2 0) (f2 1) (f2 2) (f2 3) bl lc j i (co (8 * j + i)) (co (8 * j + i) + 1) (co (8 * j + i) + 2) (f1 j) (f3 j) (f4 (8 * j + i)) (f7 (8 * j + i)) (g5 (8 * j + i)) (g6 (8 * j + i)) ac (wf j) s1 s2 (s9 j hj) (s10 j hj) (d2 j i hj hi).2.1 hac hj hi8 hw1 (d1 j i hj hi)) (fun r M1 n9 hp => ⟨_, hp.1, by rw [hp.2.1]; exact ho⟩)).post (bm_PW_l hBS)).wide (by decide) (by decide) (by decide) (by decide) (by decide) (by decide), ?_⟩
      · intro th M2 s2 hms
        obtain ⟨g11, g12, g13, g14, g15, f16, g17, hP⟩ := hms
        exact bm_Mp (bc_M_signature_ok l D ct base ad M2 s2 (x + 21) th tr bl np (nI K) f1 f2 f3 f4 g5 g6 f7 g8 g9 g10 g11 g12 g13 g14 g15 f16 g17 j i hP hj hi8 hw1) (fun v M1 H hp _ => ⟨hp.1, ⟨hp.2.1.1, _, _, _, _, _, _, _, hp.2.1.2⟩, hp.2.2⟩)
set_option maxHeartbeats 2000000 in
theorem bo_choose (l : Launch) (hlt : l.stackTraces = false) (D : va_G) (ct : Nat → ClassId) (base : Nat) (ad : Nat → Nat) (M : bm_Map) (sz x : Nat) (a1 : Int32) (a2 : Int32) (tr : Int32) (bl : Int64) (np : Int32) (K : Nat) (f1 f2 f3 f4 : Nat → Int32) (g5 g6 : Nat → Int64) (f7 : Nat → Int32) (g8 g9 g10 : Nat → Int64) (w : Nat → Int64) (hH : ∃ H : Heap, bm_M D base M H ∧ H.size = sz) (hB : bm_BD ct x K tr bl np f1 f2 f3 f4 g5 g6 f7 g8 g9 g10 M) (ho : M (x + 39) = some (.inl (ct 1, 1, .inr (.inl w)))) (hK512 : K < 512) :
    ∃ (k : Int32) (b : Int32) (t1 : bm_St), (∃ K1, K1 ≤ K + 1 ∧ t1.2.2.2.1 = K1) ∧ bm_MG l yL_choose (bm_wl yL_choose cL_choose 5 (some .int) [(0, 10, 13, 13), (0, 10, 17, 21)]) { frames := 7, cells := 1, slots := 6, locals := 109 } (bm_Pre D ct base ad M sz [.ref x, .int a1, .int a2, .ref (x + 39)]) (bm_Post D base (bm_PW ct x k b.toInt64 t1 M)) 1 6 (bm_A base) ∧
      ∀ (th : Int32) (M2 : bm_Map) (s2 : Nat), bm_MS ct (x + 21) th (tr, bl, np, K, f1, f2, f3, f4, g5, g6, f7, g8, g9, g10) M2 → Met l yM_choose (bm_ws yM_choose cM_choose 9 (some .int)) { frames := 1, cells := 0, slots := 0, locals := 21 } (bm_Pre D ct base ad M2 s2 [.ref (x + 21), .int a1, .int a2]) (bm_Post D base (bm_Pm (x + 21) M2 s2 (fun v M1 => v = some (.int b) ∧ bm_MS ct (x + 21) k t1 M1))) 0 0 (bm_A base) := by
  have hBS : bm_BS ct x (tr, bl, np, K, f1, f2, f3, f4, g5, g6, f7, g8, g9, g10) M := hB
  obtain ⟨kf, n, wf, pw, lc, co, pa, L, hkf, ⟨hnp, hn20⟩, hdc, hsta, hdyn⟩ := id hB
  obtain ⟨s1, ⟨ac, s2, hac⟩, ⟨fo, so, s3⟩, ⟨cf, s4, hcf⟩, ⟨pt, s5⟩, ⟨vA, vC, vE, vB, vX, vY, vP, s6⟩, s7, ⟨h, s8⟩, s9, s10⟩ := id hsta
  obtain ⟨⟨d1, d2, d3⟩, ⟨p1, p2, p3⟩, hcre⟩ := id hdyn
  by_cases hv : bm_bl a1 4 = 0
  ·
    refine ⟨1, 0, (tr, bl, np, K, f1, f2, f3, f4, g5, g6, f7, g8, g9, g10), ⟨K, Nat.le_succ K, rfl⟩, ((bw_L_choose_t1 l D ct base ad M sz x (x + 39) a1 a2 _ 1 6 _ s1 (bc_B_choose_t1 l hlt D ct base ad M sz x np tr (f2 0) (f2 1) (f2 2) (f2 3) bl lc a1 a2 s1 hv)).post (bm_PW_t hBS ho (by decide))).wide (by decide) (by decide) (by decide) (by decide) (by decide) (by decide), ?_⟩
    · intro th M2 s2 hms
      obtain ⟨g11, g12, g13, g14, g15, f16, g17, hP⟩ := hms
      exact bm_Mp (bc_M_choose_n1 l D ct base ad M2 s2 (x + 21) th tr bl np (nI K) f1 f2 f3 f4 g5 g6 f7 g8 g9 g10 g11 g12 g13 g14 g15 f16 g17 a1 a2 hP hv) (fun v M1 H hp _ => ⟨hp.1, ⟨hp.2.1.1, _, _, _, _, _, _, _, hp.2.1.2⟩, hp.2.2⟩)
  · obtain ⟨j, hj, rfl⟩ := bm_bl_in (N := 4) (by decide) hv
    by_cases hw : 1 ≤ a2
    · obtain ⟨hk1, hk2⟩ := hkf j hj
      have s9j := s9 j hj
      rw [hk1] at s9j
      by_cases hend : (bm_cz f4 f7 j (kf j) a2).2 = 0
      ·
        refine ⟨0, ((bm_cz f4 f7 j (kf j) a2).1), (tr, bl, np, K, f1, f2, f3, f4, g5, g6, f7, g8, g9, g10), ⟨K, Nat.le_succ K, rfl⟩, ((bw_L_choose_ok l D ct base ad M sz x (x + 39) (nI j) a2 _ 0 0 w _ s1 (bc_B_choose_ok l D ct base ad M sz x np tr (f2 0) (f2 1) (f2 2) (f2 3) bl lc j (kf j) a2 (f1 j) ac (wf j) (fun i => co (8 * j + i)) (fun i => co (8 * j + i) + 1) (fun i => co (8 * j + i) + 2) f4 f7 (fun i => g5 (8 * j + i)) (fun i => g6 (8 * j + i)) s1 s2 s9j (s10 j hj) hac hj hw hk2 (fun i hi => d1 j i hj hi) (fun i hi => (d2 j i hj hi).2.1) hend) (fun r M1 n9 hp => ⟨_, hp.1, by rw [hp.2.1]; exact ho⟩)).post (bm_PW_i hBS)).wide (by decide) (by decide) (by decide) (by decide) (by decide) (by decide), ?_⟩
        · intro th M2 s2 hms
          obtain ⟨g11, g12, g13, g14, g15, f16, g17, hP⟩ := hms
          exact bm_Mp (bc_M_choose_ok l D ct base ad M2 s2 (x + 21) th tr bl np (nI K) f1 f2 f3 f4 g5 g6 f7 g8 g9 g10 g11 g12 g13 g14 g15 f16 g17 j (kf j) a2 hP hj hw hk1 hk2 ((bm_cz_end hw).mp hend)) (fun v M1 H hp _ => ⟨hp.1, ⟨hp.2.1.1, _, _, _, _, _, _, _, hp.2.1.2⟩, hp.2.2⟩)
      ·
        refine ⟨2, 0, (tr, bl, np, K, f1, f2, f3, f4, g5, g6, f7, g8, g9, g10), ⟨K, Nat.le_succ K, rfl⟩, ((bw_L_choose_t2 l D ct base ad M sz x (x + 39) (nI j) a2 _ 1 6 _ s1 (bc_B_choose_t3 l hlt D ct base ad M sz x np tr (f2 0) (f2 1) (f2 2) (f2 3) bl lc j (kf j) a2 (f1 j) ac (wf j) (fun i => co (8 * j + i)) (fun i => co (8 * j + i) + 1) (fun i => co (8 * j + i) + 2) f4 f7 (fun i => g5 (8 * j + i)) (fun i => g6 (8 * j + i)) s1 s2 s9j (s10 j hj) hac hj hw hk2 (fun i hi => d1 j i hj hi) (fun i hi => (d2 j i hj hi).2.1) hend)).post (bm_PW_t hBS ho (by decide))).wide (by decide) (by decide) (by decide) (by decide) (by decide) (by decide), ?_⟩
        · intro th M2 s2 hms
          obtain ⟨g11, g12, g13, g14, g15, f16, g17, hP⟩ := hms
          exact bm_Mp (bc_M_choose_q l D ct base ad M2 s2 (x + 21) th tr bl np (nI K) f1 f2 f3 f4 g5 g6 f7 g8 g9 g10 g11 g12 g13 g14 g15 f16 g17 j (kf j) a2 hP hj hw hk1 hk2 (fun z => hend ((bm_cz_end hw).mpr z))) (fun v M1 H hp _ => ⟨hp.1, ⟨hp.2.1.1, _, _, _, _, _, _, _, hp.2.1.2⟩, hp.2.2⟩)
    ·
      refine ⟨1, 0, (tr, bl, np, K, f1, f2, f3, f4, g5, g6, f7, g8, g9, g10), ⟨K, Nat.le_succ K, rfl⟩, ((bw_L_choose_t1 l D ct base ad M sz x (x + 39) (nI j) a2 _ 1 6 _ s1 (bc_B_choose_t2 l hlt D ct base ad M sz x np tr (f2 0) (f2 1) (f2 2) (f2 3) bl lc j a2 s1 hj hw)).post (bm_PW_t hBS ho (by decide))).wide (by decide) (by decide) (by decide) (by decide) (by decide) (by decide), ?_⟩
      · intro th M2 s2 hms
        obtain ⟨g11, g12, g13, g14, g15, f16, g17, hP⟩ := hms
        exact bm_Mp (bc_M_choose_n2 l D ct base ad M2 s2 (x + 21) th tr bl np (nI K) f1 f2 f3 f4 g5 g6 f7 g8 g9 g10 g11 g12 g13 g14 g15 f16 g17 j a2 hP hj hw) (fun v M1 H hp _ => ⟨hp.1, ⟨hp.2.1.1, _, _, _, _, _, _, _, hp.2.1.2⟩, hp.2.2⟩)
