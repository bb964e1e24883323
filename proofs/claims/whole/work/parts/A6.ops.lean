set_option maxHeartbeats 2000000 in
theorem bo_tamper (l : Launch) (hlt : l.stackTraces = false) (D : va_G) (ct : Nat → ClassId) (base : Nat) (ad : Nat → Nat) (M : bm_Map) (sz x : Nat) (a1 : Int32) (a2 : Int32) (a3 : Int64) (tr : Int32) (bl : Int64) (np : Int32) (K : Nat) (f1 f2 f3 f4 : Nat → Int32) (g5 g6 : Nat → Int64) (f7 : Nat → Int32) (g8 g9 g10 : Nat → Int64) (w : Nat → Int64) (hH : ∃ H : Heap, bm_M D base M H ∧ H.size = sz) (hB : bm_BD ct x K tr bl np f1 f2 f3 f4 g5 g6 f7 g8 g9 g10 M) (ho : M (x + 39) = some (.inl (ct 1, 1, .inr (.inl w)))) (hK512 : K < 512) :
    ∃ (k : Int32) (b : Int64) (t1 : bm_St), (∃ K1, K1 ≤ K + 1 ∧ t1.2.2.2.1 = K1) ∧ bm_MG l yL_tamper (bm_wl yL_tamper cL_tamper 7 (some .int) [(0, 11, 14, 13)]) { frames := 7, cells := 1, slots := 6, locals := 106 } (bm_Pre D ct base ad M sz [.ref x, .int a1, .int a2, .long a3, .ref (x + 39)]) (bm_Post D base (bm_PW ct x k b t1 M)) 1 6 (bm_A base) ∧
      ∀ (th : Int32) (M2 : bm_Map) (s2 : Nat), bm_MS ct (x + 21) th (tr, bl, np, K, f1, f2, f3, f4, g5, g6, f7, g8, g9, g10) M2 → Met l yM_tamper (bm_ws yM_tamper cM_tamper 5 (some .long)) { frames := 2, cells := 0, slots := 0, locals := 43 } (bm_Pre D ct base ad M2 s2 [.ref (x + 21), .int a1, .int a2, .long a3]) (bm_Post D base (bm_Pm (x + 21) M2 s2 (fun v M1 => v = some (.long b) ∧ bm_MS ct (x + 21) k t1 M1))) 0 0 (bm_A base) := by
  have hBS : bm_BS ct x (tr, bl, np, K, f1, f2, f3, f4, g5, g6, f7, g8, g9, g10) M := hB
  obtain ⟨kf, n, wf, pw, lc, co, pa, L, hkf, ⟨hnp, hn20⟩, hdc, hsta, hdyn⟩ := id hB
  obtain ⟨s1, ⟨ac, s2, hac⟩, ⟨fo, so, s3⟩, ⟨cf, s4, hcf⟩, ⟨pt, s5⟩, ⟨vA, vC, vE, vB, vX, vY, vP, s6⟩, s7, ⟨h, s8⟩, s9, s10⟩ := id hsta
  obtain ⟨⟨d1, d2, d3⟩, ⟨p1, p2, p3⟩, hcre⟩ := id hdyn
  by_cases hv : bm_bl a1 np = 0
  ·
    refine ⟨1, 0, (tr, bl, np, K, f1, f2, f3, f4, g5, g6, f7, g8, g9, g10), ⟨K, Nat.le_succ K, rfl⟩, ((bw_L_tamper_t1 l D ct base ad M sz x (x + 39) a1 a2 a3 _ 1 6 _ s1 (bc_B_tamper_t1 l hlt D ct base ad M sz x np tr (f2 0) (f2 1) (f2 2) (f2 3) bl lc a1 a2 a3 s1 hv)).post (bm_PW_t hBS ho (by decide))).wide (by decide) (by decide) (by decide) (by decide) (by decide) (by decide), ?_⟩
    · intro th M2 s2 hms
      obtain ⟨g11, g12, g13, g14, g15, f16, g17, hP⟩ := hms
      exact bm_Mp (bc_M_tamper_n1 l D ct base ad M2 s2 (x + 21) th tr bl np (nI K) f1 f2 f3 f4 g5 g6 f7 g8 g9 g10 g11 g12 g13 g14 g15 f16 g17 a1 a2 a3 hP hv) (fun v M1 H hp _ => ⟨hp.1, ⟨hp.2.1.1, _, _, _, _, _, _, _, hp.2.1.2⟩, hp.2.2⟩)
  · obtain ⟨q, hq, rfl⟩ := bm_bl_in (N := n) (by omega) (by rw [← hnp]; exact hv)
    have hv1 : bm_bl (nI q) np = 1 := bm_bl_01 hv
    have hq20 : q < 20 := by omega
    by_cases hw : bm_bl a2 16 = 0
    ·
      refine ⟨1, 0, (tr, bl, np, K, f1, f2, f3, f4, g5, g6, f7, g8, g9, g10), ⟨K, Nat.le_succ K, rfl⟩, ((bw_L_tamper_t1 l D ct base ad M sz x (x + 39) (nI q) a2 a3 _ 1 6 _ s1 (bc_B_tamper_t2 l hlt D ct base ad M sz x np tr (f2 0) (f2 1) (f2 2) (f2 3) bl lc q (pa q) a2 pw a3 s1 s7 hq20 hv1 (p1 q hq) hw)).post (bm_PW_t hBS ho (by decide))).wide (by decide) (by decide) (by decide) (by decide) (by decide) (by decide), ?_⟩
      · intro th M2 s2 hms
        obtain ⟨g11, g12, g13, g14, g15, f16, g17, hP⟩ := hms
        exact bm_Mp (bc_M_tamper_n2 l D ct base ad M2 s2 (x + 21) th tr bl np (nI K) f1 f2 f3 f4 g5 g6 f7 g8 g9 g10 g11 g12 g13 g14 g15 f16 g17 (nI q) a2 a3 hP hv1 hw) (fun v M1 H hp _ => ⟨hp.1, ⟨hp.2.1.1, _, _, _, _, _, _, _, hp.2.1.2⟩, hp.2.2⟩)
    · obtain ⟨i, hi, rfl⟩ := bm_bl_in (N := 16) (by decide) hw
      obtain ⟨u1, u2, F, u3, u4⟩ := p2 q hq
      have hC := bc_B_tamper_ok l D ct base ad M sz x np tr (f2 0) (f2 1) (f2 2) (f2 3) bl lc q (pa q) (pa q + 1) i pw F a3 s1 s7 u2 u3 hq20 hv1 (p1 q hq) hi (by omega) (by omega) (by omega)
      rw [u4 i hi] at hC
      refine ⟨0, g9 (16 * q + i) ^^^ a3, (tr, bl, np, K, f1, f2, f3, f4, g5, g6, f7, g8, vp_updL g9 (16 * q + i) (g9 (16 * q + i) ^^^ a3), g10), ⟨K, Nat.le_succ K, rfl⟩, ((bw_L_tamper_ok l D ct base ad M sz x (x + 39) (nI q) (nI i) a3 _ 0 0 w _ s1 hC (fun r M1 n9 hp => ⟨_, hp.1, by rw [hp.2.1, bm_up_ne (by omega)]; exact ho⟩)).post (fun v M1 H hp _ => ?_)).wide (by decide) (by decide) (by decide) (by decide) (by decide) (by decide), ?_⟩
      · obtain ⟨hr, i9, M9, ⟨hi9, rfl, -⟩, hM1⟩ := hp
        cases hi9
        exact bm_PW_g hr (bm_BS.mk ⟨kf, n, wf, pw, lc, co, pa, L, hkf, ⟨hnp, hn20⟩, hdc, hsta.kept (fun c _ _ => bm_up_ne (by omega)), bm_dyn_tamper hdyn hq hi u3 u4 _⟩) (fun c _ _ => bm_up_ne (by omega)) hM1
      · intro th M2 s2 hms
        obtain ⟨g11, g12, g13, g14, g15, f16, g17, hP⟩ := hms
        exact bm_Mp (bc_M_tamper_ok l D ct base ad M2 s2 (x + 21) th tr bl np (nI K) f1 f2 f3 f4 g5 g6 f7 g8 g9 g10 g11 g12 g13 g14 g15 f16 g17 q i a3 hP hq20 hi hv1) (fun v M1 H hp _ => ⟨hp.1, ⟨hp.2.1.1, _, _, _, _, _, _, _, hp.2.1.2⟩, hp.2.2⟩)
set_option maxHeartbeats 2000000 in
theorem bo_spend (l : Launch) (hlt : l.stackTraces = false) (D : va_G) (ct : Nat → ClassId) (base : Nat) (ad : Nat → Nat) (M : bm_Map) (sz x : Nat) (a1 : Int32) (a2 : Int32) (a3 : Int32) (a4 : Int32) (tr : Int32) (bl : Int64) (np : Int32) (K : Nat) (f1 f2 f3 f4 : Nat → Int32) (g5 g6 : Nat → Int64) (f7 : Nat → Int32) (g8 g9 g10 : Nat → Int64) (w : Nat → Int64) (hH : ∃ H : Heap, bm_M D base M H ∧ H.size = sz) (hB : bm_BD ct x K tr bl np f1 f2 f3 f4 g5 g6 f7 g8 g9 g10 M) (ho : M (x + 39) = some (.inl (ct 1, 1, .inr (.inl w)))) (hK512 : K < 512) :
    ∃ (k : Int32) (b : Int32) (t1 : bm_St), (∃ K1, K1 ≤ K + 1 ∧ t1.2.2.2.1 = K1) ∧ bm_MG l yL_spend (bm_wl yL_spend cL_spend 7 (some .int) [(0, 14, 17, 13), (0, 14, 21, 15)]) { frames := 7, cells := 2, slots := 17, locals := 112 } (bm_Pre D ct base ad M sz [.ref x, .int a1, .int a2, .int a3, .int a4, .ref (x + 39)]) (bm_Post D base (bm_PW ct x k b.toInt64 t1 M)) 2 17 (bm_A base) ∧
      ∀ (th : Int32) (M2 : bm_Map) (s2 : Nat), bm_MS ct (x + 21) th (tr, bl, np, K, f1, f2, f3, f4, g5, g6, f7, g8, g9, g10) M2 → Met l yM_spend (bm_ws yM_spend cM_spend 14 (some .int)) { frames := 2, cells := 0, slots := 0, locals := 50 } (bm_Pre D ct base ad M2 s2 [.ref (x + 21), .int a1, .int a2, .int a3, .int a4]) (bm_Post D base (bm_Pm (x + 21) M2 s2 (fun v M1 => v = some (.int b) ∧ bm_MS ct (x + 21) k t1 M1))) 0 0 (bm_A base) := by
  have hBS : bm_BS ct x (tr, bl, np, K, f1, f2, f3, f4, g5, g6, f7, g8, g9, g10) M := hB
  obtain ⟨kf, n, wf, pw, lc, co, pa, L, hkf, ⟨hnp, hn20⟩, hdc, hsta, hdyn⟩ := id hB
  obtain ⟨s1, ⟨ac, s2, hac⟩, ⟨fo, so, s3⟩, ⟨cf, s4, hcf⟩, ⟨pt, s5⟩, ⟨vA, vC, vE, vB, vX, vY, vP, s6⟩, s7, ⟨h, s8⟩, s9, s10⟩ := id hsta
  obtain ⟨⟨d1, d2, d3⟩, ⟨p1, p2, p3⟩, hcre⟩ := id hdyn
  obtain ⟨H0, hM0, hz0⟩ := hH
  have hlt9 : ∀ b e, M b = some e → b < sz := fun b e hb => hz0 ▸ hM0.lt hb
  have hxz : x + 40 ≤ sz := hlt9 _ _ ho
  by_cases hv : bm_bl a1 4 = 0
  ·
    refine ⟨1, 0, (tr, bl, np, K, f1, f2, f3, f4, g5, g6, f7, g8, g9, g10), ⟨K, Nat.le_succ K, rfl⟩, ((bw_L_spend_t1 l D ct base ad M sz x (x + 39) a1 a2 a3 a4 _ 1 6 _ s1 (bc_B_spend_t1 l hlt D ct base ad M sz x np tr (f2 0) (f2 1) (f2 2) (f2 3) bl lc a1 a2 a3 a4 s1 hv)).post (bm_PW_t hBS ho (by decide))).wide (by decide) (by decide) (by decide) (by decide) (by decide) (by decide), ?_⟩
    · intro th M2 s2 hms
      obtain ⟨g11, g12, g13, g14, g15, f16, g17, hP⟩ := hms
      exact bm_Mp (bc_M_spend_n1 l D ct base ad M2 s2 (x + 21) th tr bl np (nI K) f1 f2 f3 f4 g5 g6 f7 g8 g9 g10 g11 g12 g13 g14 g15 f16 g17 a1 a2 a3 a4 hP hv) (fun v M1 H hp _ => ⟨hp.1, ⟨hp.2.1.1, _, _, _, _, _, _, _, hp.2.1.2⟩, hp.2.2⟩)
  · obtain ⟨j, hj, rfl⟩ := bm_bl_in (N := 4) (by decide) hv
    obtain ⟨hk1, hk2⟩ := hkf j hj
    by_cases hw : bm_bl a2 (f3 j) = 0
    ·
      refine ⟨1, 0, (tr, bl, np, K, f1, f2, f3, f4, g5, g6, f7, g8, g9, g10), ⟨K, Nat.le_succ K, rfl⟩, ((bw_L_spend_t1 l D ct base ad M sz x (x + 39) (nI j) a2 a3 a4 _ 1 6 _ s1 (bc_B_spend_t2 l hlt D ct base ad M sz x np tr (f2 0) (f2 1) (f2 2) (f2 3) bl lc j a2 (f1 j) (f3 j) ac a3 a4 s1 s2 (s9 j hj) hac hj hw)).post (bm_PW_t hBS ho (by decide))).wide (by decide) (by decide) (by decide) (by decide) (by decide) (by decide), ?_⟩
      · intro th M2 s2 hms
        obtain ⟨g11, g12, g13, g14, g15, f16, g17, hP⟩ := hms
        exact bm_Mp (bc_M_spend_n2 l D ct base ad M2 s2 (x + 21) th tr bl np (nI K) f1 f2 f3 f4 g5 g6 f7 g8 g9 g10 g11 g12 g13 g14 g15 f16 g17 j a2 a3 a4 hP hj hw) (fun v M1 H hp _ => ⟨hp.1, ⟨hp.2.1.1, _, _, _, _, _, _, _, hp.2.1.2⟩, hp.2.2⟩)
    · obtain ⟨i, hi, rfl⟩ := bm_bl_in (N := kf j) (by omega) (by rw [← hk1]; exact hw)
      have hw1 : bm_bl (nI i) (f3 j) = 1 := bm_bl_01 hw
      have hi8 : i < 8 := by omega
      obtain ⟨c1, c2, ⟨F1, c3, c4⟩, F0, c5, c6⟩ := d2 j i hj hi
      by_cases hfull : n = 20
      · have s1f := s1
        rw [hnp, hfull, show nI 20 = 20 from by decide] at s1f
        refine ⟨2, 0, (tr, bl, np, K, f1, f2, f3, f4, g5, g6, f7, g8, g9, g10), ⟨K, Nat.le_succ K, rfl⟩, ((bw_L_spend_t2 l D ct base ad M sz x (x + 39) (nI j) (nI i) a3 a4 _ 1 6 _ s1 (bc_B_spend_t3 l hlt D ct base ad M sz x tr (f2 0) (f2 1) (f2 2) (f2 3) bl lc j i (co (8 * j + i)) (f1 j) (f3 j) a3 a4 ac (wf j) s1f s2 (s9 j hj) (s10 j hj) hac hj hi8 hw1 (d1 j i hj hi))).post (bm_PW_t hBS ho (by decide))).wide (by decide) (by decide) (by decide) (by decide) (by decide) (by decide), ?_⟩
        · intro th M2 s2 hms
          obtain ⟨g11, g12, g13, g14, g15, f16, g17, hP⟩ := hms
          exact bm_Mp (bc_M_spend_q l D ct base ad M2 s2 (x + 21) th tr bl np (nI K) f1 f2 f3 f4 g5 g6 f7 g8 g9 g10 g11 g12 g13 g14 g15 f16 g17 j i a3 a4 hP hj hi8 hw1 (by rw [hnp, hfull]; decide)) (fun v M1 H hp _ => ⟨hp.1, ⟨hp.2.1.1, _, _, _, _, _, _, _, hp.2.1.2⟩, hp.2.2⟩)
      · have hn : n < 20 := by omega
        have s1n := s1
        rw [hnp] at s1n
        refine ⟨0, nI n, (tr, bl, nI (n + 1), K, f1, f2, f3, f4, g5, g6, upd f7 (8 * j + i) 1, g8, bm_sr g8 (8 * j + i) n (bm_h3 a3.toInt64 a4.toInt64 (g6 (8 * j + i))) (bm_s0 g9 n (f4 (8 * j + i)).toInt64 (g6 (8 * j + i)) a3.toInt64 a4.toInt64) 4, g10), ⟨K, Nat.le_succ K, rfl⟩, ((bw_L_spend_ok l D ct base ad M sz x (x + 39) (nI j) (nI i) a3 a4 _ 2 17 w _ s1 (bc_B_spend_ok l D ct base ad M sz x tr (f2 0) (f2 1) (f2 2) (f2 3) bl lc j i (co (8 * j + i)) (co (8 * j + i) + 1) (co (8 * j + i) + 2) n (f1 j) (f3 j) (f4 (8 * j + i)) (f7 (8 * j + i)) a3 a4 (g5 (8 * j + i)) (g6 (8 * j + i)) ac (wf j) pw F1 F0 s1n s2 (s9 j hj) (s10 j hj) c2 c3 c5 s7 hac hj hi8 hw1 (d1 j i hj hi) hn) (fun r M1 n9 hp => ⟨_, hp.1, (hp.2.2.2.2.2.2 (x + 39) (by omega) (by omega) (by omega) (by omega)).trans ho⟩)).post (fun v M1 H hp _ => ?_)).wide (by decide) (by decide) (by decide) (by decide) (by decide) (by decide), ?_⟩
        · obtain ⟨hr, i9, M9, ⟨hi9, m1, m2, m3, m4, m5, hfr⟩, hM1⟩ := hp
          cases hi9
          refine bm_PW_g hr (bm_BS.mk ⟨kf, n + 1, wf, va_up pw n (some sz), lc, co, (fun p => if p = n then sz else pa p), L, hkf, ⟨rfl, by omega⟩, hdc, bm_sta_sp hsta m1 m5 (fun c q1 q2 q3 => hfr c (by omega) q3 (by omega) (by omega)), bm_dyn_spend hdyn hj hi hxz hlt9 m2 m3 m4 hfr (fun k hk => ?_) (fun k hk => (bm_sr_lo hk 4).trans (bm_s0_lo hk))⟩) (fun c q1 q2 => hfr c (by omega) (by omega) (by omega) (by omega)) hM1
          exact bm_pn_sr c4 c6 (fun _ _ => rfl) (fun _ _ => rfl) (fun _ _ => rfl) (fun _ _ => rfl) (fun _ _ => rfl) (fun _ _ => rfl) bm_p4_s0 4 (Nat.le_refl _) k (by omega)
        · intro th M2 s2 hms
          obtain ⟨g11, g12, g13, g14, g15, f16, g17, hP⟩ := hms
          exact bm_Mp (bc_M_spend_ok l D ct base ad M2 s2 (x + 21) th tr bl np (nI K) f1 f2 f3 f4 g5 g6 f7 g8 g9 g10 g11 g12 g13 g14 g15 f16 g17 j i a3 a4 n hP hj hi8 hw1 hnp hn) (fun v M1 H hp _ => by
            have h9 := hp.2.1.2
            rw [show np + 1 = nI (n + 1) from by rw [hnp]; exact nI_add n 1, show vp_nar .boolean 1 = 1 from by decide] at h9
            exact ⟨hp.1, ⟨hp.2.1.1, _, _, _, _, _, _, _, h9⟩, hp.2.2⟩)
set_option maxHeartbeats 2000000 in
theorem bo_withdraw (l : Launch) (hlt : l.stackTraces = false) (D : va_G) (ct : Nat → ClassId) (base : Nat) (ad : Nat → Nat) (M : bm_Map) (sz x : Nat) (a1 : Int32) (a2 : Int32) (a3 : Int64) (a4 : Int32) (tr : Int32) (bl : Int64) (np : Int32) (K : Nat) (f1 f2 f3 f4 : Nat → Int32) (g5 g6 : Nat → Int64) (f7 : Nat → Int32) (g8 g9 g10 : Nat → Int64) (w : Nat → Int64) (hH : ∃ H : Heap, bm_M D base M H ∧ H.size = sz) (hB : bm_BD ct x K tr bl np f1 f2 f3 f4 g5 g6 f7 g8 g9 g10 M) (ho : M (x + 39) = some (.inl (ct 1, 1, .inr (.inl w)))) (hK512 : K < 512) :
    ∃ (k : Int32) (b : Int32) (t1 : bm_St), (∃ K1, K1 ≤ K + 1 ∧ t1.2.2.2.1 = K1) ∧ bm_MG l yL_withdraw (bm_wl yL_withdraw cL_withdraw 8 (some .int) [(0, 14, 17, 13), (0, 14, 21, 15)]) { frames := 7, cells := 3, slots := 30, locals := 187 } (bm_Pre D ct base ad M sz [.ref x, .int a1, .int a2, .long a3, .int a4, .ref (x + 39)]) (bm_Post D base (bm_PW ct x k b.toInt64 t1 M)) 3 30 (bm_A base) ∧
      ∀ (th : Int32) (M2 : bm_Map) (s2 : Nat), bm_MS ct (x + 21) th (tr, bl, np, K, f1, f2, f3, f4, g5, g6, f7, g8, g9, g10) M2 → Met l yM_withdraw (bm_ws yM_withdraw cM_withdraw 10 (some .int)) { frames := 3, cells := 0, slots := 0, locals := 93 } (bm_Pre D ct base ad M2 s2 [.ref (x + 21), .int a1, .int a2, .long a3, .int a4]) (bm_Post D base (bm_Pm (x + 21) M2 s2 (fun v M1 => v = some (.int b) ∧ bm_MS ct (x + 21) k t1 M1))) 0 0 (bm_A base) := by
  have hBS : bm_BS ct x (tr, bl, np, K, f1, f2, f3, f4, g5, g6, f7, g8, g9, g10) M := hB
  obtain ⟨kf, n, wf, pw, lc, co, pa, L, hkf, ⟨hnp, hn20⟩, hdc, hsta, hdyn⟩ := id hB
  obtain ⟨s1, ⟨ac, s2, hac⟩, ⟨fo, so, s3⟩, ⟨cf, s4, hcf⟩, ⟨pt, s5⟩, ⟨vA, vC, vE, vB, vX, vY, vP, s6⟩, s7, ⟨h, s8⟩, s9, s10⟩ := id hsta
  obtain ⟨⟨d1, d2, d3⟩, ⟨p1, p2, p3⟩, hcre⟩ := id hdyn
  obtain ⟨H0, hM0, hz0⟩ := hH
  have hlt9 : ∀ b e, M b = some e → b < sz := fun b e hb => hz0 ▸ hM0.lt hb
  have hxz : x + 40 ≤ sz := hlt9 _ _ ho
  by_cases hv : bm_bl a1 4 = 0
  ·
    refine ⟨1, 0, (tr, bl, np, K, f1, f2, f3, f4, g5, g6, f7, g8, g9, g10), ⟨K, Nat.le_succ K, rfl⟩, ((bw_L_withdraw_t1 l D ct base ad M sz x (x + 39) a1 a2 a3 a4 _ 1 6 _ s1 (bc_B_withdraw_t1 l hlt D ct base ad M sz x np tr (f2 0) (f2 1) (f2 2) (f2 3) bl lc a1 a2 a4 a3 s1 hv)).post (bm_PW_t hBS ho (by decide))).wide (by decide) (by decide) (by decide) (by decide) (by decide) (by decide), ?_⟩
    · intro th M2 s2 hms
      obtain ⟨g11, g12, g13, g14, g15, f16, g17, hP⟩ := hms
      exact bm_Mp (bc_M_withdraw_n1 l D ct base ad M2 s2 (x + 21) th tr bl np (nI K) f1 f2 f3 f4 g5 g6 f7 g8 g9 g10 g11 g12 g13 g14 g15 f16 g17 a1 a2 a3 a4 hP hv) (fun v M1 H hp _ => ⟨hp.1, ⟨hp.2.1.1, _, _, _, _, _, _, _, hp.2.1.2⟩, hp.2.2⟩)
  · obtain ⟨j, hj, rfl⟩ := bm_bl_in (N := 4) (by decide) hv
    by_cases hw : bm_bl a2 3 = 0
    ·
      refine ⟨1, 0, (tr, bl, np, K, f1, f2, f3, f4, g5, g6, f7, g8, g9, g10), ⟨K, Nat.le_succ K, rfl⟩, ((bw_L_withdraw_t1 l D ct base ad M sz x (x + 39) (nI j) a2 a3 a4 _ 1 6 _ s1 (bc_B_withdraw_t2 l hlt D ct base ad M sz x np tr (f2 0) (f2 1) (f2 2) (f2 3) bl lc j a2 a4 a3 s1 hj (bm_bL_i hw))).post (bm_PW_t hBS ho (by decide))).wide (by decide) (by decide) (by decide) (by decide) (by decide) (by decide), ?_⟩
      · intro th M2 s2 hms
        obtain ⟨g11, g12, g13, g14, g15, f16, g17, hP⟩ := hms
        exact bm_Mp (bc_M_withdraw_n2 l D ct base ad M2 s2 (x + 21) th tr bl np (nI K) f1 f2 f3 f4 g5 g6 f7 g8 g9 g10 g11 g12 g13 g14 g15 f16 g17 j a2 a3 a4 hP hj hw) (fun v M1 H hp _ => ⟨hp.1, ⟨hp.2.1.1, _, _, _, _, _, _, _, hp.2.1.2⟩, hp.2.2⟩)
    · obtain ⟨d, hd, rfl⟩ := bm_bl_in (N := 3) (by decide) hw
      by_cases hc : bm_bl a4 64 = 0
      ·
        refine ⟨1, 0, (tr, bl, np, K, f1, f2, f3, f4, g5, g6, f7, g8, g9, g10), ⟨K, Nat.le_succ K, rfl⟩, ((bw_L_withdraw_t1 l D ct base ad M sz x (x + 39) (nI j) (nI d) a3 a4 _ 1 6 _ s1 (bc_B_withdraw_t3 l hlt D ct base ad M sz x np tr (f2 0) (f2 1) (f2 2) (f2 3) bl lc j d a4 a3 s1 hj hd hc)).post (bm_PW_t hBS ho (by decide))).wide (by decide) (by decide) (by decide) (by decide) (by decide) (by decide), ?_⟩
        · intro th M2 s2 hms
          obtain ⟨g11, g12, g13, g14, g15, f16, g17, hP⟩ := hms
          exact bm_Mp (bc_M_withdraw_n3 l D ct base ad M2 s2 (x + 21) th tr bl np (nI K) f1 f2 f3 f4 g5 g6 f7 g8 g9 g10 g11 g12 g13 g14 g15 f16 g17 j d a3 a4 hP hj hd hc) (fun v M1 H hp _ => ⟨hp.1, ⟨hp.2.1.1, _, _, _, _, _, _, _, hp.2.1.2⟩, hp.2.2⟩)
      · have hc1 := bm_bl_01 hc
        by_cases hpoor : f1 j < bm_w d
        ·
          refine ⟨2, 0, (tr, bl, np, K, f1, f2, f3, f4, g5, g6, f7, g8, g9, g10), ⟨K, Nat.le_succ K, rfl⟩, ((bw_L_withdraw_t2 l D ct base ad M sz x (x + 39) (nI j) (nI d) a3 a4 _ 1 6 _ s1 (bc_B_withdraw_t4 l hlt D ct base ad M sz x np tr (f2 0) (f2 1) (f2 2) (f2 3) bl lc j d (f1 j) (f3 j) a4 ac a3 s1 s2 (s9 j hj) hac hj hd hc1 hpoor)).post (bm_PW_t hBS ho (by decide))).wide (by decide) (by decide) (by decide) (by decide) (by decide) (by decide), ?_⟩
          · intro th M2 s2 hms
            obtain ⟨g11, g12, g13, g14, g15, f16, g17, hP⟩ := hms
            exact bm_Mp (bc_M_withdraw_q1 l D ct base ad M2 s2 (x + 21) th tr bl np (nI K) f1 f2 f3 f4 g5 g6 f7 g8 g9 g10 g11 g12 g13 g14 g15 f16 g17 j d a3 a4 hP hj hd hc1 hpoor) (fun v M1 H hp _ => ⟨hp.1, ⟨hp.2.1.1, _, _, _, _, _, _, _, hp.2.1.2⟩, hp.2.2⟩)
        · obtain ⟨hk1, hk2⟩ := hkf j hj
          have s9k := s9 j hj
          rw [hk1] at s9k
          by_cases hfull : kf j = 8
          · rw [hfull] at s9k
            refine ⟨2, 0, (tr, bl, np, K, f1, f2, f3, f4, g5, g6, f7, g8, g9, g10), ⟨K, Nat.le_succ K, rfl⟩, ((bw_L_withdraw_t2 l D ct base ad M sz x (x + 39) (nI j) (nI d) a3 a4 _ 1 6 _ s1 (bc_B_withdraw_t5 l hlt D ct base ad M sz x np tr (f2 0) (f2 1) (f2 2) (f2 3) bl lc j d (f1 j) a4 ac a3 s1 s2 s9k hac hj hd hc1 hpoor)).post (bm_PW_t hBS ho (by decide))).wide (by decide) (by decide) (by decide) (by decide) (by decide) (by decide), ?_⟩
            · intro th M2 s2 hms
              obtain ⟨g11, g12, g13, g14, g15, f16, g17, hP⟩ := hms
              exact bm_Mp (bc_M_withdraw_q2 l D ct base ad M2 s2 (x + 21) th tr bl np (nI K) f1 f2 f3 f4 g5 g6 f7 g8 g9 g10 g11 g12 g13 g14 g15 f16 g17 j d a3 a4 hP hj hd hc1 hpoor (by rw [hk1, hfull]; decide)) (fun v M1 H hp _ => ⟨hp.1, ⟨hp.2.1.1, _, _, _, _, _, _, _, hp.2.1.2⟩, hp.2.2⟩)
          · have hk : kf j < 8 := by omega
            obtain ⟨nt, hnt, ht⟩ : ∃ m, m < 2 ^ 59 ∧ bm_tt (bm_cp a3 j a4) = lN m := bm_end_n _
            have htc : bm_tt (bm_zqp a3 (lN (1000 + j)) a4) = lN nt := by rw [bm_zqp_fun]; exact ht
            by_cases hcau : bm_chb a4 (bm_o1 nt) + bm_chb a4 (bm_o2 nt) = 0
            · obtain ⟨nn, hnn, hnu⟩ : ∃ m, m < 2 ^ 59 ∧ bm_hc (lN d) (fun i => bm_cp a3 j a4 (bm_or (bm_lf0 nt) (bm_cp a3 j a4) i)) = lN m := bm_end_n _
              obtain ⟨r, hr1, hsd⟩ : ∃ m, m < 2 ^ 59 ∧ bm_h2 a3 100 = lN m := bm_end_n _
              refine ⟨0, nI (kf j), (tr, lN (bm_bn d nn (bm_bf d r)), np, K, upd f1 j (f1 j - bm_w d), upd f2 0 (f2 0 + 1), upd f3 j (f3 j + 1), upd f4 (8 * j + kf j) (nI d), vp_updL g5 (8 * j + kf j) (lN nn), vp_updL g6 (8 * j + kf j) (lN (bm_sg d nn)), upd f7 (8 * j + kf j) 0, bm_g8 a3 j a4 (bm_or (bm_lf0 nt) (bm_cp a3 j a4)) (8 * j + kf j) g8, g9, g10), ⟨K, Nat.le_succ K, rfl⟩, ((bw_L_withdraw_ok l D ct base ad M sz x (x + 39) (nI j) (nI d) a3 a4 _ 3 30 w _ s1 (bc_B_withdraw_ok l D ct base ad M sz x np tr (f2 0) (f2 1) (f2 2) (f2 3) bl lc j d (kf j) nt nn r (f1 j) a4 fo so ac (wf j) cf pt h a3 vA vC vE vB vX vY vP s1 s2 s9k (s10 j hj) s8 s3 s4 s5 hac (by omega) s6 hcf hj hd hc1 hk hpoor htc hnt (by rw [bm_nh_chb, bm_nh_chb]; exact hcau) (fun o h1 h2 h3 => (bm_hc_eq (fun i hi => by rw [bm_zqp_cp, bm_oq h1 h2 h3 i hi])).trans hnu) hnn hsd hr1) (fun r M1 n9 hp => ?_)).post (fun v M1 H hp _ => ?_)).wide (by decide) (by decide) (by decide) (by decide) (by decide) (by decide), ?_⟩
              · obtain ⟨hi9, -, wp, o, -, -, -, -, -, -, -, -, -, -, -, -, -, -, hfr⟩ := hp
                exact ⟨_, hi9, (hfr (x + 39) (by omega) (by omega) (by omega) (by omega) (by omega) (by omega)).trans ho⟩
              · obtain ⟨hr, i9, M9, ⟨hi9, -, wp, o, o1, o2, o3, o4, m1, m2, m3, m4, m5, m6, m7, m8, ⟨F1, m9, m10⟩, ⟨F0, m11, m12⟩, hfr⟩, hM1⟩ := hp
                cases hi9
                have hoq := fun i hi => bm_oq o2 o3 o4 i hi
                obtain ⟨hF1, hF0⟩ := bm_wd_F (seed := a3) (a := j) (ch := a4) (q := 8 * j + kf j) (g8 := g8) hoq
                refine bm_PW_g hr (bm_BS.mk ⟨(fun b => if b = j then kf j + 1 else kf b), n, (fun b => if b = j then va_up (wf j) (kf j) (some sz) else wf b), pw, lc, (fun c => if c = 8 * j + kf j then sz else co c), pa, L, fun a ha => ?_, ⟨hnp, hn20⟩, hdc, bm_sta_wd (g1 := upd f1 j (f1 j - bm_w d)) (g2 := upd f2 0 (f2 0 + 1)) (g3 := upd f3 j (f3 j + 1)) hsta hj m1 ⟨_, _, m3⟩ ⟨_, m4⟩ ⟨_, _, _, _, _, _, _, m5⟩ ⟨_, m2⟩ m6 m7 ⟨by simp [upd], fun b hb => by simp [upd, hb]⟩ ⟨by simp only [upd, if_true]; rw [hk1]; exact nI_add _ 1, fun b hb => by simp [upd, hb]⟩ (fun b q1 q2 q3 q4 q5 q6 _ => hfr b q1 q2 q3 q4 q5 (by omega)), bm_dyn_withdraw hdyn hj (fun b hb => (hkf b hb).2) hk hxz hlt9 m8 m9 m11 (fun b q1 q2 => hfr b (by omega) (by omega) (by omega) (by omega) (by omega) q2) (fun t ht => (m10 t ht).trans (hF1 t ht)) (fun t ht => (m12 t ht).trans (hF0 t ht)) (fun i hi => bm_g8_out hi)⟩) (fun c q1 q2 => hfr c (by omega) (by omega) (by omega) (by omega) (by omega) (by omega)) hM1
                obtain ⟨z1, z2⟩ := hkf a ha
                dsimp only
                by_cases z : a = j
                · subst z
                  rw [if_pos rfl]
                  exact ⟨by simp only [upd, if_true]; rw [hk1]; exact nI_add _ 1, by omega⟩
                · rw [if_neg z]
                  exact ⟨by simp only [upd, if_neg z]; exact z1, z2⟩
              · intro th M2 s2 hms
                obtain ⟨g11, g12, g13, g14, g15, f16, g17, hP⟩ := hms
                exact bm_Mp (bc_M_withdraw_ok l D ct base ad M2 s2 (x + 21) th tr bl np (nI K) f1 f2 f3 f4 g5 g6 f7 g8 g9 g10 g11 g12 g13 g14 g15 f16 g17 j d a3 a4 hP hj hd hc1 (kf j) nt hpoor hk1 hk ht hnt hcau (bm_or (bm_lf0 nt) (bm_cp a3 j a4)) (fun i hi => (bm_pick hi).2) (fun i hi => (bm_pick hi).1) nn r hnu hnn hsd hr1) (fun v M1 H hp _ => by
                  obtain ⟨z0, ⟨z1, y8, y11, y12, y13, y14, y15, y16, y17, z2, z3, z4⟩, z5⟩ := hp
                  rw [bm_g8_eq z3 z4] at z2
                  exact ⟨z0, ⟨z1, y11, y12, y13, y14, y15, y16, y17, z2⟩, z5⟩)
            · refine ⟨2, 0, (tr, bl, np, K, upd f1 j (f1 j - 1), upd f2 2 (f2 2 + (bm_chb a4 (bm_o1 nt) + bm_chb a4 (bm_o2 nt))), f3, f4, g5, g6, f7, g8, g9, g10), ⟨K, Nat.le_succ K, rfl⟩, ((bw_L_withdraw_t2 l D ct base ad M sz x (x + 39) (nI j) (nI d) a3 a4 _ 1 6 _ s1 (bc_B_withdraw_t6 l hlt D ct base ad M sz x np tr (f2 0) (f2 1) (f2 2) (f2 3) bl lc j d (kf j) nt (f1 j) a4 fo so ac (wf j) cf pt h a3 vA vC vE vB vX vY vP s1 s2 s9k (s10 j hj) s8 s3 s4 s5 hac (by omega) s6 hcf hj hd hc1 hk hpoor htc hnt (by rw [bm_nh_chb, bm_nh_chb]; exact (bm_chb01 hcau).2))).post (fun v M1 H hp _ => ?_)).wide (by decide) (by decide) (by decide) (by decide) (by decide) (by decide), ?_⟩
              · obtain ⟨hr, -, wp, m1, m2, m3, m4, m5, m6, m7, hfr⟩ := hp
                rw [bm_nh_chb, bm_nh_chb] at m1
                have hwf : (fun b => if b = j then wf j else wf b) = wf := by
                  funext b
                  by_cases z : b = j
                  · subst z; rw [if_pos rfl]
                  · rw [if_neg z]
                have hst := bm_sta_wd (g1 := upd f1 j (f1 j - 1)) (g2 := upd f2 2 (f2 2 + (bm_chb a4 (bm_o1 nt) + bm_chb a4 (bm_o2 nt)))) (g3 := f3) hsta hj m1 ⟨_, _, m2⟩ ⟨_, m3⟩ ⟨_, _, _, _, _, _, _, m4⟩ ⟨_, m7⟩ m5 m6 ⟨by simp [upd], fun b hb => by simp [upd, hb]⟩ ⟨hk1, fun b hb => rfl⟩ (fun b q1 q2 q3 q4 q5 q6 _ => hfr b q1 q2 q3 q4 q5 (by omega))
                rw [hwf] at hst
                exact bm_PW_w hr (by decide) (bm_BS.mk ⟨kf, n, wf, pw, lc, co, pa, L, hkf, ⟨hnp, hn20⟩, hdc, hst, hdyn.ext (fun b e q1 q2 => (hfr b (by omega) (by omega) (by omega) (by omega) (by omega) (hlt9 _ _ q2)).trans q2)⟩) ho (fun c q1 q2 => hfr c (by omega) (by omega) (by omega) (by omega) (by omega) (by omega))
              · intro th M2 s2 hms
                obtain ⟨g11, g12, g13, g14, g15, f16, g17, hP⟩ := hms
                exact bm_Mp (bc_M_withdraw_c l D ct base ad M2 s2 (x + 21) th tr bl np (nI K) f1 f2 f3 f4 g5 g6 f7 g8 g9 g10 g11 g12 g13 g14 g15 f16 g17 j d a3 a4 hP hj hd hc1 (kf j) nt hpoor hk1 hk ht hnt (bm_chb01 hcau).1) (fun v M1 H hp _ => by
                  obtain ⟨z0, ⟨z1, y11, y12, y13, y14, y15, y16, z2⟩, z5⟩ := hp
                  exact ⟨z0, ⟨z1, y11, y12, y13, y14, y15, y16, g17, z2⟩, z5⟩)
