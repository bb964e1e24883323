set_option maxHeartbeats 2000000 in
theorem bo_deposit (l : Launch) (hlt : l.stackTraces = false) (D : va_G) (ct : Nat → ClassId) (base : Nat) (ad : Nat → Nat) (M : bm_Map) (sz x : Nat) (a1 : Int32) (a2 : Int32) (tr : Int32) (bl : Int64) (np : Int32) (K : Nat) (f1 f2 f3 f4 : Nat → Int32) (g5 g6 : Nat → Int64) (f7 : Nat → Int32) (g8 g9 g10 : Nat → Int64) (w : Nat → Int64) (hH : ∃ H : Heap, bm_M D base M H ∧ H.size = sz) (hB : bm_BD ct x K tr bl np f1 f2 f3 f4 g5 g6 f7 g8 g9 g10 M) (ho : M (x + 39) = some (.inl (ct 1, 1, .inr (.inl w)))) (hK512 : K < 512) :
    ∃ (k : Int32) (b : Int32) (t1 : bm_St), (∃ K1, K1 ≤ K + 1 ∧ t1.2.2.2.1 = K1) ∧ bm_MG l yL_deposit (bm_wl yL_deposit cL_deposit 5 (some .int) [(0, 10, 13, 13), (0, 10, 17, 15)]) { frames := 7, cells := 3, slots := 13, locals := 125 } (bm_Pre D ct base ad M sz [.ref x, .int a1, .int a2, .ref (x + 39)]) (bm_Post D base (bm_PW ct x k b.toInt64 t1 M)) 3 13 (bm_A base) ∧
      ∀ (th : Int32) (M2 : bm_Map) (s2 : Nat), bm_MS ct (x + 21) th (tr, bl, np, K, f1, f2, f3, f4, g5, g6, f7, g8, g9, g10) M2 → Met l yM_deposit (bm_ws yM_deposit cM_deposit 6 (some .int)) { frames := 4, cells := 0, slots := 0, locals := 99 } (bm_Pre D ct base ad M2 s2 [.ref (x + 21), .int a1, .int a2]) (bm_Post D base (bm_Pm (x + 21) M2 s2 (fun v M1 => v = some (.int b) ∧ bm_MS ct (x + 21) k t1 M1))) 0 0 (bm_A base) := by
  have hBS : bm_BS ct x (tr, bl, np, K, f1, f2, f3, f4, g5, g6, f7, g8, g9, g10) M := hB
  obtain ⟨kf, n, wf, pw, lc, co, pa, L, hkf, ⟨hnp, hn20⟩, hdc, hsta, hdyn⟩ := id hB
  obtain ⟨s1, ⟨ac, s2, hac⟩, ⟨fo, so, s3⟩, ⟨cf, s4, hcf⟩, ⟨pt, s5⟩, ⟨vA, vC, vE, vB, vX, vY, vP, s6⟩, s7, ⟨h, s8⟩, s9, s10⟩ := id hsta
  obtain ⟨⟨d1, d2, d3⟩, ⟨p1, p2, p3⟩, hcre⟩ := id hdyn
  obtain ⟨H0, hM0, hz0⟩ := hH
  have hlt9 : ∀ b e, M b = some e → b < sz := fun b e hb => hz0 ▸ hM0.lt hb
  have hxz : x + 40 ≤ sz := hlt9 _ _ ho
  by_cases hv : bm_bl a1 np = 0
  · by_cases hw : bm_bl a2 4 = 0
    ·
      refine ⟨1, 0, (tr, bl, np, K, f1, f2, f3, f4, g5, g6, f7, g8, g9, g10), ⟨K, Nat.le_succ K, rfl⟩, ((bw_L_deposit_t1 l D ct base ad M sz x (x + 39) a1 a2 _ 1 6 _ s1 (bc_B_deposit_t1 l hlt D ct base ad M sz x np tr (f2 0) (f2 1) (f2 2) (f2 3) bl lc a1 a2 s1 hv)).post (bm_PW_t hBS ho (by decide))).wide (by decide) (by decide) (by decide) (by decide) (by decide) (by decide), ?_⟩
      · intro th M2 s2 hms
        obtain ⟨g11, g12, g13, g14, g15, f16, g17, hP⟩ := hms
        exact bm_Mp (bc_M_deposit_a l D ct base ad M2 s2 (x + 21) th tr bl np (nI K) f1 f2 f3 f4 g5 g6 f7 g8 g9 g10 g11 g12 g13 g14 g15 f16 g17 a1 a2 hP hw) (fun v M1 H hp _ => ⟨hp.1, ⟨hp.2.1.1, _, _, _, _, _, _, _, hp.2.1.2⟩, hp.2.2⟩)
    · obtain ⟨j, hj, rfl⟩ := bm_bl_in (N := 4) (by decide) hw
      refine ⟨1, 0, (tr, bl, np, K, f1, f2, f3, f4, g5, g6, f7, g8, g9, g10), ⟨K, Nat.le_succ K, rfl⟩, ((bw_L_deposit_t1 l D ct base ad M sz x (x + 39) a1 (nI j) _ 1 6 _ s1 (bc_B_deposit_t1 l hlt D ct base ad M sz x np tr (f2 0) (f2 1) (f2 2) (f2 3) bl lc a1 (nI j) s1 hv)).post (bm_PW_t hBS ho (by decide))).wide (by decide) (by decide) (by decide) (by decide) (by decide) (by decide), ?_⟩
      · intro th M2 s2 hms
        obtain ⟨g11, g12, g13, g14, g15, f16, g17, hP⟩ := hms
        exact bm_Mp (bc_M_deposit_n1 l D ct base ad M2 s2 (x + 21) th tr bl np (nI K) f1 f2 f3 f4 g5 g6 f7 g8 g9 g10 g11 g12 g13 g14 g15 f16 g17 a1 j hP hv hj) (fun v M1 H hp _ => ⟨hp.1, ⟨hp.2.1.1, _, _, _, _, _, _, _, hp.2.1.2⟩, hp.2.2⟩)
  · obtain ⟨q, hq, rfl⟩ := bm_bl_in (N := n) (by omega) (by rw [← hnp]; exact hv)
    have hv1 : bm_bl (nI q) np = 1 := bm_bl_01 hv
    have hq20 : q < 20 := by omega
    by_cases hw : bm_bl a2 4 = 0
    ·
      refine ⟨1, 0, (tr, bl, np, K, f1, f2, f3, f4, g5, g6, f7, g8, g9, g10), ⟨K, Nat.le_succ K, rfl⟩, ((bw_L_deposit_t1 l D ct base ad M sz x (x + 39) (nI q) a2 _ 1 6 _ s1 (bc_B_deposit_t2 l hlt D ct base ad M sz x np tr (f2 0) (f2 1) (f2 2) (f2 3) bl lc q (pa q) a2 pw s1 s7 hq20 hv1 (p1 q hq) hw)).post (bm_PW_t hBS ho (by decide))).wide (by decide) (by decide) (by decide) (by decide) (by decide) (by decide), ?_⟩
      · intro th M2 s2 hms
        obtain ⟨g11, g12, g13, g14, g15, f16, g17, hP⟩ := hms
        exact bm_Mp (bc_M_deposit_a l D ct base ad M2 s2 (x + 21) th tr bl np (nI K) f1 f2 f3 f4 g5 g6 f7 g8 g9 g10 g11 g12 g13 g14 g15 f16 g17 (nI q) a2 hP hw) (fun v M1 H hp _ => ⟨hp.1, ⟨hp.2.1.1, _, _, _, _, _, _, _, hp.2.1.2⟩, hp.2.2⟩)
    · obtain ⟨j, hj, rfl⟩ := bm_bl_in (N := 4) (by decide) hw
      obtain ⟨u1, u2, F, u3, u4⟩ := p2 q hq
      have e0 : F 0 = g9 (16 * q) := u4 0 (by decide)
      by_cases hb : bm_bL (F 0) 3 = 0
      · by_cases hlo : g9 (16 * q) < 0
        ·
          refine ⟨1, 0, (tr, bl, np, K, f1, f2, f3, f4, g5, g6, f7, g8, g9, g10), ⟨K, Nat.le_succ K, rfl⟩, ((bw_L_deposit_t1 l D ct base ad M sz x (x + 39) (nI q) (nI j) _ 1 6 _ s1 (bc_B_deposit_t3 l hlt D ct base ad M sz x np tr (f2 0) (f2 1) (f2 2) (f2 3) bl lc q (pa q) (pa q + 1) j pw F h s1 s7 s8 u2 u3 hq20 hv1 (p1 q hq) hj hb)).post (bm_PW_t hBS ho (by decide))).wide (by decide) (by decide) (by decide) (by decide) (by decide) (by decide), ?_⟩
          · intro th M2 s2 hms
            obtain ⟨g11, g12, g13, g14, g15, f16, g17, hP⟩ := hms
            exact bm_Mp (bc_M_deposit_n2 l D ct base ad M2 s2 (x + 21) th tr bl np (nI K) f1 f2 f3 f4 g5 g6 f7 g8 g9 g10 g11 g12 g13 g14 g15 f16 g17 q j hP hq20 hv1 hlo hj) (fun v M1 H hp _ => ⟨hp.1, ⟨hp.2.1.1, _, _, _, _, _, _, _, hp.2.1.2⟩, hp.2.2⟩)
        · have hhi : 2 < g9 (16 * q) := bm_lt2 ((bm_bL_or (e0 ▸ hb)).resolve_left hlo)
          refine ⟨1, 0, (tr, bl, np, K, f1, f2, f3, f4, g5, g6, f7, g8, g9, g10), ⟨K, Nat.le_succ K, rfl⟩, ((bw_L_deposit_t1 l D ct base ad M sz x (x + 39) (nI q) (nI j) _ 1 6 _ s1 (bc_B_deposit_t3 l hlt D ct base ad M sz x np tr (f2 0) (f2 1) (f2 2) (f2 3) bl lc q (pa q) (pa q + 1) j pw F h s1 s7 s8 u2 u3 hq20 hv1 (p1 q hq) hj hb)).post (bm_PW_t hBS ho (by decide))).wide (by decide) (by decide) (by decide) (by decide) (by decide) (by decide), ?_⟩
          · intro th M2 s2 hms
            obtain ⟨g11, g12, g13, g14, g15, f16, g17, hP⟩ := hms
            exact bm_Mp (bc_M_deposit_n3 l D ct base ad M2 s2 (x + 21) th tr bl np (nI K) f1 f2 f3 f4 g5 g6 f7 g8 g9 g10 g11 g12 g13 g14 g15 f16 g17 q j hP hq20 hv1 hlo hhi hj) (fun v M1 H hp _ => ⟨hp.1, ⟨hp.2.1.1, _, _, _, _, _, _, _, hp.2.1.2⟩, hp.2.2⟩)
      · obtain ⟨d, hd, hd0⟩ := bm_bL_in (N := 3) (by decide) hb
        have hb1 := bm_bL_01 hb
        have hdm : g9 (16 * q) = lN d := e0.symm.trans hd0
        obtain ⟨kn, hkn, hnu⟩ : ∃ m, m < 2 ^ 59 ∧ bm_hc (lN d) (bm_pf F (bm_h3 (F 2) (F 3) (F 1))) = lN m := bm_end_n _
        have hnm : bm_hc (lN d) (bm_ph g9 q (bm_ch g9 q)) = lN kn := (bm_num_eq u4).symm.trans hnu
        have hgd := bm_gd_eq (d := d) (k := kn) u4
        have hch := bm_ch_eq u4
        have hHS : ∀ t, t < 4 → bm_hs (bm_pf F (bm_h3 (F 2) (F 3) (F 1))) h 4 t = bm_ph g9 q (bm_ch g9 q) t := fun t ht => by rw [bm_hs_at ht, hch]; exact bm_pf_ph u4 _ ht
        by_cases hg : bm_gd (bm_gw (bm_ph g9 q (bm_ch g9 q)) 4) (bm_is d (g9 (16 * q + 1)) kn) = 0
        · refine ⟨1, 0, (tr, bl, np, K, f1, f2, f3, f4, g5, g6, f7, g8, g9, g10), ⟨K, Nat.le_succ K, rfl⟩, ((bw_L_deposit_t1 l D ct base ad M sz x (x + 39) (nI q) (nI j) _ 1 6 _ s1 (bc_B_deposit_t4 l hlt D ct base ad M sz x np tr (f2 0) (f2 1) (f2 2) (f2 3) bl lc q (pa q) (pa q + 1) j pw F h d kn s1 s7 s8 u2 u3 hq20 hv1 (p1 q hq) hj (by omega) (by omega) (by omega) hb1 hd0 hd hnu hkn (hgd.trans hg))).post (fun v M1 H hp _ => ?_)).wide (by decide) (by decide) (by decide) (by decide) (by decide) (by decide), ?_⟩
          · obtain ⟨hr, rfl, -⟩ := hp
            exact bm_PW_w hr (by decide) (bm_BS.mk (bm_BD.up12 hB _)) ho (fun c q1 q2 => bm_up_ne (by omega))
          · intro th M2 s2 hms
            obtain ⟨g11, g12, g13, g14, g15, f16, g17, hP⟩ := hms
            exact bm_Mp (bc_M_deposit_n4 l D ct base ad M2 s2 (x + 21) th tr bl np (nI K) f1 f2 f3 f4 g5 g6 f7 g8 g9 g10 g11 g12 g13 g14 g15 f16 g17 q j hP hq20 hv1 d kn hdm hd hnm hkn hj hg) (fun v M1 H hp _ => ⟨hp.1, ⟨hp.2.1.1, _, _, _, _, _, _, _, hp.2.1.2⟩, hp.2.2⟩)
        · obtain ⟨hcl, hln, hlen, hadr, huq⟩ := id hcre
          have hLx : ∀ c ∈ L, c.a ≠ x + 12 ∧ c.b ≠ x + 12 ∧ c.c ≠ x + 12 := fun c hc => by
            have := hadr c hc
            omega
          by_cases hex : ∃ i, i < K ∧ ¬ bm_me g10 (bm_ph g9 q (bm_ch g9 q)) (lN d) i 4 = 0
          · obtain ⟨kk, hkk, hfound⟩ := hex
            have hoth : ∀ i, i < K → i ≠ kk → bm_me g10 (bm_ph g9 q (bm_ch g9 q)) (lN d) i 4 = 0 := fun i hi hne => by
              by_cases z : i < kk
              · exact (huq i kk z hkk (lN d) (bm_ph g9 q (bm_ch g9 q))).resolve_right hfound
              · exact (huq kk i (by omega) hi (lN d) (bm_ph g9 q (bm_ch g9 q))).resolve_left hfound
            obtain ⟨ce, hce, hfc, hNE⟩ := bm_fc_some hfound hln (by rw [hlen]; exact hkk) (fun i hi hne => hoth i (by rw [← hlen]; exact hi) hne)
            have hfc2 : bm_fc (F 0) (bm_hs (bm_pf F (bm_h3 (F 2) (F 3) (F 1))) h 4) L = .ref ce.a := by rw [hd0, bm_fc_cg hHS]; exact hfc
            have htr := bm_rv_tv (hv := ce.hv) (f := F) (r := g9) (tk := g10) (p := q) (k := kk) (c0 := ce.c0) (fun t ht => (hNE.2.2.2 t ht).symm) (fun t ht => u4 (4 + 3 * t) (by omega)) hNE.2.2.1.symm 4 (Nat.le_refl _)
            refine ⟨2, 0, (bm_tv g9 g10 q kk (bm_df g9 g10 q kk) 4, bl, np, K, f1, upd f2 3 (f2 3 + 1), f3, f4, g5, g6, f7, g8, g9, g10), ⟨K, Nat.le_succ K, rfl⟩, ((bw_L_deposit_t2 l D ct base ad M sz x (x + 39) (nI q) (nI j) _ 1 6 _ s1 (bc_B_deposit_t5 l hlt D ct base ad M sz x np tr (f2 0) (f2 1) (f2 2) (f2 3) bl lc q (pa q) (pa q + 1) j d kn pw F h L ce s1 s7 s8 u2 u3 hq20 hv1 (p1 q hq) hj (by omega) (by omega) (by omega) hb1 hd0 hd hnu hkn (fun z => hg (hgd.symm.trans z)) hcl hLx hce hfc2)).post (fun v M1 H hp _ => ?_)).wide (by decide) (by decide) (by decide) (by decide) (by decide) (by decide), ?_⟩
            · obtain ⟨hr, -, m1, m2, hfr⟩ := hp
              rw [hch, htr] at m1
              exact bm_PW_w hr (by decide) (bm_BS.mk ⟨kf, n, wf, pw, lc, co, pa, L, hkf, ⟨hnp, hn20⟩, hdc, bm_sta_x (g2 := upd f2 3 (f2 3 + 1)) hsta m1 ⟨_, m2⟩ (fun b q1 q2 q3 => hfr b (by omega) q3), hdyn.ext (fun b e q1 q2 => (hfr b (by omega) (by omega)).trans q2)⟩) ho (fun c q1 q2 => hfr c (by omega) (by omega))
            · intro th M2 s2 hms
              obtain ⟨g11, g12, g13, g14, g15, f16, g17, hP⟩ := hms
              exact bm_Mp (bc_M_deposit_rep l D ct base ad M2 s2 (x + 21) th tr bl np (nI K) f1 f2 f3 f4 g5 g6 f7 g8 g9 g10 g11 g12 g13 g14 g15 f16 g17 q j hP hq20 hv1 d kn hdm hd hnm hkn hj hg K rfl (by omega) kk hkk (fun i hi => hoth i (by omega) (by omega)) hfound) (fun v M1 H hp _ => ⟨hp.1, ⟨hp.2.1.1, _, _, _, _, _, _, _, hp.2.1.2⟩, hp.2.2⟩)
          · have hnone : ∀ i, i < K → bm_me g10 (bm_ph g9 q (bm_ch g9 q)) (lN d) i 4 = 0 := fun i hi => by
              by_cases z : bm_me g10 (bm_ph g9 q (bm_ch g9 q)) (lN d) i 4 = 0
              · exact z
              · exact absurd ⟨i, hi, z⟩ hex
            have hfc2 : bm_fc (F 0) (bm_hs (bm_pf F (bm_h3 (F 2) (F 3) (F 1))) h 4) L = .null := by rw [hd0, bm_fc_cg hHS]; exact bm_fc_none hln (by rw [hlen]; exact hnone)
            obtain ⟨t1, t2⟩ := bm_td_at (r := g9) (h := bm_ph g9 q (bm_ch g9 q)) (g := vp_updL (vp_updL g10 (10 * K) (lN d)) (10 * K + 5) (bm_ch g9 q)) (p := q) (K := K) 4 (Nat.le_refl _)
            have hsd : bm_sta ct x np tr bl f1 f2 f3 wf pw lc M := hsta
            have s1k := s1
            rw [hdc] at s1k
            have key : ∀ (M9 : bm_Map) (hv9 : Nat → Int64), M9 x = some (.inr (6, [.ref (x + 1), .ref (x + 2), .ref (x + 11), .int np, .ref (x + 12), .ref sz, .int tr, .long bl, .int (f2 0), .int (nI (K + 1)), .int (f2 2), .int (f2 3)])) → M9 (x + 12) = some (.inl (ct 1, 4, .inr (.inl (bm_hs (bm_pf F (bm_h3 (F 2) (F 3) (F 1))) h 4)))) → M9 (x + (13 + 2 * j)) = some (.inr (0, [.int (f1 j + bm_w d), .ref (x + (14 + 2 * j)), .int (f3 j)])) → M9 sz = some (.inr (3, [.long (F 0), .ref (sz + 1), .long (bm_h3 (F 2) (F 3) (F 1)), .ref (sz + 2), lc])) → M9 (sz + 1) = some (.inl (ct 1, 4, .inr (.inl (bm_hs (bm_pf F (bm_h3 (F 2) (F 3) (F 1))) h 4)))) → M9 (sz + 2) = some (.inl (ct 1, 4, .inr (.inl hv9))) → (∀ t, t < 4 → hv9 t = F (4 + 3 * t)) → (∀ b, b ≠ x → b ≠ x + 12 → b ≠ x + (13 + 2 * j) → b < sz → M9 b = M b) → bm_BD ct x (K + 1) tr bl np (upd f1 j (f1 j + bm_w d)) (upd f2 1 (f2 1 + 1)) f3 f4 g5 g6 f7 g8 g9 (bm_td g9 (bm_ph g9 q (bm_ch g9 q)) q K (vp_updL (vp_updL g10 (10 * K) (lN d)) (10 * K + 5) (bm_ch g9 q)) 4) M9 := by
              intro M9 hv9 m1 m2 m3 m4 m5 m6 m7 hfr
              have hwf : (fun b => if b = j then wf j else wf b) = wf := by
                funext b
                by_cases z : b = j
                · subst z; rw [if_pos rfl]
                · rw [if_neg z]
              have ek : upd f2 1 (f2 1 + 1) 1 = nI (K + 1) := by simp only [upd, if_true]; rw [hdc]; exact nI_add K 1
              have m1' : M9 x = some (.inr (6, [.ref (x + 1), .ref (x + 2), .ref (x + 11), .int np, .ref (x + 12), .ref sz, .int tr, .long bl, .int (upd f2 1 (f2 1 + 1) 0), .int (upd f2 1 (f2 1 + 1) 1), .int (upd f2 1 (f2 1 + 1) 2), .int (upd f2 1 (f2 1 + 1) 3)])) := by rw [ek]; exact m1
              have hst := bm_sta_wd (g1 := upd f1 j (f1 j + bm_w d)) (g2 := upd f2 1 (f2 1 + 1)) (g3 := f3) hsta hj m1' ⟨fo, so, (hfr _ (by omega) (by omega) (by omega) (by omega)).trans s3⟩ ⟨pt, (hfr _ (by omega) (by omega) (by omega) (by omega)).trans s5⟩ ⟨vA, vC, vE, vB, vX, vY, vP, fun t ht => (hfr _ (by omega) (by omega) (by omega) (by omega)).trans (s6 t ht)⟩ ⟨_, m2⟩ m3 ((hfr _ (by omega) (by omega) (by omega) (by omega)).trans (s10 j hj)) ⟨by simp [upd], fun b hb => by simp [upd, hb]⟩ ⟨rfl, fun b hb => rfl⟩ (fun b q1 q2 q3 q4 q5 q6 q7 => hfr b q1 q2 q3 (by omega))
              rw [hwf] at hst
              refine ⟨kf, n, wf, pw, .ref sz, co, pa, (sz, F 0, sz + 1, bm_h3 (F 2) (F 3) (F 1), sz + 2, bm_hs (bm_pf F (bm_h3 (F 2) (F 3) (F 1))) h 4, hv9) :: L, hkf, ⟨hnp, hn20⟩, ek, hst, bm_dyn_deposit (ce := (sz, F 0, sz + 1, bm_h3 (F 2) (F 3) (F 1), sz + 2, bm_hs (bm_pf F (bm_h3 (F 2) (F 3) (F 1))) h 4, hv9)) hdyn ⟨hxz, Nat.le_succ_of_le hxz, Nat.le_succ_of_le (Nat.le_succ_of_le hxz)⟩ (fun b e q1 q2 => (hfr b (by omega) (by omega) (by omega) (hlt9 _ _ q2)).trans q2) m4 m5 m6 ⟨?_, fun t ht => ?_, ?_, fun t ht => ?_⟩ (fun i hi => ?_) (fun i hi => ?_)⟩
              · rw [t1 _ (by omega)]
                show vp_updL (vp_updL g10 (10 * K) (lN d)) (10 * K + 5) (bm_ch g9 q) (10 * K) = F 0
                unfold vp_updL
                rw [if_neg (by omega), if_pos rfl, hd0]
              · rw [(t2 t ht).1]
                exact (hHS t ht).symm
              · rw [t1 _ (by omega)]
                show vp_updL (vp_updL g10 (10 * K) (lN d)) (10 * K + 5) (bm_ch g9 q) (10 * K + 5) = bm_h3 (F 2) (F 3) (F 1)
                unfold vp_updL
                rw [if_pos rfl]
                exact hch.symm
              · rw [(t2 t ht).2]
                show g9 (16 * q + (4 + 3 * t)) = hv9 t
                rw [m7 t ht]
                exact (u4 (4 + 3 * t) (by omega)).symm
              · rw [t1 _ (by omega)]
                unfold vp_updL
                rw [if_neg (by omega), if_neg (by omega)]
              · show bm_me g10 (bm_hs (bm_pf F (bm_h3 (F 2) (F 3) (F 1))) h 4) (F 0) i 4 = 0
                rw [hd0, bm_me_cg2 hHS 4 (Nat.le_refl _)]
                exact hnone i hi
            have hMM : ∀ (th : Int32) (M2 : bm_Map) (s2 : Nat), bm_MS ct (x + 21) th (tr, bl, np, K, f1, f2, f3, f4, g5, g6, f7, g8, g9, g10) M2 → Met l yM_deposit (bm_ws yM_deposit cM_deposit 6 (some .int)) { frames := 4, cells := 0, slots := 0, locals := 99 } (bm_Pre D ct base ad M2 s2 [.ref (x + 21), .int (nI q), .int (nI j)]) (bm_Post D base (bm_Pm (x + 21) M2 s2 (fun v M1 => v = some (.int (bm_w d)) ∧ bm_MS ct (x + 21) 0 (tr, bl, np, K + 1, upd f1 j (f1 j + bm_w d), upd f2 1 (f2 1 + 1), f3, f4, g5, g6, f7, g8, g9, bm_td g9 (bm_ph g9 q (bm_ch g9 q)) q K (vp_updL (vp_updL g10 (10 * K) (lN d)) (10 * K + 5) (bm_ch g9 q)) 4) M1))) 0 0 (bm_A base) := by
              intro th M2 s2 hms
              obtain ⟨g11, g12, g13, g14, g15, f16, g17, hP⟩ := hms
              exact bm_Mp (bc_M_deposit_ok l D ct base ad M2 s2 (x + 21) th tr bl np (nI K) f1 f2 f3 f4 g5 g6 f7 g8 g9 g10 g11 g12 g13 g14 g15 f16 g17 q j hP hq20 hv1 d kn hdm hd hnm hkn hj hg K rfl (by omega) hnone) (fun v M1 H hp _ => by
                have h9 := hp.2.1.2
                rw [show nI K + 1 = nI (K + 1) from nI_add K 1] at h9
                exact ⟨hp.1, ⟨hp.2.1.1, _, _, _, _, _, _, _, h9⟩, hp.2.2⟩)
            rcases bm_CL_nr hcl with hlc | ⟨bf, hlc⟩
            · refine ⟨0, bm_w d, (tr, bl, np, K + 1, upd f1 j (f1 j + bm_w d), upd f2 1 (f2 1 + 1), f3, f4, g5, g6, f7, g8, g9, bm_td g9 (bm_ph g9 q (bm_ch g9 q)) q K (vp_updL (vp_updL g10 (10 * K) (lN d)) (10 * K + 5) (bm_ch g9 q)) 4), ⟨K + 1, Nat.le_refl _, rfl⟩, ((bw_L_deposit_ok l D ct base ad M sz x (x + 39) (nI q) (nI j) _ 3 13 w _ s1 (bc_B_deposit_ok_n l D ct base ad M sz x np tr (f2 0) (f2 2) (f2 3) bl q (pa q) (pa q + 1) j d kn pw F h L K (f1 j) (f3 j) ac (hlc ▸ s1k) s7 s8 u2 u3 s2 (s9 j hj) hac hq20 hv1 (p1 q hq) hj (by omega) (by omega) (by omega) hb1 hd0 hd hnu hkn (by omega) (by omega) hK512 (fun z => hg (hgd.symm.trans z)) (hlc ▸ hcl) hLx hfc2) (fun r M1 n9 hp => ⟨_, hp.1, (hp.2.2.2.2.2.2.2.2 (x + 39) (by omega) (by omega) (by omega) (by omega)).trans ho⟩)).post (fun v M1 H hp _ => ?_)).wide (by decide) (by decide) (by decide) (by decide) (by decide) (by decide), hMM⟩
              obtain ⟨hr, i9, M9, ⟨hi9, -, m1, m2, m3, m4, m5, ⟨hv9, m6, m7⟩, hfr⟩, hM1⟩ := hp
              cases hi9
              exact bm_PW_g hr (bm_BS.mk (key M9 hv9 m1 m2 m3 (hlc ▸ m4) m5 m6 m7 hfr)) (fun c q1 q2 => hfr c (by omega) (by omega) (by omega) (by omega)) hM1
            · refine ⟨0, bm_w d, (tr, bl, np, K + 1, upd f1 j (f1 j + bm_w d), upd f2 1 (f2 1 + 1), f3, f4, g5, g6, f7, g8, g9, bm_td g9 (bm_ph g9 q (bm_ch g9 q)) q K (vp_updL (vp_updL g10 (10 * K) (lN d)) (10 * K + 5) (bm_ch g9 q)) 4), ⟨K + 1, Nat.le_refl _, rfl⟩, ((bw_L_deposit_ok l D ct base ad M sz x (x + 39) (nI q) (nI j) _ 3 13 w _ s1 (bc_B_deposit_ok_r l D ct base ad M sz x np tr (f2 0) (f2 2) (f2 3) bl bf q (pa q) (pa q + 1) j d kn pw F h L K (f1 j) (f3 j) ac (hlc ▸ s1k) s7 s8 u2 u3 s2 (s9 j hj) hac hq20 hv1 (p1 q hq) hj (by omega) (by omega) (by omega) hb1 hd0 hd hnu hkn (by omega) (by omega) hK512 (fun z => hg (hgd.symm.trans z)) (hlc ▸ hcl) hLx hfc2) (fun r M1 n9 hp => ⟨_, hp.1, (hp.2.2.2.2.2.2.2.2 (x + 39) (by omega) (by omega) (by omega) (by omega)).trans ho⟩)).post (fun v M1 H hp _ => ?_)).wide (by decide) (by decide) (by decide) (by decide) (by decide) (by decide), hMM⟩
              obtain ⟨hr, i9, M9, ⟨hi9, -, m1, m2, m3, m4, m5, ⟨hv9, m6, m7⟩, hfr⟩, hM1⟩ := hp
              cases hi9
              exact bm_PW_g hr (bm_BS.mk (key M9 hv9 m1 m2 m3 (hlc ▸ m4) m5 m6 m7 hfr)) (fun c q1 q2 => hfr c (by omega) (by omega) (by omega) (by omega)) hM1
