set_option maxHeartbeats 2000000 in
theorem bo_traced (l : Launch) (D : va_G) (ct : Nat → ClassId) (base : Nat) (ad : Nat → Nat) (M : bm_Map) (sz x : Nat)  (tr : Int32) (bl : Int64) (np : Int32) (K : Nat) (f1 f2 f3 f4 : Nat → Int32) (g5 g6 : Nat → Int64) (f7 : Nat → Int32) (g8 g9 g10 : Nat → Int64) (hB : bm_BD ct x K tr bl np f1 f2 f3 f4 g5 g6 f7 g8 g9 g10 M) :
    ∃ b : Int32, Met l yB_traced (bm_ws yB_traced cB_traced 1 (some .int)) { frames := 0, cells := 0, slots := 0, locals := 0 } (bm_Pre D ct base ad M sz [.ref x]) (bm_Post D base (bm_PR ct x (.int b) (tr, bl, np, K, f1, f2, f3, f4, g5, g6, f7, g8, g9, g10) M)) 0 0 (bm_A base) ∧
      ∀ (th : Int32) (M2 : bm_Map) (s2 : Nat), bm_MS ct (x + 21) th (tr, bl, np, K, f1, f2, f3, f4, g5, g6, f7, g8, g9, g10) M2 → Met l yM_traced (bm_ws yM_traced cM_traced 1 (some .int)) { frames := 0, cells := 0, slots := 0, locals := 0 } (bm_Pre D ct base ad M2 s2 [.ref (x + 21)]) (bm_Post D base (bm_Pm (x + 21) M2 s2 (fun v M1 => v = some (.int b) ∧ bm_MS ct (x + 21) 0 (tr, bl, np, K, f1, f2, f3, f4, g5, g6, f7, g8, g9, g10) M1))) 0 0 (bm_A base) := by
  have hBS : bm_BS ct x (tr, bl, np, K, f1, f2, f3, f4, g5, g6, f7, g8, g9, g10) M := hB
  obtain ⟨kf, n, wf, pw, lc, co, pa, L, hkf, ⟨hnp, hn20⟩, hdc, hsta, hdyn⟩ := id hB
  obtain ⟨s1, ⟨ac, s2, hac⟩, ⟨fo, so, s3⟩, ⟨cf, s4, hcf⟩, ⟨pt, s5⟩, ⟨vA, vC, vE, vB, vX, vY, vP, s6⟩, s7, ⟨h, s8⟩, s9, s10⟩ := id hsta
  obtain ⟨⟨d1, d2, d3⟩, ⟨p1, p2, p3⟩, hcre⟩ := id hdyn
  refine ⟨tr, bm_Mp (bc_B_traced l D ct base ad M sz x np tr (f2 0) (f2 1) (f2 2) (f2 3) bl lc s1) (bm_PR_r hBS), ?_⟩
  · intro th M2 s2 hms
    obtain ⟨g11, g12, g13, g14, g15, f16, g17, hP⟩ := hms
    exact bm_Mp (bc_M_traced l D ct base ad M2 s2 (x + 21) th tr bl np (nI K) f1 f2 f3 f4 g5 g6 f7 g8 g9 g10 g11 g12 g13 g14 g15 f16 g17 hP) (fun v M1 H hp _ => ⟨hp.1, ⟨hp.2.1.1, _, _, _, _, _, _, _, hp.2.1.2⟩, hp.2.2⟩)
set_option maxHeartbeats 2000000 in
theorem bo_blinded (l : Launch) (D : va_G) (ct : Nat → ClassId) (base : Nat) (ad : Nat → Nat) (M : bm_Map) (sz x : Nat)  (tr : Int32) (bl : Int64) (np : Int32) (K : Nat) (f1 f2 f3 f4 : Nat → Int32) (g5 g6 : Nat → Int64) (f7 : Nat → Int32) (g8 g9 g10 : Nat → Int64) (hB : bm_BD ct x K tr bl np f1 f2 f3 f4 g5 g6 f7 g8 g9 g10 M) :
    ∃ b : Int64, Met l yB_blinded (bm_ws yB_blinded cB_blinded 1 (some .long)) { frames := 0, cells := 0, slots := 0, locals := 0 } (bm_Pre D ct base ad M sz [.ref x]) (bm_Post D base (bm_PR ct x (.long b) (tr, bl, np, K, f1, f2, f3, f4, g5, g6, f7, g8, g9, g10) M)) 0 0 (bm_A base) ∧
      ∀ (th : Int32) (M2 : bm_Map) (s2 : Nat), bm_MS ct (x + 21) th (tr, bl, np, K, f1, f2, f3, f4, g5, g6, f7, g8, g9, g10) M2 → Met l yM_blinded (bm_ws yM_blinded cM_blinded 1 (some .long)) { frames := 0, cells := 0, slots := 0, locals := 0 } (bm_Pre D ct base ad M2 s2 [.ref (x + 21)]) (bm_Post D base (bm_Pm (x + 21) M2 s2 (fun v M1 => v = some (.long b) ∧ bm_MS ct (x + 21) 0 (tr, bl, np, K, f1, f2, f3, f4, g5, g6, f7, g8, g9, g10) M1))) 0 0 (bm_A base) := by
  have hBS : bm_BS ct x (tr, bl, np, K, f1, f2, f3, f4, g5, g6, f7, g8, g9, g10) M := hB
  obtain ⟨kf, n, wf, pw, lc, co, pa, L, hkf, ⟨hnp, hn20⟩, hdc, hsta, hdyn⟩ := id hB
  obtain ⟨s1, ⟨ac, s2, hac⟩, ⟨fo, so, s3⟩, ⟨cf, s4, hcf⟩, ⟨pt, s5⟩, ⟨vA, vC, vE, vB, vX, vY, vP, s6⟩, s7, ⟨h, s8⟩, s9, s10⟩ := id hsta
  obtain ⟨⟨d1, d2, d3⟩, ⟨p1, p2, p3⟩, hcre⟩ := id hdyn
  refine ⟨bl, bm_Mp (bc_B_blinded l D ct base ad M sz x np tr (f2 0) (f2 1) (f2 2) (f2 3) bl lc s1) (bm_PR_r hBS), ?_⟩
  · intro th M2 s2 hms
    obtain ⟨g11, g12, g13, g14, g15, f16, g17, hP⟩ := hms
    exact bm_Mp (bc_M_blinded l D ct base ad M2 s2 (x + 21) th tr bl np (nI K) f1 f2 f3 f4 g5 g6 f7 g8 g9 g10 g11 g12 g13 g14 g15 f16 g17 hP) (fun v M1 H hp _ => ⟨hp.1, ⟨hp.2.1.1, _, _, _, _, _, _, _, hp.2.1.2⟩, hp.2.2⟩)
set_option maxHeartbeats 2000000 in
theorem bo_coins (l : Launch) (D : va_G) (ct : Nat → ClassId) (base : Nat) (ad : Nat → Nat) (M : bm_Map) (sz x : Nat) (a1 : Int32) (tr : Int32) (bl : Int64) (np : Int32) (K : Nat) (f1 f2 f3 f4 : Nat → Int32) (g5 g6 : Nat → Int64) (f7 : Nat → Int32) (g8 g9 g10 : Nat → Int64) (hB : bm_BD ct x K tr bl np f1 f2 f3 f4 g5 g6 f7 g8 g9 g10 M) :
    ∃ b : Int32, Met l yB_coins (bm_ws yB_coins cB_coins 2 (some .int)) { frames := 1, cells := 0, slots := 0, locals := 20 } (bm_Pre D ct base ad M sz [.ref x, .int a1]) (bm_Post D base (bm_PR ct x (.int b) (tr, bl, np, K, f1, f2, f3, f4, g5, g6, f7, g8, g9, g10) M)) 0 0 (bm_A base) ∧
      ∀ (th : Int32) (M2 : bm_Map) (s2 : Nat), bm_MS ct (x + 21) th (tr, bl, np, K, f1, f2, f3, f4, g5, g6, f7, g8, g9, g10) M2 → Met l yM_coins (bm_ws yM_coins cM_coins 2 (some .int)) { frames := 1, cells := 0, slots := 0, locals := 21 } (bm_Pre D ct base ad M2 s2 [.ref (x + 21), .int a1]) (bm_Post D base (bm_Pm (x + 21) M2 s2 (fun v M1 => v = some (.int b) ∧ bm_MS ct (x + 21) 0 (tr, bl, np, K, f1, f2, f3, f4, g5, g6, f7, g8, g9, g10) M1))) 0 0 (bm_A base) := by
  have hBS : bm_BS ct x (tr, bl, np, K, f1, f2, f3, f4, g5, g6, f7, g8, g9, g10) M := hB
  obtain ⟨kf, n, wf, pw, lc, co, pa, L, hkf, ⟨hnp, hn20⟩, hdc, hsta, hdyn⟩ := id hB
  obtain ⟨s1, ⟨ac, s2, hac⟩, ⟨fo, so, s3⟩, ⟨cf, s4, hcf⟩, ⟨pt, s5⟩, ⟨vA, vC, vE, vB, vX, vY, vP, s6⟩, s7, ⟨h, s8⟩, s9, s10⟩ := id hsta
  obtain ⟨⟨d1, d2, d3⟩, ⟨p1, p2, p3⟩, hcre⟩ := id hdyn
  by_cases hv : bm_bl a1 4 = 0
  ·
    refine ⟨(-1), bm_Mp (bc_B_coins_n l D ct base ad M sz x np tr (f2 0) (f2 1) (f2 2) (f2 3) bl lc a1 s1 hv) (bm_PR_r hBS), ?_⟩
    · intro th M2 s2 hms
      obtain ⟨g11, g12, g13, g14, g15, f16, g17, hP⟩ := hms
      exact bm_Mp (bc_M_coins_n l D ct base ad M2 s2 (x + 21) th tr bl np (nI K) f1 f2 f3 f4 g5 g6 f7 g8 g9 g10 g11 g12 g13 g14 g15 f16 g17 a1 hP hv) (fun v M1 H hp _ => ⟨hp.1, ⟨hp.2.1.1, _, _, _, _, _, _, _, hp.2.1.2⟩, hp.2.2⟩)
  · obtain ⟨j, hj, rfl⟩ := bm_bl_in (N := 4) (by decide) hv
    refine ⟨(f3 j), bm_Mp (bc_B_coins_ok l D ct base ad M sz x np tr (f2 0) (f2 1) (f2 2) (f2 3) bl lc j (f1 j) (f3 j) ac s1 s2 (s9 j hj) hac hj) (bm_PR_r hBS), ?_⟩
    · intro th M2 s2 hms
      obtain ⟨g11, g12, g13, g14, g15, f16, g17, hP⟩ := hms
      exact bm_Mp (bc_M_coins_ok l D ct base ad M2 s2 (x + 21) th tr bl np (nI K) f1 f2 f3 f4 g5 g6 f7 g8 g9 g10 g11 g12 g13 g14 g15 f16 g17 j hP hj) (fun v M1 H hp _ => ⟨hp.1, ⟨hp.2.1.1, _, _, _, _, _, _, _, hp.2.1.2⟩, hp.2.2⟩)
set_option maxHeartbeats 2000000 in
theorem bo_count (l : Launch) (D : va_G) (ct : Nat → ClassId) (base : Nat) (ad : Nat → Nat) (M : bm_Map) (sz x : Nat) (a1 : Int32) (tr : Int32) (bl : Int64) (np : Int32) (K : Nat) (f1 f2 f3 f4 : Nat → Int32) (g5 g6 : Nat → Int64) (f7 : Nat → Int32) (g8 g9 g10 : Nat → Int64) (hB : bm_BD ct x K tr bl np f1 f2 f3 f4 g5 g6 f7 g8 g9 g10 M) :
    ∃ b : Int32, Met l yB_count (bm_ws yB_count cB_count 2 (some .int)) { frames := 0, cells := 0, slots := 0, locals := 0 } (bm_Pre D ct base ad M sz [.ref x, .int a1]) (bm_Post D base (bm_PR ct x (.int b) (tr, bl, np, K, f1, f2, f3, f4, g5, g6, f7, g8, g9, g10) M)) 0 0 (bm_A base) ∧
      ∀ (th : Int32) (M2 : bm_Map) (s2 : Nat), bm_MS ct (x + 21) th (tr, bl, np, K, f1, f2, f3, f4, g5, g6, f7, g8, g9, g10) M2 → Met l yM_count (bm_ws yM_count cM_count 2 (some .int)) { frames := 1, cells := 0, slots := 0, locals := 21 } (bm_Pre D ct base ad M2 s2 [.ref (x + 21), .int a1]) (bm_Post D base (bm_Pm (x + 21) M2 s2 (fun v M1 => v = some (.int b) ∧ bm_MS ct (x + 21) 0 (tr, bl, np, K, f1, f2, f3, f4, g5, g6, f7, g8, g9, g10) M1))) 0 0 (bm_A base) := by
  have hBS : bm_BS ct x (tr, bl, np, K, f1, f2, f3, f4, g5, g6, f7, g8, g9, g10) M := hB
  obtain ⟨kf, n, wf, pw, lc, co, pa, L, hkf, ⟨hnp, hn20⟩, hdc, hsta, hdyn⟩ := id hB
  obtain ⟨s1, ⟨ac, s2, hac⟩, ⟨fo, so, s3⟩, ⟨cf, s4, hcf⟩, ⟨pt, s5⟩, ⟨vA, vC, vE, vB, vX, vY, vP, s6⟩, s7, ⟨h, s8⟩, s9, s10⟩ := id hsta
  obtain ⟨⟨d1, d2, d3⟩, ⟨p1, p2, p3⟩, hcre⟩ := id hdyn
  by_cases hv : bm_bl a1 4 = 0
  ·
    refine ⟨(-1), bm_Mp (bc_B_count_n l D ct base ad M sz x np tr (f2 0) (f2 1) (f2 2) (f2 3) bl lc a1 s1 hv) (bm_PR_r hBS), ?_⟩
    · intro th M2 s2 hms
      obtain ⟨g11, g12, g13, g14, g15, f16, g17, hP⟩ := hms
      exact bm_Mp (bc_M_count_n l D ct base ad M2 s2 (x + 21) th tr bl np (nI K) f1 f2 f3 f4 g5 g6 f7 g8 g9 g10 g11 g12 g13 g14 g15 f16 g17 a1 hP hv) (fun v M1 H hp _ => ⟨hp.1, ⟨hp.2.1.1, _, _, _, _, _, _, _, hp.2.1.2⟩, hp.2.2⟩)
  · obtain ⟨j, hj, rfl⟩ := bm_bl_in (N := 4) (by decide) hv
    rcases (show j = 0 ∨ j = 1 ∨ j = 2 ∨ j = 3 by omega) with rfl | rfl | rfl | rfl
    ·
      refine ⟨(f2 0), bm_Mp (bc_B_count_0 l D ct base ad M sz x np tr (f2 0) (f2 1) (f2 2) (f2 3) bl lc s1) (bm_PR_r hBS), ?_⟩
      · intro th M2 s2 hms
        obtain ⟨g11, g12, g13, g14, g15, f16, g17, hP⟩ := hms
        exact bm_Mp (bc_M_count_ok l D ct base ad M2 s2 (x + 21) th tr bl np (nI K) f1 f2 f3 f4 g5 g6 f7 g8 g9 g10 g11 g12 g13 g14 g15 f16 g17 0 hP hj) (fun v M1 H hp _ => ⟨hp.1, ⟨hp.2.1.1, _, _, _, _, _, _, _, hp.2.1.2⟩, hp.2.2⟩)
    ·
      refine ⟨(f2 1), bm_Mp (bc_B_count_1 l D ct base ad M sz x np tr (f2 0) (f2 1) (f2 2) (f2 3) bl lc s1) (bm_PR_r hBS), ?_⟩
      · intro th M2 s2 hms
        obtain ⟨g11, g12, g13, g14, g15, f16, g17, hP⟩ := hms
        exact bm_Mp (bc_M_count_ok l D ct base ad M2 s2 (x + 21) th tr bl np (nI K) f1 f2 f3 f4 g5 g6 f7 g8 g9 g10 g11 g12 g13 g14 g15 f16 g17 1 hP hj) (fun v M1 H hp _ => ⟨hp.1, ⟨hp.2.1.1, _, _, _, _, _, _, _, hp.2.1.2⟩, hp.2.2⟩)
    ·
      refine ⟨(f2 2), bm_Mp (bc_B_count_2 l D ct base ad M sz x np tr (f2 0) (f2 1) (f2 2) (f2 3) bl lc s1) (bm_PR_r hBS), ?_⟩
      · intro th M2 s2 hms
        obtain ⟨g11, g12, g13, g14, g15, f16, g17, hP⟩ := hms
        exact bm_Mp (bc_M_count_ok l D ct base ad M2 s2 (x + 21) th tr bl np (nI K) f1 f2 f3 f4 g5 g6 f7 g8 g9 g10 g11 g12 g13 g14 g15 f16 g17 2 hP hj) (fun v M1 H hp _ => ⟨hp.1, ⟨hp.2.1.1, _, _, _, _, _, _, _, hp.2.1.2⟩, hp.2.2⟩)
    ·
      refine ⟨(f2 3), bm_Mp (bc_B_count_3 l D ct base ad M sz x np tr (f2 0) (f2 1) (f2 2) (f2 3) bl lc s1) (bm_PR_r hBS), ?_⟩
      · intro th M2 s2 hms
        obtain ⟨g11, g12, g13, g14, g15, f16, g17, hP⟩ := hms
        exact bm_Mp (bc_M_count_ok l D ct base ad M2 s2 (x + 21) th tr bl np (nI K) f1 f2 f3 f4 g5 g6 f7 g8 g9 g10 g11 g12 g13 g14 g15 f16 g17 3 hP hj) (fun v M1 H hp _ => ⟨hp.1, ⟨hp.2.1.1, _, _, _, _, _, _, _, hp.2.1.2⟩, hp.2.2⟩)
set_option maxHeartbeats 2000000 in
theorem bo_good (l : Launch) (D : va_G) (ct : Nat → ClassId) (base : Nat) (ad : Nat → Nat) (M : bm_Map) (sz x : Nat) (a1 : Int32) (tr : Int32) (bl : Int64) (np : Int32) (K : Nat) (f1 f2 f3 f4 : Nat → Int32) (g5 g6 : Nat → Int64) (f7 : Nat → Int32) (g8 g9 g10 : Nat → Int64) (hB : bm_BD ct x K tr bl np f1 f2 f3 f4 g5 g6 f7 g8 g9 g10 M) :
    ∃ b : Int32, Met l yB_good (bm_ws yB_good cB_good 3 (some .boolean)) { frames := 4, cells := 0, slots := 0, locals := 100 } (bm_Pre D ct base ad M sz [.ref x, .int a1]) (bm_Post D base (bm_PR ct x (.int b) (tr, bl, np, K, f1, f2, f3, f4, g5, g6, f7, g8, g9, g10) M)) 0 0 (bm_A base) ∧
      ∀ (th : Int32) (M2 : bm_Map) (s2 : Nat), bm_MS ct (x + 21) th (tr, bl, np, K, f1, f2, f3, f4, g5, g6, f7, g8, g9, g10) M2 → Met l yM_good (bm_ws yM_good cM_good 2 (some .boolean)) { frames := 4, cells := 0, slots := 0, locals := 99 } (bm_Pre D ct base ad M2 s2 [.ref (x + 21), .int a1]) (bm_Post D base (bm_Pm (x + 21) M2 s2 (fun v M1 => v = some (.int b) ∧ bm_MS ct (x + 21) 0 (tr, bl, np, K, f1, f2, f3, f4, g5, g6, f7, g8, g9, g10) M1))) 0 0 (bm_A base) := by
  have hBS : bm_BS ct x (tr, bl, np, K, f1, f2, f3, f4, g5, g6, f7, g8, g9, g10) M := hB
  obtain ⟨kf, n, wf, pw, lc, co, pa, L, hkf, ⟨hnp, hn20⟩, hdc, hsta, hdyn⟩ := id hB
  obtain ⟨s1, ⟨ac, s2, hac⟩, ⟨fo, so, s3⟩, ⟨cf, s4, hcf⟩, ⟨pt, s5⟩, ⟨vA, vC, vE, vB, vX, vY, vP, s6⟩, s7, ⟨h, s8⟩, s9, s10⟩ := id hsta
  obtain ⟨⟨d1, d2, d3⟩, ⟨p1, p2, p3⟩, hcre⟩ := id hdyn
  by_cases hv : bm_bl a1 np = 0
  ·
    refine ⟨0, bm_Mp (bc_B_good_n l D ct base ad M sz x np tr (f2 0) (f2 1) (f2 2) (f2 3) bl lc a1 s1 hv) (bm_PR_r hBS), ?_⟩
    · intro th M2 s2 hms
      obtain ⟨g11, g12, g13, g14, g15, f16, g17, hP⟩ := hms
      exact bm_Mp (bc_M_good_n1 l D ct base ad M2 s2 (x + 21) th tr bl np (nI K) f1 f2 f3 f4 g5 g6 f7 g8 g9 g10 g11 g12 g13 g14 g15 f16 g17 a1 hP hv) (fun v M1 H hp _ => ⟨hp.1, ⟨hp.2.1.1, _, _, _, _, _, _, _, hp.2.1.2⟩, hp.2.2⟩)
  · obtain ⟨q, hq, rfl⟩ := bm_bl_in (N := n) (by omega) (by rw [← hnp]; exact hv)
    have hv1 : bm_bl (nI q) np = 1 := bm_bl_01 hv
    have hq20 : q < 20 := by omega
    obtain ⟨u1, u2, F, u3, u4⟩ := p2 q hq
    have e0 : F 0 = g9 (16 * q) := u4 0 (by decide)
    by_cases hb : bm_bL (F 0) 3 = 0
    · by_cases hlo : g9 (16 * q) < 0
      ·
        refine ⟨0, bm_Mp (bc_B_good_n2 l D ct base ad M sz x np tr (f2 0) (f2 1) (f2 2) (f2 3) bl lc q (pa q) (pa q + 1) pw F h s1 s7 s8 u2 u3 hq20 hv1 (p1 q hq) hb) (bm_PR_r hBS), ?_⟩
        · intro th M2 s2 hms
          obtain ⟨g11, g12, g13, g14, g15, f16, g17, hP⟩ := hms
          exact bm_Mp (bc_M_good_n2 l D ct base ad M2 s2 (x + 21) th tr bl np (nI K) f1 f2 f3 f4 g5 g6 f7 g8 g9 g10 g11 g12 g13 g14 g15 f16 g17 q hP hq20 hv1 hlo) (fun v M1 H hp _ => ⟨hp.1, ⟨hp.2.1.1, _, _, _, _, _, _, _, hp.2.1.2⟩, hp.2.2⟩)
      · have hhi : 2 < g9 (16 * q) := bm_lt2 ((bm_bL_or (e0 ▸ hb)).resolve_left hlo)
        refine ⟨0, bm_Mp (bc_B_good_n2 l D ct base ad M sz x np tr (f2 0) (f2 1) (f2 2) (f2 3) bl lc q (pa q) (pa q + 1) pw F h s1 s7 s8 u2 u3 hq20 hv1 (p1 q hq) hb) (bm_PR_r hBS), ?_⟩
        · intro th M2 s2 hms
          obtain ⟨g11, g12, g13, g14, g15, f16, g17, hP⟩ := hms
          exact bm_Mp (bc_M_good_n3 l D ct base ad M2 s2 (x + 21) th tr bl np (nI K) f1 f2 f3 f4 g5 g6 f7 g8 g9 g10 g11 g12 g13 g14 g15 f16 g17 q hP hq20 hv1 hlo hhi) (fun v M1 H hp _ => ⟨hp.1, ⟨hp.2.1.1, _, _, _, _, _, _, _, hp.2.1.2⟩, hp.2.2⟩)
    · obtain ⟨d, hd, hd0⟩ := bm_bL_in (N := 3) (by decide) hb
      have hb1 := bm_bL_01 hb
      have hdm : g9 (16 * q) = lN d := e0.symm.trans hd0
      obtain ⟨kn, hkn, hnu⟩ : ∃ m, m < 2 ^ 59 ∧ bm_hc (lN d) (bm_pf F (bm_h3 (F 2) (F 3) (F 1))) = lN m := bm_end_n _
      have hnm : bm_hc (lN d) (bm_ph g9 q (bm_ch g9 q)) = lN kn := (bm_num_eq u4).symm.trans hnu
      have hgd := bm_gd_eq (d := d) (k := kn) u4
      refine ⟨bm_gd (bm_gw (bm_ph g9 q (bm_ch g9 q)) 4) (bm_is d (g9 (16 * q + 1)) kn), bm_Mp (bc_B_good_ok l D ct base ad M sz x np tr (f2 0) (f2 1) (f2 2) (f2 3) bl lc q (pa q) (pa q + 1) pw F h d kn s1 s7 s8 u2 u3 hq20 hv1 (p1 q hq) (by omega) (by omega) (by omega) hb1 hd0 hd hnu hkn) (fun v M1 H hp _ => ?_), ?_⟩
      · obtain ⟨hr, rfl, -⟩ := hp
        rw [hgd] at hr
        exact ⟨hr, bm_BS.mk (bm_BD.up12 hB _), fun c q1 q2 => bm_up_ne (by omega)⟩
      · intro th M2 s2 hms
        obtain ⟨g11, g12, g13, g14, g15, f16, g17, hP⟩ := hms
        exact bm_Mp (bc_M_good_ok l D ct base ad M2 s2 (x + 21) th tr bl np (nI K) f1 f2 f3 f4 g5 g6 f7 g8 g9 g10 g11 g12 g13 g14 g15 f16 g17 q hP hq20 hv1 d kn hdm hd hnm hkn) (fun v M1 H hp _ => ⟨hp.1, ⟨hp.2.1.1, _, _, _, _, _, _, _, hp.2.1.2⟩, hp.2.2⟩)
