set_option maxHeartbeats 4000000 in
set_option maxRecDepth 100000 in
theorem bc_B_deposit_t5 (l : Launch) (hlt : l.stackTraces = false) (D : va_G) (ct : Nat → ClassId) (base : Nat) (ad : Nat → Nat) (M : bm_Map) (sz : Nat) (x : Nat) (pc lt wc dc fc rc : Int32) (lb : Int64) (lc : Value) (k0 e b j d k : Nat) (pa : Nat → Option Nat) (f h : Nat → Int64) (L0 : List bm_CE) (ce : bm_CE) (h0 : M x = some (.inr (6, [.ref (x + 1), .ref (x + 2), .ref (x + 11), .int pc, .ref (x + 12), lc, .int lt, .long lb, .int wc, .int dc, .int fc, .int rc]))) (g1 : M (x + 11) = some (.inl (ct 4, 20, .inr (.inr (.inr (.inr pa)))))) (g2 : M (x + 12) = some (.inl (ct 1, 4, .inr (.inl h)))) (g3 : M e = some (.inr (4, [.ref b]))) (g4 : M b = some (.inl (ct 1, 16, .inr (.inl f)))) (hk : k0 < 20) (hv : bm_bl (nI k0) pc = 1) (hpa : pa k0 = some e) (hj : j < 4) (hbx : x + 12 ≠ b) (hex : e ≠ x + 12) (hex2 : x ≠ b) (hbd : bm_bL (f 0) 3 = 1) (hd0 : f 0 = lN d) (hd : d < 3) (hnum : bm_hc (lN d) (bm_pf f (bm_h3 (f 2) (f 3) (f 1))) = lN k) (hk1 : k < 2 ^ 59) (hgood : ¬ bm_gd (bm_gw (bm_pf f (bm_h3 (f 2) (f 3) (f 1))) 4) (bm_is d (f 1) k) = 0) (hL0 : bm_CL ct M L0 lc) (hLx : ∀ c ∈ L0, c.a ≠ x + 12 ∧ c.b ≠ x + 12 ∧ c.c ≠ x + 12) (hce : ce ∈ L0) (hfc : bm_fc (f 0) (bm_hs (bm_pf f (bm_h3 (f 2) (f 3) (f 1))) h 4) L0 = .ref ce.a) : bm_MG l yB_deposit (bm_ws yB_deposit cB_deposit 6 (some .int)) { frames := 6, cells := 1, slots := 6, locals := 100 } (bm_Pre D ct base ad M sz [.ref x, .int (nI k0), .int (nI j)]) (bm_PostT D base "java/lang/IllegalStateException" (fun M1 n => n = sz + 1 ∧ M1 x = some (.inr (6, [.ref (x + 1), .ref (x + 2), .ref (x + 11), .int pc, .ref (x + 12), lc, .int (bm_ac (bm_rv ce.hv f (ce.c0 ^^^ (bm_h3 (f 2) (f 3) (f 1))) 4)), .long lb, .int wc, .int dc, .int fc, .int (rc + 1)])) ∧ M1 (x + 12) = some (.inl (ct 1, 4, .inr (.inl (bm_hs (bm_pf f (bm_h3 (f 2) (f 3) (f 1))) h 4)))) ∧ ∀ b, b ≠ x → b ≠ x + 12 → M1 b = M b)) 1 6 (bm_A base) := by
  refine bm_ofT hlt (cc := cB_deposit) (maxL := 6) (ret := (some .int)) (by decide +kernel) (Nat.le_of_ble_eq_true rfl) ?_
  intro vp ve s vm args below meth vc hx hb hr hlk hts hown hml hnm ls hl hz hM hG R Q hR hQ hT
  have hown : s.vm.findClass "BlindMint" = some vm.cls := hown
  have hK := hG.K
  have hS : va_S (bm_A base) s.heap s.heap [] := va_S.rf
  have hl : lv_has ls 6 [(0, .ref x), (1, .int (nI k0)), (2, .int (nI j))] := hl
  have hF : ∀ b, b ≠ x → b ≠ x + 12 → M b = M b := fun _ _ _ => rfl
  refine lv_aload_n hx hb dB_deposit_0 rfl (lv_at hl 0 rfl) ?_
  refine lv_iload_n hx hb dB_deposit_1 rfl (lv_at hl 1 rfl) ?_
  refine bm_callE (va_runV (As := [.int (nI k0)]) (rest := []) ⟨hx, hb, hml, hown, hts⟩ (bc_B_findPayment_ok l D ct base ad M sz x pc lt wc dc fc rc lb lc k0 e pa h0 g1 hk hv hpa) (cwV 1 hts (bm_goodV bw_150 bw_152 bs_0 bw_1 bw_153) rfl rfl rfl (by decide +kernel) (by rw [← hR]; exact ⟨Nat.le_of_ble_eq_true rfl, Nat.le_of_ble_eq_true rfl⟩)) (bm_preV hM hG hS hz h0 rfl) rfl rfl hl.1 rfl (lv_room (Nat.le_of_ble_eq_true rfl)) dB_deposit_2 (by rw [← hR]; exact ⟨Nat.le_of_ble_eq_true rfl, Nat.le_of_ble_eq_true rfl⟩)) hS (fun H locs hz hM hS => ?_)
  refine lv_astore_n hx hb dB_deposit_5 rfl hl (by decide) rfl (fun ls hl => ?_)
  have hl : lv_has ls 6 [(3, .ref e), (0, .ref x), (1, .int (nI k0)), (2, .int (nI j))] := hl
  refine lv_iload_n hx hb dB_deposit_6 rfl (lv_at hl 3 rfl) ?_
  refine bm_callE (va_runS (As := [.int (nI j)]) (rest := []) ⟨hx, hb, hml, hown, hts⟩ (bc_B_isAccount l D ct base ad M sz (nI j)) (va_cwS 1 hts (bm_goodS bw_221 bw_222 bw_1 bw_223) rfl rfl rfl (by decide +kernel) (by rw [← hR]; exact ⟨Nat.le_of_ble_eq_true rfl, Nat.le_of_ble_eq_true rfl⟩)) (bm_preS hM hG hS hz) rfl rfl hl.1 rfl (lv_room (Nat.le_of_ble_eq_true rfl)) dB_deposit_7 (by rw [← hR]; exact ⟨Nat.le_of_ble_eq_true rfl, Nat.le_of_ble_eq_true rfl⟩)) hS (fun H locs hz hM hS => ?_)
  refine lv_if_eq (tgt := 25) hx hb dB_deposit_10 rfl (fun h10 => absurd h10 (by rw [show bm_bl (nI j) 4 = 1 from (bm_bl_nI (N := 4) hj (by decide))]; decide)) (fun h10 => ?_)
  refine lv_aload_n hx hb dB_deposit_13 rfl (lv_at hl 0 rfl) ?_
  refine lv_ifnull hx hb dB_deposit_14 ?_
  refine lv_aload_n hx hb dB_deposit_17 rfl (lv_at hl 1 rfl) ?_
  refine lv_aload_n hx hb dB_deposit_18 rfl (lv_at hl 0 rfl) ?_
  refine bm_callE (va_runV (As := [.ref e]) (rest := []) ⟨hx, hb, hml, hown, hts⟩ (bc_B_isGood_ok l D ct base ad M sz x pc lt wc dc fc rc lb lc e b f h d k h0 g2 g3 g4 hbx hex hex2 hbd hd0 hd hnum hk1) (cwV 1 hts (bm_goodV bw_154 bw_156 bs_1 bw_1 bw_157) rfl rfl rfl (by decide +kernel) (by rw [← hR]; exact ⟨Nat.le_of_ble_eq_true rfl, Nat.le_of_ble_eq_true rfl⟩)) (bm_preV hM hG hS hz h0 rfl) rfl rfl hl.1 rfl (lv_room (Nat.le_of_ble_eq_true rfl)) dB_deposit_19 (by rw [← hR]; exact ⟨Nat.le_of_ble_eq_true rfl, Nat.le_of_ble_eq_true rfl⟩)) hS (fun H locs hz hM hS => ?_)
  obtain ⟨M1, eM1⟩ : ∃ X, X = bm_up M (x + 12) (.inl (ct 1, 4, .inr (.inl (bm_hs (bm_pf f (bm_h3 (f 2) (f 3) (f 1))) h 4)))) := ⟨_, rfl⟩
  replace hM : bm_M D base M1 H := by rw [eM1]; exact hM
  replace h0 : M1 x = some (.inr (6, [.ref (x + 1), .ref (x + 2), .ref (x + 11), .int pc, .ref (x + 12), lc, .int lt, .long lb, .int wc, .int dc, .int fc, .int rc])) := by rw [eM1, bm_up_ne (by omega)]; exact h0
  replace g1 : M1 (x + 11) = some (.inl (ct 4, 20, .inr (.inr (.inr (.inr pa))))) := by rw [eM1, bm_up_ne (by omega)]; exact g1
  replace g3 : M1 e = some (.inr (4, [.ref b])) := by rw [eM1, bm_up_ne (bm_ne_ao g2 g3)]; exact g3
  replace g4 : M1 b = some (.inl (ct 1, 16, .inr (.inl f))) := by rw [eM1, bm_up_ne (fun z => hbx z.symm)]; exact g4
  replace g2 : M1 (x + 12) = some (.inl (ct 1, 4, .inr (.inl (bm_hs (bm_pf f (bm_h3 (f 2) (f 3) (f 1))) h 4)))) := by rw [eM1]; exact bm_up_self _ _ _
  replace hF : ∀ b, b ≠ x → b ≠ x + 12 → M1 b = M b := fun b q1 q2 => by rw [eM1]; exact (bm_up_ne (by first | exact q1 | exact q2)).trans (hF b q1 q2)
  have hL1 : bm_CL ct M1 L0 lc := by rw [eM1]; exact bm_CL_up hL0 hLx
  clear eM1
  refine lv_if_ne (tgt := 33) hx hb dB_deposit_22 rfl (fun h22 => ?_) (fun h22 => absurd h22 hgood)
  refine lv_aload_n hx hb dB_deposit_33 rfl (lv_at hl 1 rfl) ?_
  refine lv_aload_n hx hb dB_deposit_34 rfl (lv_at hl 0 rfl) ?_
  refine bm_callE (va_runV (As := []) (rest := [.ref x]) ⟨hx, hb, hml, hown, hts⟩ (bc_P_denomination l D ct base ad M1 sz e b f g3 g4) (cwV 0 hts (bm_goodV bw_158 bw_159 bw_160 bw_16 bw_161) rfl rfl rfl (by decide +kernel) (by rw [← hR]; exact ⟨Nat.le_of_ble_eq_true rfl, Nat.le_of_ble_eq_true rfl⟩)) (bm_preV hM hG hS hz g3 rfl) rfl rfl hl.1 rfl (lv_room (Nat.le_of_ble_eq_true rfl)) dB_deposit_35 (by rw [← hR]; exact ⟨Nat.le_of_ble_eq_true rfl, Nat.le_of_ble_eq_true rfl⟩)) hS (fun H locs hz hM hS => ?_)
  refine bm_callE (va_runV (As := [.long (f 0)]) (rest := []) ⟨hx, hb, hml, hown, hts⟩ (bc_B_findCredit l D ct base ad M1 sz x pc lt wc dc fc rc lb lc (f 0) (bm_hs (bm_pf f (bm_h3 (f 2) (f 3) (f 1))) h 4) L0 h0 g2 hL1) (cwV 1 hts (bm_goodV bw_519 bw_521 bs_9 bw_1 bw_522) rfl rfl rfl (by decide +kernel) (by rw [← hR]; exact ⟨Nat.le_of_ble_eq_true rfl, Nat.le_of_ble_eq_true rfl⟩)) (bm_preV hM hG hS hz h0 rfl) rfl rfl hl.1 rfl (lv_room (Nat.le_of_ble_eq_true rfl)) dB_deposit_38 (by rw [← hR]; exact ⟨Nat.le_of_ble_eq_true rfl, Nat.le_of_ble_eq_true rfl⟩)) hS (fun H locs hz hM hS => ?_)
  rw [hfc]
  obtain ⟨bv, k1, -, k3⟩ := bm_CL_mem hL1 hce
  refine lv_astore hx hb dB_deposit_41 hl (by decide) rfl (fun ls hl => ?_)
  have hl : lv_has ls 6 [(4, .ref ce.a), (3, .ref e), (0, .ref x), (1, .int (nI k0)), (2, .int (nI j))] := hl
  refine lv_aload hx hb dB_deposit_43 (lv_at hl 0 rfl) ?_
  refine lv_ifnull hx hb dB_deposit_45 ?_
  refine lv_aload_n hx hb dB_deposit_48 rfl (lv_at hl 2 rfl) ?_
  refine lv_dup hx hb dB_deposit_49 rfl ?_
  refine bm_get (ci := 6) (v := .int rc) (C := "BlindMint") (T := bt_B) (N := 12) hx hb hts bu_B hown hK hM h0 rfl 11 (by decide) (hts _ bw_120) (fun _ h9 => h9) rfl dB_deposit_50 ?_
  refine lv_iconst (v := 1) hx hb dB_deposit_53 (by decide) ?_
  refine lv_iadd hx hb dB_deposit_54 ?_
  refine bm_put (ci := 6) (v := .int (rc + 1)) (ty := .int) (C := "BlindMint") (T := bt_B) (N := 12) hx hb hts bu_B by_B bo_B bn_B hown hK hM hS h0 rfl 11 (by decide) (hts _ bw_120) (fun _ h9 => h9) rfl (by decide +kernel) rfl rfl (Nat.le_of_ble_eq_true rfl) dB_deposit_55 (fun H locs hz1 hM hS => ?_)
  replace hz := hz1.trans hz
  replace hM : bm_M D base (bm_up M1 x (.inr (6, [.ref (x + 1), .ref (x + 2), .ref (x + 11), .int pc, .ref (x + 12), lc, .int lt, .long lb, .int wc, .int dc, .int fc, .int (rc + 1)]))) H := hM
  obtain ⟨M2, eM2⟩ : ∃ X, X = bm_up M1 x (.inr (6, [.ref (x + 1), .ref (x + 2), .ref (x + 11), .int pc, .ref (x + 12), lc, .int lt, .long lb, .int wc, .int dc, .int fc, .int (rc + 1)])) := ⟨_, rfl⟩
  rw [← eM2] at hM
  replace g1 : M2 (x + 11) = some (.inl (ct 4, 20, .inr (.inr (.inr (.inr pa))))) := by rw [eM2, bm_up_ne (by omega)]; exact g1
  replace g2 : M2 (x + 12) = some (.inl (ct 1, 4, .inr (.inl (bm_hs (bm_pf f (bm_h3 (f 2) (f 3) (f 1))) h 4)))) := by rw [eM2, bm_up_ne (by omega)]; exact g2
  replace g3 : M2 e = some (.inr (4, [.ref b])) := by rw [eM2, bm_up_ne (bm_ne_oo h0 g3 (by decide))]; exact g3
  replace g4 : M2 b = some (.inl (ct 1, 16, .inr (.inl f))) := by rw [eM2, bm_up_ne (bm_ne_oa h0 g4)]; exact g4
  replace k1 : M2 ce.a = some (.inr (3, [.long ce.d0, .ref ce.b, .long ce.c0, .ref ce.c, bv])) := by rw [eM2, bm_up_ne (bm_ne_oo h0 k1 (by decide))]; exact k1
  replace k3 : M2 ce.c = some (.inl (ct 1, 4, .inr (.inl ce.hv))) := by rw [eM2, bm_up_ne (bm_ne_oa h0 k3)]; exact k3
  replace h0 : M2 x = some (.inr (6, [.ref (x + 1), .ref (x + 2), .ref (x + 11), .int pc, .ref (x + 12), lc, .int lt, .long lb, .int wc, .int dc, .int fc, .int (rc + 1)])) := by rw [eM2]; exact bm_up_self _ _ _
  replace hF : ∀ b, b ≠ x → b ≠ x + 12 → M2 b = M b := fun b q1 q2 => by rw [eM2]; exact (bm_up_ne (by first | exact q1 | exact q2)).trans (hF b q1 q2)
  clear eM2
  refine lv_aload_n hx hb dB_deposit_58 rfl (lv_at hl 2 rfl) ?_
  refine lv_aload hx hb dB_deposit_59 (lv_at hl 0 rfl) ?_
  refine lv_aload_n hx hb dB_deposit_61 rfl (lv_at hl 1 rfl) ?_
  refine bm_callE (va_runV (As := [.ref e]) (rest := [.ref x]) ⟨hx, hb, hml, hown, hts⟩ (bc_R_revealedIdentity l D ct base ad M2 sz ce.a ce.b ce.c e b ce.d0 ce.c0 ce.hv f bv k1 k3 g3 g4) (cwV 1 hts (bm_goodV bw_527 bw_528 bw_529 bw_18 bw_530) rfl rfl rfl (by decide +kernel) (by rw [← hR]; exact ⟨Nat.le_of_ble_eq_true rfl, Nat.le_of_ble_eq_true rfl⟩)) (bm_preV hM hG hS hz k1 rfl) rfl rfl hl.1 rfl (lv_room (Nat.le_of_ble_eq_true rfl)) dB_deposit_62 (by rw [← hR]; exact ⟨Nat.le_of_ble_eq_true rfl, Nat.le_of_ble_eq_true rfl⟩)) hS (fun H locs hz hM hS => ?_)
  refine bm_callE (va_runS (As := [.long (bm_rv ce.hv f (ce.c0 ^^^ (bm_h3 (f 2) (f 3) (f 1))) 4)]) (rest := [.ref x]) ⟨hx, hb, hml, hown, hts⟩ (bc_B_accountOf l D ct base ad M2 sz (bm_rv ce.hv f (ce.c0 ^^^ (bm_h3 (f 2) (f 3) (f 1))) 4)) (va_cwS 1 hts (bm_goodS bw_538 bw_539 bw_1 bw_540) rfl rfl rfl (by decide +kernel) (by rw [← hR]; exact ⟨Nat.le_of_ble_eq_true rfl, Nat.le_of_ble_eq_true rfl⟩)) (bm_preS hM hG hS hz) rfl rfl hl.1 rfl (lv_room (Nat.le_of_ble_eq_true rfl)) dB_deposit_65 (by rw [← hR]; exact ⟨Nat.le_of_ble_eq_true rfl, Nat.le_of_ble_eq_true rfl⟩)) hS (fun H locs hz hM hS => ?_)
  refine bm_put (ci := 6) (v := .int (bm_ac (bm_rv ce.hv f (ce.c0 ^^^ (bm_h3 (f 2) (f 3) (f 1))) 4))) (ty := .int) (C := "BlindMint") (T := bt_B) (N := 12) hx hb hts bu_B by_B bo_B bn_B hown hK hM hS h0 rfl 6 (by decide) (hts _ bw_115) (fun _ h9 => h9) rfl (by decide +kernel) rfl rfl (Nat.le_of_ble_eq_true rfl) dB_deposit_68 (fun H locs hz1 hM hS => ?_)
  replace hz := hz1.trans hz
  replace hM : bm_M D base (bm_up M2 x (.inr (6, [.ref (x + 1), .ref (x + 2), .ref (x + 11), .int pc, .ref (x + 12), lc, .int (bm_ac (bm_rv ce.hv f (ce.c0 ^^^ (bm_h3 (f 2) (f 3) (f 1))) 4)), .long lb, .int wc, .int dc, .int fc, .int (rc + 1)]))) H := hM
  obtain ⟨M3, eM3⟩ : ∃ X, X = bm_up M2 x (.inr (6, [.ref (x + 1), .ref (x + 2), .ref (x + 11), .int pc, .ref (x + 12), lc, .int (bm_ac (bm_rv ce.hv f (ce.c0 ^^^ (bm_h3 (f 2) (f 3) (f 1))) 4)), .long lb, .int wc, .int dc, .int fc, .int (rc + 1)])) := ⟨_, rfl⟩
  rw [← eM3] at hM
  replace g1 : M3 (x + 11) = some (.inl (ct 4, 20, .inr (.inr (.inr (.inr pa))))) := by rw [eM3, bm_up_ne (by omega)]; exact g1
  replace g2 : M3 (x + 12) = some (.inl (ct 1, 4, .inr (.inl (bm_hs (bm_pf f (bm_h3 (f 2) (f 3) (f 1))) h 4)))) := by rw [eM3, bm_up_ne (by omega)]; exact g2
  replace g3 : M3 e = some (.inr (4, [.ref b])) := by rw [eM3, bm_up_ne (bm_ne_oo h0 g3 (by decide))]; exact g3
  replace g4 : M3 b = some (.inl (ct 1, 16, .inr (.inl f))) := by rw [eM3, bm_up_ne (bm_ne_oa h0 g4)]; exact g4
  replace k1 : M3 ce.a = some (.inr (3, [.long ce.d0, .ref ce.b, .long ce.c0, .ref ce.c, bv])) := by rw [eM3, bm_up_ne (bm_ne_oo h0 k1 (by decide))]; exact k1
  replace k3 : M3 ce.c = some (.inl (ct 1, 4, .inr (.inl ce.hv))) := by rw [eM3, bm_up_ne (bm_ne_oa h0 k3)]; exact k3
  replace h0 : M3 x = some (.inr (6, [.ref (x + 1), .ref (x + 2), .ref (x + 11), .int pc, .ref (x + 12), lc, .int (bm_ac (bm_rv ce.hv f (ce.c0 ^^^ (bm_h3 (f 2) (f 3) (f 1))) 4)), .long lb, .int wc, .int dc, .int fc, .int (rc + 1)])) := by rw [eM3]; exact bm_up_self _ _ _
  replace hF : ∀ b, b ≠ x → b ≠ x + 12 → M3 b = M b := fun b q1 q2 => by rw [eM3]; exact (bm_up_ne (by first | exact q1 | exact q2)).trans (hF b q1 q2)
  clear eM3
  exact bm_throw hQ hx hb hlk hT hts hown hG hS hM ⟨by rw [hz], h0, g2, hF⟩ bm_kxS hl.1 hml dB_deposit_71 dB_deposit_74 dB_deposit_75 dB_deposit_78 (Nat.le_of_ble_eq_true rfl) (Nat.le_of_ble_eq_true rfl) (by rw [← hR]; exact ⟨Nat.le_of_ble_eq_true rfl, Nat.le_of_ble_eq_true rfl, Nat.le_of_ble_eq_true rfl, Nat.le_of_ble_eq_true rfl⟩)
set_option maxHeartbeats 4000000 in
set_option maxRecDepth 100000 in
theorem bc_B_deposit_ok_n (l : Launch) (D : va_G) (ct : Nat → ClassId) (base : Nat) (ad : Nat → Nat) (M : bm_Map) (sz : Nat) (x : Nat) (pc lt wc fc rc : Int32) (lb : Int64) (k0 e b j d k : Nat) (pa : Nat → Option Nat) (f h : Nat → Int64) (L0 : List bm_CE) (K : Nat) (bal cc : Int32) (ac : Nat → Option Nat) (h0 : M x = some (.inr (6, [.ref (x + 1), .ref (x + 2), .ref (x + 11), .int pc, .ref (x + 12), .null, .int lt, .long lb, .int wc, .int (nI K), .int fc, .int rc]))) (g1 : M (x + 11) = some (.inl (ct 4, 20, .inr (.inr (.inr (.inr pa)))))) (g2 : M (x + 12) = some (.inl (ct 1, 4, .inr (.inl h)))) (g3 : M e = some (.inr (4, [.ref b]))) (g4 : M b = some (.inl (ct 1, 16, .inr (.inl f)))) (g5 : M (x + 1) = some (.inl (ct 3, 4, .inr (.inr (.inr (.inr ac)))))) (g6 : M (x + (13 + 2 * j)) = some (.inr (0, [.int bal, .ref (x + (14 + 2 * j)), .int cc]))) (hac : ∀ a, a < 4 → ac a = some (x + (13 + 2 * a))) (hk : k0 < 20) (hv : bm_bl (nI k0) pc = 1) (hpa : pa k0 = some e) (hj : j < 4) (hbx : x + 12 ≠ b) (hex : e ≠ x + 12) (hex2 : x ≠ b) (hbd : bm_bL (f 0) 3 = 1) (hd0 : f 0 = lN d) (hd : d < 3) (hnum : bm_hc (lN d) (bm_pf f (bm_h3 (f 2) (f 3) (f 1))) = lN k) (hk1 : k < 2 ^ 59) (hxe : x + 21 ≤ e) (hxb : x + 21 ≤ b) (hK5 : K < 512) (hgood : ¬ bm_gd (bm_gw (bm_pf f (bm_h3 (f 2) (f 3) (f 1))) 4) (bm_is d (f 1) k) = 0) (hL0 : bm_CL ct M L0 .null) (hLx : ∀ c ∈ L0, c.a ≠ x + 12 ∧ c.b ≠ x + 12 ∧ c.c ≠ x + 12) (hfc : bm_fc (f 0) (bm_hs (bm_pf f (bm_h3 (f 2) (f 3) (f 1))) h 4) L0 = .null) : Met l yB_deposit (bm_ws yB_deposit cB_deposit 6 (some .int)) { frames := 4, cells := 3, slots := 13, locals := 100 } (bm_Pre D ct base ad M sz [.ref x, .int (nI k0), .int (nI j)]) (bm_Post D base (fun v M1 n => v = some (.int (bm_w d)) ∧ n = sz + 3 ∧ M1 x = some (.inr (6, [.ref (x + 1), .ref (x + 2), .ref (x + 11), .int pc, .ref (x + 12), .ref sz, .int lt, .long lb, .int wc, .int (nI (K + 1)), .int fc, .int rc])) ∧ M1 (x + 12) = some (.inl (ct 1, 4, .inr (.inl (bm_hs (bm_pf f (bm_h3 (f 2) (f 3) (f 1))) h 4)))) ∧ M1 (x + (13 + 2 * j)) = some (.inr (0, [.int (bal + bm_w d), .ref (x + (14 + 2 * j)), .int cc])) ∧ M1 sz = some (.inr (3, [.long (f 0), .ref (sz + 1), .long (bm_h3 (f 2) (f 3) (f 1)), .ref (sz + 2), .null])) ∧ M1 (sz + 1) = some (.inl (ct 1, 4, .inr (.inl (bm_hs (bm_pf f (bm_h3 (f 2) (f 3) (f 1))) h 4)))) ∧ (∃ hv, M1 (sz + 2) = some (.inl (ct 1, 4, .inr (.inl hv))) ∧ ∀ t, t < 4 → hv t = f (4 + 3 * t)) ∧ ∀ b, b ≠ x → b ≠ x + 12 → b ≠ x + (13 + 2 * j) → b < sz → M1 b = M b)) 3 13 (bm_A base) := by
  refine bm_ofB (cc := cB_deposit) (maxL := 6) (ret := (some .int)) (by decide +kernel) (Nat.le_of_ble_eq_true rfl) ?_
  intro vp ve s vm args below meth vc hx hb hr hlk hts hown hml hnm ls hl hz hM hG R Q hR hQ
  have hown : s.vm.findClass "BlindMint" = some vm.cls := hown
  have hK := hG.K
  have hS : va_S (bm_A base) s.heap s.heap [] := va_S.rf
  have hl : lv_has ls 6 [(0, .ref x), (1, .int (nI k0)), (2, .int (nI j))] := hl
  have lt_0 : x < sz := hz ▸ hM.lt h0
  have lt_1 : x + 11 < sz := hz ▸ hM.lt g1
  have lt_2 : x + 12 < sz := hz ▸ hM.lt g2
  have lt_3 : e < sz := hz ▸ hM.lt g3
  have lt_4 : b < sz := hz ▸ hM.lt g4
  have lt_5 : x + 1 < sz := hz ▸ hM.lt g5
  have lt_6 : x + (13 + 2 * j) < sz := hz ▸ hM.lt g6
  have hF : ∀ b, b ≠ x → b ≠ x + 12 → b ≠ x + (13 + 2 * j) → b < sz → M b = M b := fun _ _ _ _ _ => rfl
  refine lv_aload_n hx hb dB_deposit_0 rfl (lv_at hl 0 rfl) ?_
  refine lv_iload_n hx hb dB_deposit_1 rfl (lv_at hl 1 rfl) ?_
  refine bm_callE (va_runV (As := [.int (nI k0)]) (rest := []) ⟨hx, hb, hml, hown, hts⟩ (bc_B_findPayment_ok l D ct base ad M sz x pc lt wc (nI K) fc rc lb .null k0 e pa h0 g1 hk hv hpa) (cwV 1 hts (bm_goodV bw_150 bw_152 bs_0 bw_1 bw_153) rfl rfl rfl (by decide +kernel) (by rw [← hR]; exact ⟨Nat.le_of_ble_eq_true rfl, Nat.le_of_ble_eq_true rfl⟩)) (bm_preV hM hG hS hz h0 rfl) rfl rfl hl.1 rfl (lv_room (Nat.le_of_ble_eq_true rfl)) dB_deposit_2 (by rw [← hR]; exact ⟨Nat.le_of_ble_eq_true rfl, Nat.le_of_ble_eq_true rfl⟩)) hS (fun H locs hz hM hS => ?_)
  refine lv_astore_n hx hb dB_deposit_5 rfl hl (by decide) rfl (fun ls hl => ?_)
  have hl : lv_has ls 6 [(3, .ref e), (0, .ref x), (1, .int (nI k0)), (2, .int (nI j))] := hl
  refine lv_iload_n hx hb dB_deposit_6 rfl (lv_at hl 3 rfl) ?_
  refine bm_callE (va_runS (As := [.int (nI j)]) (rest := []) ⟨hx, hb, hml, hown, hts⟩ (bc_B_isAccount l D ct base ad M sz (nI j)) (va_cwS 1 hts (bm_goodS bw_221 bw_222 bw_1 bw_223) rfl rfl rfl (by decide +kernel) (by rw [← hR]; exact ⟨Nat.le_of_ble_eq_true rfl, Nat.le_of_ble_eq_true rfl⟩)) (bm_preS hM hG hS hz) rfl rfl hl.1 rfl (lv_room (Nat.le_of_ble_eq_true rfl)) dB_deposit_7 (by rw [← hR]; exact ⟨Nat.le_of_ble_eq_true rfl, Nat.le_of_ble_eq_true rfl⟩)) hS (fun H locs hz hM hS => ?_)
  refine lv_if_eq (tgt := 25) hx hb dB_deposit_10 rfl (fun h10 => absurd h10 (by rw [show bm_bl (nI j) 4 = 1 from (bm_bl_nI (N := 4) hj (by decide))]; decide)) (fun h10 => ?_)
  refine lv_aload_n hx hb dB_deposit_13 rfl (lv_at hl 0 rfl) ?_
  refine lv_ifnull hx hb dB_deposit_14 ?_
  refine lv_aload_n hx hb dB_deposit_17 rfl (lv_at hl 1 rfl) ?_
  refine lv_aload_n hx hb dB_deposit_18 rfl (lv_at hl 0 rfl) ?_
  refine bm_callE (va_runV (As := [.ref e]) (rest := []) ⟨hx, hb, hml, hown, hts⟩ (bc_B_isGood_ok l D ct base ad M sz x pc lt wc (nI K) fc rc lb .null e b f h d k h0 g2 g3 g4 hbx hex hex2 hbd hd0 hd hnum hk1) (cwV 1 hts (bm_goodV bw_154 bw_156 bs_1 bw_1 bw_157) rfl rfl rfl (by decide +kernel) (by rw [← hR]; exact ⟨Nat.le_of_ble_eq_true rfl, Nat.le_of_ble_eq_true rfl⟩)) (bm_preV hM hG hS hz h0 rfl) rfl rfl hl.1 rfl (lv_room (Nat.le_of_ble_eq_true rfl)) dB_deposit_19 (by rw [← hR]; exact ⟨Nat.le_of_ble_eq_true rfl, Nat.le_of_ble_eq_true rfl⟩)) hS (fun H locs hz hM hS => ?_)
  obtain ⟨M1, eM1⟩ : ∃ X, X = bm_up M (x + 12) (.inl (ct 1, 4, .inr (.inl (bm_hs (bm_pf f (bm_h3 (f 2) (f 3) (f 1))) h 4)))) := ⟨_, rfl⟩
  replace hM : bm_M D base M1 H := by rw [eM1]; exact hM
  replace h0 : M1 x = some (.inr (6, [.ref (x + 1), .ref (x + 2), .ref (x + 11), .int pc, .ref (x + 12), .null, .int lt, .long lb, .int wc, .int (nI K), .int fc, .int rc])) := by rw [eM1, bm_up_ne (by omega)]; exact h0
  replace g1 : M1 (x + 11) = some (.inl (ct 4, 20, .inr (.inr (.inr (.inr pa))))) := by rw [eM1, bm_up_ne (by omega)]; exact g1
  replace g3 : M1 e = some (.inr (4, [.ref b])) := by rw [eM1, bm_up_ne (bm_ne_ao g2 g3)]; exact g3
  replace g4 : M1 b = some (.inl (ct 1, 16, .inr (.inl f))) := by rw [eM1, bm_up_ne (fun z => hbx z.symm)]; exact g4
  replace g5 : M1 (x + 1) = some (.inl (ct 3, 4, .inr (.inr (.inr (.inr ac))))) := by rw [eM1, bm_up_ne (by omega)]; exact g5
  replace g6 : M1 (x + (13 + 2 * j)) = some (.inr (0, [.int bal, .ref (x + (14 + 2 * j)), .int cc])) := by rw [eM1, bm_up_ne (by omega)]; exact g6
  replace g2 : M1 (x + 12) = some (.inl (ct 1, 4, .inr (.inl (bm_hs (bm_pf f (bm_h3 (f 2) (f 3) (f 1))) h 4)))) := by rw [eM1]; exact bm_up_self _ _ _
  replace hF : ∀ b, b ≠ x → b ≠ x + 12 → b ≠ x + (13 + 2 * j) → b < sz → M1 b = M b := fun b q1 q2 q3 q4 => by rw [eM1]; exact (bm_up_ne (by omega)).trans (hF b q1 q2 q3 q4)
  have hL1 : bm_CL ct M1 L0 .null := by rw [eM1]; exact bm_CL_up hL0 hLx
  clear eM1
  refine lv_if_ne (tgt := 33) hx hb dB_deposit_22 rfl (fun h22 => ?_) (fun h22 => absurd h22 hgood)
  refine lv_aload_n hx hb dB_deposit_33 rfl (lv_at hl 1 rfl) ?_
  refine lv_aload_n hx hb dB_deposit_34 rfl (lv_at hl 0 rfl) ?_
  refine bm_callE (va_runV (As := []) (rest := [.ref x]) ⟨hx, hb, hml, hown, hts⟩ (bc_P_denomination l D ct base ad M1 sz e b f g3 g4) (cwV 0 hts (bm_goodV bw_158 bw_159 bw_160 bw_16 bw_161) rfl rfl rfl (by decide +kernel) (by rw [← hR]; exact ⟨Nat.le_of_ble_eq_true rfl, Nat.le_of_ble_eq_true rfl⟩)) (bm_preV hM hG hS hz g3 rfl) rfl rfl hl.1 rfl (lv_room (Nat.le_of_ble_eq_true rfl)) dB_deposit_35 (by rw [← hR]; exact ⟨Nat.le_of_ble_eq_true rfl, Nat.le_of_ble_eq_true rfl⟩)) hS (fun H locs hz hM hS => ?_)
  refine bm_callE (va_runV (As := [.long (f 0)]) (rest := []) ⟨hx, hb, hml, hown, hts⟩ (bc_B_findCredit l D ct base ad M1 sz x pc lt wc (nI K) fc rc lb .null (f 0) (bm_hs (bm_pf f (bm_h3 (f 2) (f 3) (f 1))) h 4) L0 h0 g2 hL1) (cwV 1 hts (bm_goodV bw_519 bw_521 bs_9 bw_1 bw_522) rfl rfl rfl (by decide +kernel) (by rw [← hR]; exact ⟨Nat.le_of_ble_eq_true rfl, Nat.le_of_ble_eq_true rfl⟩)) (bm_preV hM hG hS hz h0 rfl) rfl rfl hl.1 rfl (lv_room (Nat.le_of_ble_eq_true rfl)) dB_deposit_38 (by rw [← hR]; exact ⟨Nat.le_of_ble_eq_true rfl, Nat.le_of_ble_eq_true rfl⟩)) hS (fun H locs hz hM hS => ?_)
  rw [hfc]
  refine lv_astoreN hx hb dB_deposit_41 hl (by decide) rfl (fun ls hl => ?_)
  have hl : lv_has ls 6 [(4, .null), (3, .ref e), (0, .ref x), (1, .int (nI k0)), (2, .int (nI j))] := hl
  refine lv_aloadN hx hb dB_deposit_43 (lv_at hl 0 rfl) ?_
  refine lv_ifnullN (tgt := 79) hx hb dB_deposit_45 rfl ?_
  refine lv_aload_n hx hb dB_deposit_79 rfl (lv_at hl 2 rfl) ?_
  refine bm_get (ci := 6) (v := .int (nI K)) (C := "BlindMint") (T := bt_B) (N := 12) hx hb hts bu_B hown hK hM h0 rfl 9 (by decide) (hts _ bw_118) (fun _ h9 => h9) rfl dB_deposit_80 ?_
  refine lv_sipush (v := 512) hx hb dB_deposit_83 (by decide) ?_
  refine lv_icmp_lt (tgt := 97) hx hb dB_deposit_86 rfl (fun h86 => ?_) (fun h86 => absurd (nI_lt (b := 512) hK5 (by decide)) h86)
  refine lv_aload_n hx hb dB_deposit_97 rfl (lv_at hl 2 rfl) ?_
  refine bm_newz (ci := 3) (fs := [.long 0, .null, .long 0, .null, .null]) (C := "BlindMint$Credit") (T := bt_R) (N := 5) hz hx hb hts bu_R by_R bo_R hown (hts _ bw_543) (hts _ bw_544) (hts _ bw_18) hK hM hS (Nat.le_trans hG.2.1 hS.1) rfl (fun j hj => by rcases (show j = 0 ∨ j = 1 ∨ j = 2 ∨ j = 3 ∨ j = 4 by omega) with rfl | rfl | rfl | rfl | rfl <;> rfl) (by rw [← hR]; exact Nat.le_of_ble_eq_true rfl) (by rw [← hR]; exact Nat.le_of_ble_eq_true rfl) dB_deposit_98 (fun H hz1 hM hS => ?_)
  replace hz : H.size = sz + 1 := hz1
  obtain ⟨M2, eM2⟩ : ∃ X, X = bm_up M1 sz (.inr (3, [.long 0, .null, .long 0, .null, .null])) := ⟨_, rfl⟩
  replace hM : bm_M D base M2 H := by rw [eM2]; exact hM
  replace h0 : M2 x = some (.inr (6, [.ref (x + 1), .ref (x + 2), .ref (x + 11), .int pc, .ref (x + 12), .null, .int lt, .long lb, .int wc, .int (nI K), .int fc, .int rc])) := by rw [eM2, bm_up_ne (by omega)]; exact h0
  replace g1 : M2 (x + 11) = some (.inl (ct 4, 20, .inr (.inr (.inr (.inr pa))))) := by rw [eM2, bm_up_ne (by omega)]; exact g1
  replace g2 : M2 (x + 12) = some (.inl (ct 1, 4, .inr (.inl (bm_hs (bm_pf f (bm_h3 (f 2) (f 3) (f 1))) h 4)))) := by rw [eM2, bm_up_ne (by omega)]; exact g2
  replace g3 : M2 e = some (.inr (4, [.ref b])) := by rw [eM2, bm_up_ne (by omega)]; exact g3
  replace g4 : M2 b = some (.inl (ct 1, 16, .inr (.inl f))) := by rw [eM2, bm_up_ne (by omega)]; exact g4
  replace g5 : M2 (x + 1) = some (.inl (ct 3, 4, .inr (.inr (.inr (.inr ac))))) := by rw [eM2, bm_up_ne (by omega)]; exact g5
  replace g6 : M2 (x + (13 + 2 * j)) = some (.inr (0, [.int bal, .ref (x + (14 + 2 * j)), .int cc])) := by rw [eM2, bm_up_ne (by omega)]; exact g6
  have hc3 : M2 sz = some (.inr (3, [.long 0, .null, .long 0, .null, .null])) := by rw [eM2]; exact bm_up_self _ _ _
  replace hF : ∀ b, b ≠ x → b ≠ x + 12 → b ≠ x + (13 + 2 * j) → b < sz → M2 b = M b := fun b q1 q2 q3 q4 => by rw [eM2]; exact (bm_up_ne (by omega)).trans (hF b q1 q2 q3 q4)
  clear eM2 hz1
  refine lv_dup hx hb dB_deposit_101 rfl ?_
  refine lv_aload_n hx hb dB_deposit_102 rfl (lv_at hl 1 rfl) ?_
  refine lv_aload_n hx hb dB_deposit_103 rfl (lv_at hl 2 rfl) ?_
  refine bm_get (ci := 6) (v := .ref (x + 12)) (C := "BlindMint") (T := bt_B) (N := 12) hx hb hts bu_B hown hK hM h0 rfl 4 (by decide) (hts _ bw_113) (fun _ h9 => h9) rfl dB_deposit_104 ?_
  refine bm_clone hx hb (hml.trans hl.1.symm) hown (hts _ bw_545) (hts _ bw_546) (hts _ bw_547) (hts _ bw_548) (hts _ bw_549) hG.2.2.1.w550 hK hM hS (Nat.le_trans hG.2.1 hS.1) g2 (by rw [← hR]; exact Nat.le_of_ble_eq_true rfl) (by rw [← hR]; exact Nat.le_of_ble_eq_true rfl) (by rw [← hR]; exact Nat.le_of_ble_eq_true rfl) (by rw [← hR]; exact Nat.le_of_ble_eq_true rfl) dB_deposit_107 (fun H hz1 hM hS => ?_)
  rw [hz] at hz1 hM ⊢
  replace hz : H.size = sz + 2 := hz1
  obtain ⟨M4, eM4⟩ : ∃ X, X = bm_up M2 (sz + 1) (.inl (ct 1, 4, .inr (.inl (bm_hs (bm_pf f (bm_h3 (f 2) (f 3) (f 1))) h 4)))) := ⟨_, rfl⟩
  replace hM : bm_M D base M4 H := by rw [eM4]; exact hM
  replace h0 : M4 x = some (.inr (6, [.ref (x + 1), .ref (x + 2), .ref (x + 11), .int pc, .ref (x + 12), .null, .int lt, .long lb, .int wc, .int (nI K), .int fc, .int rc])) := by rw [eM4, bm_up_ne (by omega)]; exact h0
  replace g1 : M4 (x + 11) = some (.inl (ct 4, 20, .inr (.inr (.inr (.inr pa))))) := by rw [eM4, bm_up_ne (by omega)]; exact g1
  replace g2 : M4 (x + 12) = some (.inl (ct 1, 4, .inr (.inl (bm_hs (bm_pf f (bm_h3 (f 2) (f 3) (f 1))) h 4)))) := by rw [eM4, bm_up_ne (by omega)]; exact g2
  replace g3 : M4 e = some (.inr (4, [.ref b])) := by rw [eM4, bm_up_ne (by omega)]; exact g3
  replace g4 : M4 b = some (.inl (ct 1, 16, .inr (.inl f))) := by rw [eM4, bm_up_ne (by omega)]; exact g4
  replace g5 : M4 (x + 1) = some (.inl (ct 3, 4, .inr (.inr (.inr (.inr ac))))) := by rw [eM4, bm_up_ne (by omega)]; exact g5
  replace g6 : M4 (x + (13 + 2 * j)) = some (.inr (0, [.int bal, .ref (x + (14 + 2 * j)), .int cc])) := by rw [eM4, bm_up_ne (by omega)]; exact g6
  replace hc3 : M4 sz = some (.inr (3, [.long 0, .null, .long 0, .null, .null])) := by rw [eM4, bm_up_ne (bm_ne0 (k := 0))]; exact hc3
  have hc5 : M4 (sz + 1) = some (.inl (ct 1, 4, .inr (.inl (bm_hs (bm_pf f (bm_h3 (f 2) (f 3) (f 1))) h 4)))) := by rw [eM4]; exact bm_up_self _ _ _
  replace hF : ∀ b, b ≠ x → b ≠ x + 12 → b ≠ x + (13 + 2 * j) → b < sz → M4 b = M b := fun b q1 q2 q3 q4 => by rw [eM4]; exact (bm_up_ne (by omega)).trans (hF b q1 q2 q3 q4)
  clear eM4 hz1
  refine bm_castA hx hb hown (hts _ bw_551) hM hc5 (bm_lnm hK) dB_deposit_110 ?_
  refine lv_aload_n hx hb dB_deposit_113 rfl (lv_at hl 2 rfl) ?_
  refine bm_get (ci := 6) (v := .null) (C := "BlindMint") (T := bt_B) (N := 12) hx hb hts bu_B hown hK hM h0 rfl 5 (by decide) (hts _ bw_114) (fun _ h9 => h9) rfl dB_deposit_114 ?_
  refine bm_call (va_runI (b := sz) (As := [.ref e, .ref (sz + 1), .null]) (rest := [.ref sz, .ref x]) ⟨hx, hb, hml, hown, hts⟩ (bc_R_init_n l D ct base ad M4 (sz + 2) sz e b (sz + 1) f (bm_hs (bm_pf f (bm_h3 (f 2) (f 3) (f 1))) h 4) hc3 g3 g4 hc5) (cwI 3 hts (bm_goodW bw_554) rfl rfl rfl (hts _ bw_18) (hts _ bw_552) (hts _ bw_553) rfl (by decide +kernel) (by rw [← hR]; exact ⟨Nat.le_of_ble_eq_true rfl, Nat.le_of_ble_eq_true rfl⟩)) (bm_preS hM hG hS hz) rfl rfl hl.1 rfl (lv_room (Nat.le_of_ble_eq_true rfl)) dB_deposit_117 (by rw [← hR]; exact ⟨Nat.le_of_ble_eq_true rfl, Nat.le_of_ble_eq_true rfl⟩)) hS (fun v9 M6 H locs hq hM hS _ => ?_)
  obtain ⟨rfl, hz, fa, ⟨hv9, fn, hvn⟩, hfr⟩ := hq
  replace h0 : M6 x = some (.inr (6, [.ref (x + 1), .ref (x + 2), .ref (x + 11), .int pc, .ref (x + 12), .null, .int lt, .long lb, .int wc, .int (nI K), .int fc, .int rc])) := by rw [hfr x (by omega) (by omega)]; exact h0
  replace g1 : M6 (x + 11) = some (.inl (ct 4, 20, .inr (.inr (.inr (.inr pa))))) := by rw [hfr (x + 11) (by omega) (by omega)]; exact g1
  replace g2 : M6 (x + 12) = some (.inl (ct 1, 4, .inr (.inl (bm_hs (bm_pf f (bm_h3 (f 2) (f 3) (f 1))) h 4)))) := by rw [hfr (x + 12) (by omega) (by omega)]; exact g2
  replace g3 : M6 e = some (.inr (4, [.ref b])) := by rw [hfr e (by omega) (by omega)]; exact g3
  replace g4 : M6 b = some (.inl (ct 1, 16, .inr (.inl f))) := by rw [hfr b (by omega) (by omega)]; exact g4
  replace g5 : M6 (x + 1) = some (.inl (ct 3, 4, .inr (.inr (.inr (.inr ac))))) := by rw [hfr (x + 1) (by omega) (by omega)]; exact g5
  replace g6 : M6 (x + (13 + 2 * j)) = some (.inr (0, [.int bal, .ref (x + (14 + 2 * j)), .int cc])) := by rw [hfr (x + (13 + 2 * j)) (by omega) (by omega)]; exact g6
  replace hc5 : M6 (sz + 1) = some (.inl (ct 1, 4, .inr (.inl (bm_hs (bm_pf f (bm_h3 (f 2) (f 3) (f 1))) h 4)))) := by rw [hfr (sz + 1) (by omega) (by omega)]; exact hc5
  replace hF : ∀ b, b ≠ x → b ≠ x + 12 → b ≠ x + (13 + 2 * j) → b < sz → M6 b = M b := fun b q1 q2 q3 q4 => (hfr b (by omega) (by omega)).trans (hF b q1 q2 q3 q4)
  replace hz : H.size = sz + 3 := hz
  refine bm_put (ci := 6) (v := .ref sz) (ty := (.object "BlindMint$Credit")) (C := "BlindMint") (T := bt_B) (N := 12) hx hb hts bu_B by_B bo_B bn_B hown hK hM hS h0 rfl 5 (by decide) (hts _ bw_114) (fun _ h9 => h9) rfl (by decide +kernel) rfl rfl (Nat.le_of_ble_eq_true rfl) dB_deposit_120 (fun H locs hz1 hM hS => ?_)
  replace hz := hz1.trans hz
  replace hM : bm_M D base (bm_up M6 x (.inr (6, [.ref (x + 1), .ref (x + 2), .ref (x + 11), .int pc, .ref (x + 12), .ref sz, .int lt, .long lb, .int wc, .int (nI K), .int fc, .int rc]))) H := hM
  obtain ⟨M7, eM7⟩ : ∃ X, X = bm_up M6 x (.inr (6, [.ref (x + 1), .ref (x + 2), .ref (x + 11), .int pc, .ref (x + 12), .ref sz, .int lt, .long lb, .int wc, .int (nI K), .int fc, .int rc])) := ⟨_, rfl⟩
  rw [← eM7] at hM
  replace g1 : M7 (x + 11) = some (.inl (ct 4, 20, .inr (.inr (.inr (.inr pa))))) := by rw [eM7, bm_up_ne (by omega)]; exact g1
  replace g2 : M7 (x + 12) = some (.inl (ct 1, 4, .inr (.inl (bm_hs (bm_pf f (bm_h3 (f 2) (f 3) (f 1))) h 4)))) := by rw [eM7, bm_up_ne (by omega)]; exact g2
  replace g3 : M7 e = some (.inr (4, [.ref b])) := by rw [eM7, bm_up_ne (bm_ne_oo h0 g3 (by decide))]; exact g3
  replace g4 : M7 b = some (.inl (ct 1, 16, .inr (.inl f))) := by rw [eM7, bm_up_ne (bm_ne_oa h0 g4)]; exact g4
  replace g5 : M7 (x + 1) = some (.inl (ct 3, 4, .inr (.inr (.inr (.inr ac))))) := by rw [eM7, bm_up_ne (by omega)]; exact g5
  replace g6 : M7 (x + (13 + 2 * j)) = some (.inr (0, [.int bal, .ref (x + (14 + 2 * j)), .int cc])) := by rw [eM7, bm_up_ne (by omega)]; exact g6
  replace fa : M7 sz = some (.inr (3, [.long (f 0), .ref (sz + 1), .long (bm_h3 (f 2) (f 3) (f 1)), .ref (sz + 2), .null])) := by rw [eM7, bm_up_ne (by omega)]; exact fa
  replace hc5 : M7 (sz + 1) = some (.inl (ct 1, 4, .inr (.inl (bm_hs (bm_pf f (bm_h3 (f 2) (f 3) (f 1))) h 4)))) := by rw [eM7, bm_up_ne (by omega)]; exact hc5
  replace fn : M7 (sz + 2) = some (.inl (ct 1, 4, .inr (.inl hv9))) := by rw [eM7, bm_up_ne (by omega)]; exact fn
  replace h0 : M7 x = some (.inr (6, [.ref (x + 1), .ref (x + 2), .ref (x + 11), .int pc, .ref (x + 12), .ref sz, .int lt, .long lb, .int wc, .int (nI K), .int fc, .int rc])) := by rw [eM7]; exact bm_up_self _ _ _
  replace hF : ∀ b, b ≠ x → b ≠ x + 12 → b ≠ x + (13 + 2 * j) → b < sz → M7 b = M b := fun b q1 q2 q3 q4 => by rw [eM7]; exact (bm_up_ne (by omega)).trans (hF b q1 q2 q3 q4)
  clear eM7
  refine lv_aload_n hx hb dB_deposit_123 rfl (lv_at hl 2 rfl) ?_
  refine lv_dup hx hb dB_deposit_124 rfl ?_
  refine bm_get (ci := 6) (v := .int (nI K)) (C := "BlindMint") (T := bt_B) (N := 12) hx hb hts bu_B hown hK hM h0 rfl 9 (by decide) (hts _ bw_118) (fun _ h9 => h9) rfl dB_deposit_125 ?_
  refine lv_iconst (v := 1) hx hb dB_deposit_128 (by decide) ?_
  refine lv_iadd hx hb dB_deposit_129 ?_
  refine lv_topi (fun t8 e_t8 => ?_)
  have e_t8 : t8 = nI (K + 1) := by rw [e_t8]; exact nI_add K 1
  subst e_t8
  refine bm_put (ci := 6) (v := .int (nI (K + 1))) (ty := .int) (C := "BlindMint") (T := bt_B) (N := 12) hx hb hts bu_B by_B bo_B bn_B hown hK hM hS h0 rfl 9 (by decide) (hts _ bw_118) (fun _ h9 => h9) rfl (by decide +kernel) rfl rfl (Nat.le_of_ble_eq_true rfl) dB_deposit_130 (fun H locs hz1 hM hS => ?_)
  replace hz := hz1.trans hz
  replace hM : bm_M D base (bm_up M7 x (.inr (6, [.ref (x + 1), .ref (x + 2), .ref (x + 11), .int pc, .ref (x + 12), .ref sz, .int lt, .long lb, .int wc, .int (nI (K + 1)), .int fc, .int rc]))) H := hM
  obtain ⟨M9, eM9⟩ : ∃ X, X = bm_up M7 x (.inr (6, [.ref (x + 1), .ref (x + 2), .ref (x + 11), .int pc, .ref (x + 12), .ref sz, .int lt, .long lb, .int wc, .int (nI (K + 1)), .int fc, .int rc])) := ⟨_, rfl⟩
  rw [← eM9] at hM
  replace g1 : M9 (x + 11) = some (.inl (ct 4, 20, .inr (.inr (.inr (.inr pa))))) := by rw [eM9, bm_up_ne (by omega)]; exact g1
  replace g2 : M9 (x + 12) = some (.inl (ct 1, 4, .inr (.inl (bm_hs (bm_pf f (bm_h3 (f 2) (f 3) (f 1))) h 4)))) := by rw [eM9, bm_up_ne (by omega)]; exact g2
  replace g3 : M9 e = some (.inr (4, [.ref b])) := by rw [eM9, bm_up_ne (bm_ne_oo h0 g3 (by decide))]; exact g3
  replace g4 : M9 b = some (.inl (ct 1, 16, .inr (.inl f))) := by rw [eM9, bm_up_ne (bm_ne_oa h0 g4)]; exact g4
  replace g5 : M9 (x + 1) = some (.inl (ct 3, 4, .inr (.inr (.inr (.inr ac))))) := by rw [eM9, bm_up_ne (by omega)]; exact g5
  replace g6 : M9 (x + (13 + 2 * j)) = some (.inr (0, [.int bal, .ref (x + (14 + 2 * j)), .int cc])) := by rw [eM9, bm_up_ne (by omega)]; exact g6
  replace fa : M9 sz = some (.inr (3, [.long (f 0), .ref (sz + 1), .long (bm_h3 (f 2) (f 3) (f 1)), .ref (sz + 2), .null])) := by rw [eM9, bm_up_ne (by omega)]; exact fa
  replace hc5 : M9 (sz + 1) = some (.inl (ct 1, 4, .inr (.inl (bm_hs (bm_pf f (bm_h3 (f 2) (f 3) (f 1))) h 4)))) := by rw [eM9, bm_up_ne (by omega)]; exact hc5
  replace fn : M9 (sz + 2) = some (.inl (ct 1, 4, .inr (.inl hv9))) := by rw [eM9, bm_up_ne (by omega)]; exact fn
  replace h0 : M9 x = some (.inr (6, [.ref (x + 1), .ref (x + 2), .ref (x + 11), .int pc, .ref (x + 12), .ref sz, .int lt, .long lb, .int wc, .int (nI (K + 1)), .int fc, .int rc])) := by rw [eM9]; exact bm_up_self _ _ _
  replace hF : ∀ b, b ≠ x → b ≠ x + 12 → b ≠ x + (13 + 2 * j) → b < sz → M9 b = M b := fun b q1 q2 q3 q4 => by rw [eM9]; exact (bm_up_ne (by omega)).trans (hF b q1 q2 q3 q4)
  clear eM9
  refine va_gets hx hb hG.2.2.2.1 hS hown (hts _ bw_165) (fun _ h9 => h9) dB_deposit_133 ?_
  refine lv_aload_n hx hb dB_deposit_136 rfl (lv_at hl 1 rfl) ?_
  refine bm_callE (va_runV (As := []) (rest := [.ref (ad 3)]) ⟨hx, hb, hml, hown, hts⟩ (bc_P_denomination l D ct base ad M9 (sz + 3) e b f g3 g4) (cwV 0 hts (bm_goodV bw_158 bw_159 bw_160 bw_16 bw_161) rfl rfl rfl (by decide +kernel) (by rw [← hR]; exact ⟨Nat.le_of_ble_eq_true rfl, Nat.le_of_ble_eq_true rfl⟩)) (bm_preV hM hG hS hz g3 rfl) rfl rfl hl.1 rfl (lv_room (Nat.le_of_ble_eq_true rfl)) dB_deposit_137 (by rw [← hR]; exact ⟨Nat.le_of_ble_eq_true rfl, Nat.le_of_ble_eq_true rfl⟩)) hS (fun H locs hz hM hS => ?_)
  refine lv_topl (fun t10 e_t10 => ?_)
  have e_t10 : t10 = lN d := by rw [e_t10]; exact hd0
  subst e_t10
  refine lv_l2i (v := nI d) hx hb dB_deposit_140 (lN_i _) ?_
  refine bm_tq hx hb hG.2.2.2.2.1 hS d (bm_ix_nI (by omega)) (by omega) dB_deposit_141 ?_
  refine va_getX (i := d) hx hb hG.2.2.2.2.2.2.1 (by omega) hS hown (hts _ bw_835) (fun _ h9 => h9) dB_deposit_142 ?_
  refine lv_istore hx hb dB_deposit_145 hl (by decide) rfl (fun ls hl => ?_)
  have hl : lv_has ls 6 [(5, .int (bm_w d)), (4, .null), (3, .ref e), (0, .ref x), (1, .int (nI k0)), (2, .int (nI j))] := hl
  refine lv_aload_n hx hb dB_deposit_147 rfl (lv_at hl 3 rfl) ?_
  refine bm_get (ci := 6) (v := .ref (x + 1)) (C := "BlindMint") (T := bt_B) (N := 12) hx hb hts bu_B hown hK hM h0 rfl 0 (by decide) (hts _ bw_109) (fun _ h9 => h9) rfl dB_deposit_148 ?_
  refine lv_iload_n hx hb dB_deposit_151 rfl (lv_at hl 5 rfl) ?_
  refine bm_aald (v := .ref (x + (13 + 2 * j))) hx hb hK hM 3 g5 rfl j (bm_ix_nI (by omega)) (by omega) (by rw [hac j hj]; rfl) dB_deposit_152 ?_
  refine lv_dup hx hb dB_deposit_153 rfl ?_
  refine bm_get (ci := 0) (v := .int bal) (C := "BlindMint$Account") (T := bt_A) (N := 3) hx hb hts bu_A hown hK hM g6 rfl 0 (by decide) (hts _ bw_96) (fun _ h9 => h9) rfl dB_deposit_154 ?_
  refine lv_iload hx hb dB_deposit_157 (lv_at hl 0 rfl) ?_
  refine lv_iadd hx hb dB_deposit_159 ?_
  refine bm_put (ci := 0) (v := .int (bal + (bm_w d))) (ty := .int) (C := "BlindMint$Account") (T := bt_A) (N := 3) hx hb hts bu_A by_A bo_A bn_A hown hK hM hS g6 rfl 0 (by decide) (hts _ bw_96) (fun _ h9 => h9) rfl (by decide +kernel) rfl rfl (Nat.le_of_ble_eq_true rfl) dB_deposit_160 (fun H locs hz1 hM hS => ?_)
  replace hz := hz1.trans hz
  replace hM : bm_M D base (bm_up M9 (x + (13 + 2 * j)) (.inr (0, [.int (bal + (bm_w d)), .ref (x + (14 + 2 * j)), .int cc]))) H := hM
  obtain ⟨M11, eM11⟩ : ∃ X, X = bm_up M9 (x + (13 + 2 * j)) (.inr (0, [.int (bal + (bm_w d)), .ref (x + (14 + 2 * j)), .int cc])) := ⟨_, rfl⟩
  rw [← eM11] at hM
  replace h0 : M11 x = some (.inr (6, [.ref (x + 1), .ref (x + 2), .ref (x + 11), .int pc, .ref (x + 12), .ref sz, .int lt, .long lb, .int wc, .int (nI (K + 1)), .int fc, .int rc])) := by rw [eM11, bm_up_ne (by omega)]; exact h0
  replace g1 : M11 (x + 11) = some (.inl (ct 4, 20, .inr (.inr (.inr (.inr pa))))) := by rw [eM11, bm_up_ne (by omega)]; exact g1
  replace g2 : M11 (x + 12) = some (.inl (ct 1, 4, .inr (.inl (bm_hs (bm_pf f (bm_h3 (f 2) (f 3) (f 1))) h 4)))) := by rw [eM11, bm_up_ne (by omega)]; exact g2
  replace g3 : M11 e = some (.inr (4, [.ref b])) := by rw [eM11, bm_up_ne (bm_ne_oo g6 g3 (by decide))]; exact g3
  replace g4 : M11 b = some (.inl (ct 1, 16, .inr (.inl f))) := by rw [eM11, bm_up_ne (bm_ne_oa g6 g4)]; exact g4
  replace g5 : M11 (x + 1) = some (.inl (ct 3, 4, .inr (.inr (.inr (.inr ac))))) := by rw [eM11, bm_up_ne (by omega)]; exact g5
  replace fa : M11 sz = some (.inr (3, [.long (f 0), .ref (sz + 1), .long (bm_h3 (f 2) (f 3) (f 1)), .ref (sz + 2), .null])) := by rw [eM11, bm_up_ne (by omega)]; exact fa
  replace hc5 : M11 (sz + 1) = some (.inl (ct 1, 4, .inr (.inl (bm_hs (bm_pf f (bm_h3 (f 2) (f 3) (f 1))) h 4)))) := by rw [eM11, bm_up_ne (by omega)]; exact hc5
  replace fn : M11 (sz + 2) = some (.inl (ct 1, 4, .inr (.inl hv9))) := by rw [eM11, bm_up_ne (by omega)]; exact fn
  replace g6 : M11 (x + (13 + 2 * j)) = some (.inr (0, [.int (bal + (bm_w d)), .ref (x + (14 + 2 * j)), .int cc])) := by rw [eM11]; exact bm_up_self _ _ _
  replace hF : ∀ b, b ≠ x → b ≠ x + 12 → b ≠ x + (13 + 2 * j) → b < sz → M11 b = M b := fun b q1 q2 q3 q4 => by rw [eM11]; exact (bm_up_ne (by omega)).trans (hF b q1 q2 q3 q4)
  clear eM11
  refine lv_iload hx hb dB_deposit_163 (lv_at hl 0 rfl) ?_
  exact bm_iret hQ hx hb hr hlk hM hS ⟨rfl, hz, h0, g2, g6, fa, hc5, ⟨hv9, fn, hvn⟩, hF⟩ (Nat.le_of_ble_eq_true rfl) (Nat.le_of_ble_eq_true rfl) dB_deposit_165
set_option maxHeartbeats 4000000 in
set_option maxRecDepth 100000 in
theorem bc_B_deposit_ok_r (l : Launch) (D : va_G) (ct : Nat → ClassId) (base : Nat) (ad : Nat → Nat) (M : bm_Map) (sz : Nat) (x : Nat) (pc lt wc fc rc : Int32) (lb : Int64) (bf : Nat) (k0 e b j d k : Nat) (pa : Nat → Option Nat) (f h : Nat → Int64) (L0 : List bm_CE) (K : Nat) (bal cc : Int32) (ac : Nat → Option Nat) (h0 : M x = some (.inr (6, [.ref (x + 1), .ref (x + 2), .ref (x + 11), .int pc, .ref (x + 12), .ref bf, .int lt, .long lb, .int wc, .int (nI K), .int fc, .int rc]))) (g1 : M (x + 11) = some (.inl (ct 4, 20, .inr (.inr (.inr (.inr pa)))))) (g2 : M (x + 12) = some (.inl (ct 1, 4, .inr (.inl h)))) (g3 : M e = some (.inr (4, [.ref b]))) (g4 : M b = some (.inl (ct 1, 16, .inr (.inl f)))) (g5 : M (x + 1) = some (.inl (ct 3, 4, .inr (.inr (.inr (.inr ac)))))) (g6 : M (x + (13 + 2 * j)) = some (.inr (0, [.int bal, .ref (x + (14 + 2 * j)), .int cc]))) (hac : ∀ a, a < 4 → ac a = some (x + (13 + 2 * a))) (hk : k0 < 20) (hv : bm_bl (nI k0) pc = 1) (hpa : pa k0 = some e) (hj : j < 4) (hbx : x + 12 ≠ b) (hex : e ≠ x + 12) (hex2 : x ≠ b) (hbd : bm_bL (f 0) 3 = 1) (hd0 : f 0 = lN d) (hd : d < 3) (hnum : bm_hc (lN d) (bm_pf f (bm_h3 (f 2) (f 3) (f 1))) = lN k) (hk1 : k < 2 ^ 59) (hxe : x + 21 ≤ e) (hxb : x + 21 ≤ b) (hK5 : K < 512) (hgood : ¬ bm_gd (bm_gw (bm_pf f (bm_h3 (f 2) (f 3) (f 1))) 4) (bm_is d (f 1) k) = 0) (hL0 : bm_CL ct M L0 (.ref bf)) (hLx : ∀ c ∈ L0, c.a ≠ x + 12 ∧ c.b ≠ x + 12 ∧ c.c ≠ x + 12) (hfc : bm_fc (f 0) (bm_hs (bm_pf f (bm_h3 (f 2) (f 3) (f 1))) h 4) L0 = .null) : Met l yB_deposit (bm_ws yB_deposit cB_deposit 6 (some .int)) { frames := 4, cells := 3, slots := 13, locals := 100 } (bm_Pre D ct base ad M sz [.ref x, .int (nI k0), .int (nI j)]) (bm_Post D base (fun v M1 n => v = some (.int (bm_w d)) ∧ n = sz + 3 ∧ M1 x = some (.inr (6, [.ref (x + 1), .ref (x + 2), .ref (x + 11), .int pc, .ref (x + 12), .ref sz, .int lt, .long lb, .int wc, .int (nI (K + 1)), .int fc, .int rc])) ∧ M1 (x + 12) = some (.inl (ct 1, 4, .inr (.inl (bm_hs (bm_pf f (bm_h3 (f 2) (f 3) (f 1))) h 4)))) ∧ M1 (x + (13 + 2 * j)) = some (.inr (0, [.int (bal + bm_w d), .ref (x + (14 + 2 * j)), .int cc])) ∧ M1 sz = some (.inr (3, [.long (f 0), .ref (sz + 1), .long (bm_h3 (f 2) (f 3) (f 1)), .ref (sz + 2), .ref bf])) ∧ M1 (sz + 1) = some (.inl (ct 1, 4, .inr (.inl (bm_hs (bm_pf f (bm_h3 (f 2) (f 3) (f 1))) h 4)))) ∧ (∃ hv, M1 (sz + 2) = some (.inl (ct 1, 4, .inr (.inl hv))) ∧ ∀ t, t < 4 → hv t = f (4 + 3 * t)) ∧ ∀ b, b ≠ x → b ≠ x + 12 → b ≠ x + (13 + 2 * j) → b < sz → M1 b = M b)) 3 13 (bm_A base) := by
  refine bm_ofB (cc := cB_deposit) (maxL := 6) (ret := (some .int)) (by decide +kernel) (Nat.le_of_ble_eq_true rfl) ?_
  intro vp ve s vm args below meth vc hx hb hr hlk hts hown hml hnm ls hl hz hM hG R Q hR hQ
  have hown : s.vm.findClass "BlindMint" = some vm.cls := hown
  have hK := hG.K
  have hS : va_S (bm_A base) s.heap s.heap [] := va_S.rf
  have hl : lv_has ls 6 [(0, .ref x), (1, .int (nI k0)), (2, .int (nI j))] := hl
  have lt_0 : x < sz := hz ▸ hM.lt h0
  have lt_1 : x + 11 < sz := hz ▸ hM.lt g1
  have lt_2 : x + 12 < sz := hz ▸ hM.lt g2
  have lt_3 : e < sz := hz ▸ hM.lt g3
  have lt_4 : b < sz := hz ▸ hM.lt g4
  have lt_5 : x + 1 < sz := hz ▸ hM.lt g5
  have lt_6 : x + (13 + 2 * j) < sz := hz ▸ hM.lt g6
  have hF : ∀ b, b ≠ x → b ≠ x + 12 → b ≠ x + (13 + 2 * j) → b < sz → M b = M b := fun _ _ _ _ _ => rfl
  refine lv_aload_n hx hb dB_deposit_0 rfl (lv_at hl 0 rfl) ?_
  refine lv_iload_n hx hb dB_deposit_1 rfl (lv_at hl 1 rfl) ?_
  refine bm_callE (va_runV (As := [.int (nI k0)]) (rest := []) ⟨hx, hb, hml, hown, hts⟩ (bc_B_findPayment_ok l D ct base ad M sz x pc lt wc (nI K) fc rc lb (.ref bf) k0 e pa h0 g1 hk hv hpa) (cwV 1 hts (bm_goodV bw_150 bw_152 bs_0 bw_1 bw_153) rfl rfl rfl (by decide +kernel) (by rw [← hR]; exact ⟨Nat.le_of_ble_eq_true rfl, Nat.le_of_ble_eq_true rfl⟩)) (bm_preV hM hG hS hz h0 rfl) rfl rfl hl.1 rfl (lv_room (Nat.le_of_ble_eq_true rfl)) dB_deposit_2 (by rw [← hR]; exact ⟨Nat.le_of_ble_eq_true rfl, Nat.le_of_ble_eq_true rfl⟩)) hS (fun H locs hz hM hS => ?_)
  refine lv_astore_n hx hb dB_deposit_5 rfl hl (by decide) rfl (fun ls hl => ?_)
  have hl : lv_has ls 6 [(3, .ref e), (0, .ref x), (1, .int (nI k0)), (2, .int (nI j))] := hl
  refine lv_iload_n hx hb dB_deposit_6 rfl (lv_at hl 3 rfl) ?_
  refine bm_callE (va_runS (As := [.int (nI j)]) (rest := []) ⟨hx, hb, hml, hown, hts⟩ (bc_B_isAccount l D ct base ad M sz (nI j)) (va_cwS 1 hts (bm_goodS bw_221 bw_222 bw_1 bw_223) rfl rfl rfl (by decide +kernel) (by rw [← hR]; exact ⟨Nat.le_of_ble_eq_true rfl, Nat.le_of_ble_eq_true rfl⟩)) (bm_preS hM hG hS hz) rfl rfl hl.1 rfl (lv_room (Nat.le_of_ble_eq_true rfl)) dB_deposit_7 (by rw [← hR]; exact ⟨Nat.le_of_ble_eq_true rfl, Nat.le_of_ble_eq_true rfl⟩)) hS (fun H locs hz hM hS => ?_)
  refine lv_if_eq (tgt := 25) hx hb dB_deposit_10 rfl (fun h10 => absurd h10 (by rw [show bm_bl (nI j) 4 = 1 from (bm_bl_nI (N := 4) hj (by decide))]; decide)) (fun h10 => ?_)
  refine lv_aload_n hx hb dB_deposit_13 rfl (lv_at hl 0 rfl) ?_
  refine lv_ifnull hx hb dB_deposit_14 ?_
  refine lv_aload_n hx hb dB_deposit_17 rfl (lv_at hl 1 rfl) ?_
  refine lv_aload_n hx hb dB_deposit_18 rfl (lv_at hl 0 rfl) ?_
  refine bm_callE (va_runV (As := [.ref e]) (rest := []) ⟨hx, hb, hml, hown, hts⟩ (bc_B_isGood_ok l D ct base ad M sz x pc lt wc (nI K) fc rc lb (.ref bf) e b f h d k h0 g2 g3 g4 hbx hex hex2 hbd hd0 hd hnum hk1) (cwV 1 hts (bm_goodV bw_154 bw_156 bs_1 bw_1 bw_157) rfl rfl rfl (by decide +kernel) (by rw [← hR]; exact ⟨Nat.le_of_ble_eq_true rfl, Nat.le_of_ble_eq_true rfl⟩)) (bm_preV hM hG hS hz h0 rfl) rfl rfl hl.1 rfl (lv_room (Nat.le_of_ble_eq_true rfl)) dB_deposit_19 (by rw [← hR]; exact ⟨Nat.le_of_ble_eq_true rfl, Nat.le_of_ble_eq_true rfl⟩)) hS (fun H locs hz hM hS => ?_)
  obtain ⟨M1, eM1⟩ : ∃ X, X = bm_up M (x + 12) (.inl (ct 1, 4, .inr (.inl (bm_hs (bm_pf f (bm_h3 (f 2) (f 3) (f 1))) h 4)))) := ⟨_, rfl⟩
  replace hM : bm_M D base M1 H := by rw [eM1]; exact hM
  replace h0 : M1 x = some (.inr (6, [.ref (x + 1), .ref (x + 2), .ref (x + 11), .int pc, .ref (x + 12), .ref bf, .int lt, .long lb, .int wc, .int (nI K), .int fc, .int rc])) := by rw [eM1, bm_up_ne (by omega)]; exact h0
  replace g1 : M1 (x + 11) = some (.inl (ct 4, 20, .inr (.inr (.inr (.inr pa))))) := by rw [eM1, bm_up_ne (by omega)]; exact g1
  replace g3 : M1 e = some (.inr (4, [.ref b])) := by rw [eM1, bm_up_ne (bm_ne_ao g2 g3)]; exact g3
  replace g4 : M1 b = some (.inl (ct 1, 16, .inr (.inl f))) := by rw [eM1, bm_up_ne (fun z => hbx z.symm)]; exact g4
  replace g5 : M1 (x + 1) = some (.inl (ct 3, 4, .inr (.inr (.inr (.inr ac))))) := by rw [eM1, bm_up_ne (by omega)]; exact g5
  replace g6 : M1 (x + (13 + 2 * j)) = some (.inr (0, [.int bal, .ref (x + (14 + 2 * j)), .int cc])) := by rw [eM1, bm_up_ne (by omega)]; exact g6
  replace g2 : M1 (x + 12) = some (.inl (ct 1, 4, .inr (.inl (bm_hs (bm_pf f (bm_h3 (f 2) (f 3) (f 1))) h 4)))) := by rw [eM1]; exact bm_up_self _ _ _
  replace hF : ∀ b, b ≠ x → b ≠ x + 12 → b ≠ x + (13 + 2 * j) → b < sz → M1 b = M b := fun b q1 q2 q3 q4 => by rw [eM1]; exact (bm_up_ne (by omega)).trans (hF b q1 q2 q3 q4)
  have hL1 : bm_CL ct M1 L0 (.ref bf) := by rw [eM1]; exact bm_CL_up hL0 hLx
  clear eM1
  refine lv_if_ne (tgt := 33) hx hb dB_deposit_22 rfl (fun h22 => ?_) (fun h22 => absurd h22 hgood)
  refine lv_aload_n hx hb dB_deposit_33 rfl (lv_at hl 1 rfl) ?_
  refine lv_aload_n hx hb dB_deposit_34 rfl (lv_at hl 0 rfl) ?_
  refine bm_callE (va_runV (As := []) (rest := [.ref x]) ⟨hx, hb, hml, hown, hts⟩ (bc_P_denomination l D ct base ad M1 sz e b f g3 g4) (cwV 0 hts (bm_goodV bw_158 bw_159 bw_160 bw_16 bw_161) rfl rfl rfl (by decide +kernel) (by rw [← hR]; exact ⟨Nat.le_of_ble_eq_true rfl, Nat.le_of_ble_eq_true rfl⟩)) (bm_preV hM hG hS hz g3 rfl) rfl rfl hl.1 rfl (lv_room (Nat.le_of_ble_eq_true rfl)) dB_deposit_35 (by rw [← hR]; exact ⟨Nat.le_of_ble_eq_true rfl, Nat.le_of_ble_eq_true rfl⟩)) hS (fun H locs hz hM hS => ?_)
  refine bm_callE (va_runV (As := [.long (f 0)]) (rest := []) ⟨hx, hb, hml, hown, hts⟩ (bc_B_findCredit l D ct base ad M1 sz x pc lt wc (nI K) fc rc lb (.ref bf) (f 0) (bm_hs (bm_pf f (bm_h3 (f 2) (f 3) (f 1))) h 4) L0 h0 g2 hL1) (cwV 1 hts (bm_goodV bw_519 bw_521 bs_9 bw_1 bw_522) rfl rfl rfl (by decide +kernel) (by rw [← hR]; exact ⟨Nat.le_of_ble_eq_true rfl, Nat.le_of_ble_eq_true rfl⟩)) (bm_preV hM hG hS hz h0 rfl) rfl rfl hl.1 rfl (lv_room (Nat.le_of_ble_eq_true rfl)) dB_deposit_38 (by rw [← hR]; exact ⟨Nat.le_of_ble_eq_true rfl, Nat.le_of_ble_eq_true rfl⟩)) hS (fun H locs hz hM hS => ?_)
  rw [hfc]
  refine lv_astoreN hx hb dB_deposit_41 hl (by decide) rfl (fun ls hl => ?_)
  have hl : lv_has ls 6 [(4, .null), (3, .ref e), (0, .ref x), (1, .int (nI k0)), (2, .int (nI j))] := hl
  refine lv_aloadN hx hb dB_deposit_43 (lv_at hl 0 rfl) ?_
  refine lv_ifnullN (tgt := 79) hx hb dB_deposit_45 rfl ?_
  refine lv_aload_n hx hb dB_deposit_79 rfl (lv_at hl 2 rfl) ?_
  refine bm_get (ci := 6) (v := .int (nI K)) (C := "BlindMint") (T := bt_B) (N := 12) hx hb hts bu_B hown hK hM h0 rfl 9 (by decide) (hts _ bw_118) (fun _ h9 => h9) rfl dB_deposit_80 ?_
  refine lv_sipush (v := 512) hx hb dB_deposit_83 (by decide) ?_
  refine lv_icmp_lt (tgt := 97) hx hb dB_deposit_86 rfl (fun h86 => ?_) (fun h86 => absurd (nI_lt (b := 512) hK5 (by decide)) h86)
  refine lv_aload_n hx hb dB_deposit_97 rfl (lv_at hl 2 rfl) ?_
  refine bm_newz (ci := 3) (fs := [.long 0, .null, .long 0, .null, .null]) (C := "BlindMint$Credit") (T := bt_R) (N := 5) hz hx hb hts bu_R by_R bo_R hown (hts _ bw_543) (hts _ bw_544) (hts _ bw_18) hK hM hS (Nat.le_trans hG.2.1 hS.1) rfl (fun j hj => by rcases (show j = 0 ∨ j = 1 ∨ j = 2 ∨ j = 3 ∨ j = 4 by omega) with rfl | rfl | rfl | rfl | rfl <;> rfl) (by rw [← hR]; exact Nat.le_of_ble_eq_true rfl) (by rw [← hR]; exact Nat.le_of_ble_eq_true rfl) dB_deposit_98 (fun H hz1 hM hS => ?_)
  replace hz : H.size = sz + 1 := hz1
  obtain ⟨M2, eM2⟩ : ∃ X, X = bm_up M1 sz (.inr (3, [.long 0, .null, .long 0, .null, .null])) := ⟨_, rfl⟩
  replace hM : bm_M D base M2 H := by rw [eM2]; exact hM
  replace h0 : M2 x = some (.inr (6, [.ref (x + 1), .ref (x + 2), .ref (x + 11), .int pc, .ref (x + 12), .ref bf, .int lt, .long lb, .int wc, .int (nI K), .int fc, .int rc])) := by rw [eM2, bm_up_ne (by omega)]; exact h0
  replace g1 : M2 (x + 11) = some (.inl (ct 4, 20, .inr (.inr (.inr (.inr pa))))) := by rw [eM2, bm_up_ne (by omega)]; exact g1
  replace g2 : M2 (x + 12) = some (.inl (ct 1, 4, .inr (.inl (bm_hs (bm_pf f (bm_h3 (f 2) (f 3) (f 1))) h 4)))) := by rw [eM2, bm_up_ne (by omega)]; exact g2
  replace g3 : M2 e = some (.inr (4, [.ref b])) := by rw [eM2, bm_up_ne (by omega)]; exact g3
  replace g4 : M2 b = some (.inl (ct 1, 16, .inr (.inl f))) := by rw [eM2, bm_up_ne (by omega)]; exact g4
  replace g5 : M2 (x + 1) = some (.inl (ct 3, 4, .inr (.inr (.inr (.inr ac))))) := by rw [eM2, bm_up_ne (by omega)]; exact g5
  replace g6 : M2 (x + (13 + 2 * j)) = some (.inr (0, [.int bal, .ref (x + (14 + 2 * j)), .int cc])) := by rw [eM2, bm_up_ne (by omega)]; exact g6
  have hc3 : M2 sz = some (.inr (3, [.long 0, .null, .long 0, .null, .null])) := by rw [eM2]; exact bm_up_self _ _ _
  replace hF : ∀ b, b ≠ x → b ≠ x + 12 → b ≠ x + (13 + 2 * j) → b < sz → M2 b = M b := fun b q1 q2 q3 q4 => by rw [eM2]; exact (bm_up_ne (by omega)).trans (hF b q1 q2 q3 q4)
  clear eM2 hz1
  refine lv_dup hx hb dB_deposit_101 rfl ?_
  refine lv_aload_n hx hb dB_deposit_102 rfl (lv_at hl 1 rfl) ?_
  refine lv_aload_n hx hb dB_deposit_103 rfl (lv_at hl 2 rfl) ?_
  refine bm_get (ci := 6) (v := .ref (x + 12)) (C := "BlindMint") (T := bt_B) (N := 12) hx hb hts bu_B hown hK hM h0 rfl 4 (by decide) (hts _ bw_113) (fun _ h9 => h9) rfl dB_deposit_104 ?_
  refine bm_clone hx hb (hml.trans hl.1.symm) hown (hts _ bw_545) (hts _ bw_546) (hts _ bw_547) (hts _ bw_548) (hts _ bw_549) hG.2.2.1.w550 hK hM hS (Nat.le_trans hG.2.1 hS.1) g2 (by rw [← hR]; exact Nat.le_of_ble_eq_true rfl) (by rw [← hR]; exact Nat.le_of_ble_eq_true rfl) (by rw [← hR]; exact Nat.le_of_ble_eq_true rfl) (by rw [← hR]; exact Nat.le_of_ble_eq_true rfl) dB_deposit_107 (fun H hz1 hM hS => ?_)
  rw [hz] at hz1 hM ⊢
  replace hz : H.size = sz + 2 := hz1
  obtain ⟨M4, eM4⟩ : ∃ X, X = bm_up M2 (sz + 1) (.inl (ct 1, 4, .inr (.inl (bm_hs (bm_pf f (bm_h3 (f 2) (f 3) (f 1))) h 4)))) := ⟨_, rfl⟩
  replace hM : bm_M D base M4 H := by rw [eM4]; exact hM
  replace h0 : M4 x = some (.inr (6, [.ref (x + 1), .ref (x + 2), .ref (x + 11), .int pc, .ref (x + 12), .ref bf, .int lt, .long lb, .int wc, .int (nI K), .int fc, .int rc])) := by rw [eM4, bm_up_ne (by omega)]; exact h0
  replace g1 : M4 (x + 11) = some (.inl (ct 4, 20, .inr (.inr (.inr (.inr pa))))) := by rw [eM4, bm_up_ne (by omega)]; exact g1
  replace g2 : M4 (x + 12) = some (.inl (ct 1, 4, .inr (.inl (bm_hs (bm_pf f (bm_h3 (f 2) (f 3) (f 1))) h 4)))) := by rw [eM4, bm_up_ne (by omega)]; exact g2
  replace g3 : M4 e = some (.inr (4, [.ref b])) := by rw [eM4, bm_up_ne (by omega)]; exact g3
  replace g4 : M4 b = some (.inl (ct 1, 16, .inr (.inl f))) := by rw [eM4, bm_up_ne (by omega)]; exact g4
  replace g5 : M4 (x + 1) = some (.inl (ct 3, 4, .inr (.inr (.inr (.inr ac))))) := by rw [eM4, bm_up_ne (by omega)]; exact g5
  replace g6 : M4 (x + (13 + 2 * j)) = some (.inr (0, [.int bal, .ref (x + (14 + 2 * j)), .int cc])) := by rw [eM4, bm_up_ne (by omega)]; exact g6
  replace hc3 : M4 sz = some (.inr (3, [.long 0, .null, .long 0, .null, .null])) := by rw [eM4, bm_up_ne (bm_ne0 (k := 0))]; exact hc3
  have hc5 : M4 (sz + 1) = some (.inl (ct 1, 4, .inr (.inl (bm_hs (bm_pf f (bm_h3 (f 2) (f 3) (f 1))) h 4)))) := by rw [eM4]; exact bm_up_self _ _ _
  replace hF : ∀ b, b ≠ x → b ≠ x + 12 → b ≠ x + (13 + 2 * j) → b < sz → M4 b = M b := fun b q1 q2 q3 q4 => by rw [eM4]; exact (bm_up_ne (by omega)).trans (hF b q1 q2 q3 q4)
  clear eM4 hz1
  refine bm_castA hx hb hown (hts _ bw_551) hM hc5 (bm_lnm hK) dB_deposit_110 ?_
  refine lv_aload_n hx hb dB_deposit_113 rfl (lv_at hl 2 rfl) ?_
  refine bm_get (ci := 6) (v := .ref bf) (C := "BlindMint") (T := bt_B) (N := 12) hx hb hts bu_B hown hK hM h0 rfl 5 (by decide) (hts _ bw_114) (fun _ h9 => h9) rfl dB_deposit_114 ?_
  refine bm_call (va_runI (b := sz) (As := [.ref e, .ref (sz + 1), .ref bf]) (rest := [.ref sz, .ref x]) ⟨hx, hb, hml, hown, hts⟩ (bc_R_init_r l D ct base ad M4 (sz + 2) sz e b (sz + 1) bf f (bm_hs (bm_pf f (bm_h3 (f 2) (f 3) (f 1))) h 4) hc3 g3 g4 hc5) (cwI 3 hts (bm_goodW bw_554) rfl rfl rfl (hts _ bw_18) (hts _ bw_552) (hts _ bw_553) rfl (by decide +kernel) (by rw [← hR]; exact ⟨Nat.le_of_ble_eq_true rfl, Nat.le_of_ble_eq_true rfl⟩)) (bm_preS hM hG hS hz) rfl rfl hl.1 rfl (lv_room (Nat.le_of_ble_eq_true rfl)) dB_deposit_117 (by rw [← hR]; exact ⟨Nat.le_of_ble_eq_true rfl, Nat.le_of_ble_eq_true rfl⟩)) hS (fun v9 M6 H locs hq hM hS _ => ?_)
  obtain ⟨rfl, hz, fa, ⟨hv9, fn, hvn⟩, hfr⟩ := hq
  replace h0 : M6 x = some (.inr (6, [.ref (x + 1), .ref (x + 2), .ref (x + 11), .int pc, .ref (x + 12), .ref bf, .int lt, .long lb, .int wc, .int (nI K), .int fc, .int rc])) := by rw [hfr x (by omega) (by omega)]; exact h0
  replace g1 : M6 (x + 11) = some (.inl (ct 4, 20, .inr (.inr (.inr (.inr pa))))) := by rw [hfr (x + 11) (by omega) (by omega)]; exact g1
  replace g2 : M6 (x + 12) = some (.inl (ct 1, 4, .inr (.inl (bm_hs (bm_pf f (bm_h3 (f 2) (f 3) (f 1))) h 4)))) := by rw [hfr (x + 12) (by omega) (by omega)]; exact g2
  replace g3 : M6 e = some (.inr (4, [.ref b])) := by rw [hfr e (by omega) (by omega)]; exact g3
  replace g4 : M6 b = some (.inl (ct 1, 16, .inr (.inl f))) := by rw [hfr b (by omega) (by omega)]; exact g4
  replace g5 : M6 (x + 1) = some (.inl (ct 3, 4, .inr (.inr (.inr (.inr ac))))) := by rw [hfr (x + 1) (by omega) (by omega)]; exact g5
  replace g6 : M6 (x + (13 + 2 * j)) = some (.inr (0, [.int bal, .ref (x + (14 + 2 * j)), .int cc])) := by rw [hfr (x + (13 + 2 * j)) (by omega) (by omega)]; exact g6
  replace hc5 : M6 (sz + 1) = some (.inl (ct 1, 4, .inr (.inl (bm_hs (bm_pf f (bm_h3 (f 2) (f 3) (f 1))) h 4)))) := by rw [hfr (sz + 1) (by omega) (by omega)]; exact hc5
  replace hF : ∀ b, b ≠ x → b ≠ x + 12 → b ≠ x + (13 + 2 * j) → b < sz → M6 b = M b := fun b q1 q2 q3 q4 => (hfr b (by omega) (by omega)).trans (hF b q1 q2 q3 q4)
  replace hz : H.size = sz + 3 := hz
  refine bm_put (ci := 6) (v := .ref sz) (ty := (.object "BlindMint$Credit")) (C := "BlindMint") (T := bt_B) (N := 12) hx hb hts bu_B by_B bo_B bn_B hown hK hM hS h0 rfl 5 (by decide) (hts _ bw_114) (fun _ h9 => h9) rfl (by decide +kernel) rfl rfl (Nat.le_of_ble_eq_true rfl) dB_deposit_120 (fun H locs hz1 hM hS => ?_)
  replace hz := hz1.trans hz
  replace hM : bm_M D base (bm_up M6 x (.inr (6, [.ref (x + 1), .ref (x + 2), .ref (x + 11), .int pc, .ref (x + 12), .ref sz, .int lt, .long lb, .int wc, .int (nI K), .int fc, .int rc]))) H := hM
  obtain ⟨M7, eM7⟩ : ∃ X, X = bm_up M6 x (.inr (6, [.ref (x + 1), .ref (x + 2), .ref (x + 11), .int pc, .ref (x + 12), .ref sz, .int lt, .long lb, .int wc, .int (nI K), .int fc, .int rc])) := ⟨_, rfl⟩
  rw [← eM7] at hM
  replace g1 : M7 (x + 11) = some (.inl (ct 4, 20, .inr (.inr (.inr (.inr pa))))) := by rw [eM7, bm_up_ne (by omega)]; exact g1
  replace g2 : M7 (x + 12) = some (.inl (ct 1, 4, .inr (.inl (bm_hs (bm_pf f (bm_h3 (f 2) (f 3) (f 1))) h 4)))) := by rw [eM7, bm_up_ne (by omega)]; exact g2
  replace g3 : M7 e = some (.inr (4, [.ref b])) := by rw [eM7, bm_up_ne (bm_ne_oo h0 g3 (by decide))]; exact g3
  replace g4 : M7 b = some (.inl (ct 1, 16, .inr (.inl f))) := by rw [eM7, bm_up_ne (bm_ne_oa h0 g4)]; exact g4
  replace g5 : M7 (x + 1) = some (.inl (ct 3, 4, .inr (.inr (.inr (.inr ac))))) := by rw [eM7, bm_up_ne (by omega)]; exact g5
  replace g6 : M7 (x + (13 + 2 * j)) = some (.inr (0, [.int bal, .ref (x + (14 + 2 * j)), .int cc])) := by rw [eM7, bm_up_ne (by omega)]; exact g6
  replace fa : M7 sz = some (.inr (3, [.long (f 0), .ref (sz + 1), .long (bm_h3 (f 2) (f 3) (f 1)), .ref (sz + 2), .ref bf])) := by rw [eM7, bm_up_ne (by omega)]; exact fa
  replace hc5 : M7 (sz + 1) = some (.inl (ct 1, 4, .inr (.inl (bm_hs (bm_pf f (bm_h3 (f 2) (f 3) (f 1))) h 4)))) := by rw [eM7, bm_up_ne (by omega)]; exact hc5
  replace fn : M7 (sz + 2) = some (.inl (ct 1, 4, .inr (.inl hv9))) := by rw [eM7, bm_up_ne (by omega)]; exact fn
  replace h0 : M7 x = some (.inr (6, [.ref (x + 1), .ref (x + 2), .ref (x + 11), .int pc, .ref (x + 12), .ref sz, .int lt, .long lb, .int wc, .int (nI K), .int fc, .int rc])) := by rw [eM7]; exact bm_up_self _ _ _
  replace hF : ∀ b, b ≠ x → b ≠ x + 12 → b ≠ x + (13 + 2 * j) → b < sz → M7 b = M b := fun b q1 q2 q3 q4 => by rw [eM7]; exact (bm_up_ne (by omega)).trans (hF b q1 q2 q3 q4)
  clear eM7
  refine lv_aload_n hx hb dB_deposit_123 rfl (lv_at hl 2 rfl) ?_
  refine lv_dup hx hb dB_deposit_124 rfl ?_
  refine bm_get (ci := 6) (v := .int (nI K)) (C := "BlindMint") (T := bt_B) (N := 12) hx hb hts bu_B hown hK hM h0 rfl 9 (by decide) (hts _ bw_118) (fun _ h9 => h9) rfl dB_deposit_125 ?_
  refine lv_iconst (v := 1) hx hb dB_deposit_128 (by decide) ?_
  refine lv_iadd hx hb dB_deposit_129 ?_
  refine lv_topi (fun t8 e_t8 => ?_)
  have e_t8 : t8 = nI (K + 1) := by rw [e_t8]; exact nI_add K 1
  subst e_t8
  refine bm_put (ci := 6) (v := .int (nI (K + 1))) (ty := .int) (C := "BlindMint") (T := bt_B) (N := 12) hx hb hts bu_B by_B bo_B bn_B hown hK hM hS h0 rfl 9 (by decide) (hts _ bw_118) (fun _ h9 => h9) rfl (by decide +kernel) rfl rfl (Nat.le_of_ble_eq_true rfl) dB_deposit_130 (fun H locs hz1 hM hS => ?_)
  replace hz := hz1.trans hz
  replace hM : bm_M D base (bm_up M7 x (.inr (6, [.ref (x + 1), .ref (x + 2), .ref (x + 11), .int pc, .ref (x + 12), .ref sz, .int lt, .long lb, .int wc, .int (nI (K + 1)), .int fc, .int rc]))) H := hM
  obtain ⟨M9, eM9⟩ : ∃ X, X = bm_up M7 x (.inr (6, [.ref (x + 1), .ref (x + 2), .ref (x + 11), .int pc, .ref (x + 12), .ref sz, .int lt, .long lb, .int wc, .int (nI (K + 1)), .int fc, .int rc])) := ⟨_, rfl⟩
  rw [← eM9] at hM
  replace g1 : M9 (x + 11) = some (.inl (ct 4, 20, .inr (.inr (.inr (.inr pa))))) := by rw [eM9, bm_up_ne (by omega)]; exact g1
  replace g2 : M9 (x + 12) = some (.inl (ct 1, 4, .inr (.inl (bm_hs (bm_pf f (bm_h3 (f 2) (f 3) (f 1))) h 4)))) := by rw [eM9, bm_up_ne (by omega)]; exact g2
  replace g3 : M9 e = some (.inr (4, [.ref b])) := by rw [eM9, bm_up_ne (bm_ne_oo h0 g3 (by decide))]; exact g3
  replace g4 : M9 b = some (.inl (ct 1, 16, .inr (.inl f))) := by rw [eM9, bm_up_ne (bm_ne_oa h0 g4)]; exact g4
  replace g5 : M9 (x + 1) = some (.inl (ct 3, 4, .inr (.inr (.inr (.inr ac))))) := by rw [eM9, bm_up_ne (by omega)]; exact g5
  replace g6 : M9 (x + (13 + 2 * j)) = some (.inr (0, [.int bal, .ref (x + (14 + 2 * j)), .int cc])) := by rw [eM9, bm_up_ne (by omega)]; exact g6
  replace fa : M9 sz = some (.inr (3, [.long (f 0), .ref (sz + 1), .long (bm_h3 (f 2) (f 3) (f 1)), .ref (sz + 2), .ref bf])) := by rw [eM9, bm_up_ne (by omega)]; exact fa
  replace hc5 : M9 (sz + 1) = some (.inl (ct 1, 4, .inr (.inl (bm_hs (bm_pf f (bm_h3 (f 2) (f 3) (f 1))) h 4)))) := by rw [eM9, bm_up_ne (by omega)]; exact hc5
  replace fn : M9 (sz + 2) = some (.inl (ct 1, 4, .inr (.inl hv9))) := by rw [eM9, bm_up_ne (by omega)]; exact fn
  replace h0 : M9 x = some (.inr (6, [.ref (x + 1), .ref (x + 2), .ref (x + 11), .int pc, .ref (x + 12), .ref sz, .int lt, .long lb, .int wc, .int (nI (K + 1)), .int fc, .int rc])) := by rw [eM9]; exact bm_up_self _ _ _
  replace hF : ∀ b, b ≠ x → b ≠ x + 12 → b ≠ x + (13 + 2 * j) → b < sz → M9 b = M b := fun b q1 q2 q3 q4 => by rw [eM9]; exact (bm_up_ne (by omega)).trans (hF b q1 q2 q3 q4)
  clear eM9
  refine va_gets hx hb hG.2.2.2.1 hS hown (hts _ bw_165) (fun _ h9 => h9) dB_deposit_133 ?_
  refine lv_aload_n hx hb dB_deposit_136 rfl (lv_at hl 1 rfl) ?_
  refine bm_callE (va_runV (As := []) (rest := [.ref (ad 3)]) ⟨hx, hb, hml, hown, hts⟩ (bc_P_denomination l D ct base ad M9 (sz + 3) e b f g3 g4) (cwV 0 hts (bm_goodV bw_158 bw_159 bw_160 bw_16 bw_161) rfl rfl rfl (by decide +kernel) (by rw [← hR]; exact ⟨Nat.le_of_ble_eq_true rfl, Nat.le_of_ble_eq_true rfl⟩)) (bm_preV hM hG hS hz g3 rfl) rfl rfl hl.1 rfl (lv_room (Nat.le_of_ble_eq_true rfl)) dB_deposit_137 (by rw [← hR]; exact ⟨Nat.le_of_ble_eq_true rfl, Nat.le_of_ble_eq_true rfl⟩)) hS (fun H locs hz hM hS => ?_)
  refine lv_topl (fun t10 e_t10 => ?_)
  have e_t10 : t10 = lN d := by rw [e_t10]; exact hd0
  subst e_t10
  refine lv_l2i (v := nI d) hx hb dB_deposit_140 (lN_i _) ?_
  refine bm_tq hx hb hG.2.2.2.2.1 hS d (bm_ix_nI (by omega)) (by omega) dB_deposit_141 ?_
  refine va_getX (i := d) hx hb hG.2.2.2.2.2.2.1 (by omega) hS hown (hts _ bw_835) (fun _ h9 => h9) dB_deposit_142 ?_
  refine lv_istore hx hb dB_deposit_145 hl (by decide) rfl (fun ls hl => ?_)
  have hl : lv_has ls 6 [(5, .int (bm_w d)), (4, .null), (3, .ref e), (0, .ref x), (1, .int (nI k0)), (2, .int (nI j))] := hl
  refine lv_aload_n hx hb dB_deposit_147 rfl (lv_at hl 3 rfl) ?_
  refine bm_get (ci := 6) (v := .ref (x + 1)) (C := "BlindMint") (T := bt_B) (N := 12) hx hb hts bu_B hown hK hM h0 rfl 0 (by decide) (hts _ bw_109) (fun _ h9 => h9) rfl dB_deposit_148 ?_
  refine lv_iload_n hx hb dB_deposit_151 rfl (lv_at hl 5 rfl) ?_
  refine bm_aald (v := .ref (x + (13 + 2 * j))) hx hb hK hM 3 g5 rfl j (bm_ix_nI (by omega)) (by omega) (by rw [hac j hj]; rfl) dB_deposit_152 ?_
  refine lv_dup hx hb dB_deposit_153 rfl ?_
  refine bm_get (ci := 0) (v := .int bal) (C := "BlindMint$Account") (T := bt_A) (N := 3) hx hb hts bu_A hown hK hM g6 rfl 0 (by decide) (hts _ bw_96) (fun _ h9 => h9) rfl dB_deposit_154 ?_
  refine lv_iload hx hb dB_deposit_157 (lv_at hl 0 rfl) ?_
  refine lv_iadd hx hb dB_deposit_159 ?_
  refine bm_put (ci := 0) (v := .int (bal + (bm_w d))) (ty := .int) (C := "BlindMint$Account") (T := bt_A) (N := 3) hx hb hts bu_A by_A bo_A bn_A hown hK hM hS g6 rfl 0 (by decide) (hts _ bw_96) (fun _ h9 => h9) rfl (by decide +kernel) rfl rfl (Nat.le_of_ble_eq_true rfl) dB_deposit_160 (fun H locs hz1 hM hS => ?_)
  replace hz := hz1.trans hz
  replace hM : bm_M D base (bm_up M9 (x + (13 + 2 * j)) (.inr (0, [.int (bal + (bm_w d)), .ref (x + (14 + 2 * j)), .int cc]))) H := hM
  obtain ⟨M11, eM11⟩ : ∃ X, X = bm_up M9 (x + (13 + 2 * j)) (.inr (0, [.int (bal + (bm_w d)), .ref (x + (14 + 2 * j)), .int cc])) := ⟨_, rfl⟩
  rw [← eM11] at hM
  replace h0 : M11 x = some (.inr (6, [.ref (x + 1), .ref (x + 2), .ref (x + 11), .int pc, .ref (x + 12), .ref sz, .int lt, .long lb, .int wc, .int (nI (K + 1)), .int fc, .int rc])) := by rw [eM11, bm_up_ne (by omega)]; exact h0
  replace g1 : M11 (x + 11) = some (.inl (ct 4, 20, .inr (.inr (.inr (.inr pa))))) := by rw [eM11, bm_up_ne (by omega)]; exact g1
  replace g2 : M11 (x + 12) = some (.inl (ct 1, 4, .inr (.inl (bm_hs (bm_pf f (bm_h3 (f 2) (f 3) (f 1))) h 4)))) := by rw [eM11, bm_up_ne (by omega)]; exact g2
  replace g3 : M11 e = some (.inr (4, [.ref b])) := by rw [eM11, bm_up_ne (bm_ne_oo g6 g3 (by decide))]; exact g3
  replace g4 : M11 b = some (.inl (ct 1, 16, .inr (.inl f))) := by rw [eM11, bm_up_ne (bm_ne_oa g6 g4)]; exact g4
  replace g5 : M11 (x + 1) = some (.inl (ct 3, 4, .inr (.inr (.inr (.inr ac))))) := by rw [eM11, bm_up_ne (by omega)]; exact g5
  replace fa : M11 sz = some (.inr (3, [.long (f 0), .ref (sz + 1), .long (bm_h3 (f 2) (f 3) (f 1)), .ref (sz + 2), .ref bf])) := by rw [eM11, bm_up_ne (by omega)]; exact fa
  replace hc5 : M11 (sz + 1) = some (.inl (ct 1, 4, .inr (.inl (bm_hs (bm_pf f (bm_h3 (f 2) (f 3) (f 1))) h 4)))) := by rw [eM11, bm_up_ne (by omega)]; exact hc5
  replace fn : M11 (sz + 2) = some (.inl (ct 1, 4, .inr (.inl hv9))) := by rw [eM11, bm_up_ne (by omega)]; exact fn
  replace g6 : M11 (x + (13 + 2 * j)) = some (.inr (0, [.int (bal + (bm_w d)), .ref (x + (14 + 2 * j)), .int cc])) := by rw [eM11]; exact bm_up_self _ _ _
  replace hF : ∀ b, b ≠ x → b ≠ x + 12 → b ≠ x + (13 + 2 * j) → b < sz → M11 b = M b := fun b q1 q2 q3 q4 => by rw [eM11]; exact (bm_up_ne (by omega)).trans (hF b q1 q2 q3 q4)
  clear eM11
  refine lv_iload hx hb dB_deposit_163 (lv_at hl 0 rfl) ?_
  exact bm_iret hQ hx hb hr hlk hM hS ⟨rfl, hz, h0, g2, g6, fa, hc5, ⟨hv9, fn, hvn⟩, hF⟩ (Nat.le_of_ble_eq_true rfl) (Nat.le_of_ble_eq_true rfl) dB_deposit_165
