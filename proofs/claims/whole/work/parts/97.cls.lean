set_option maxHeartbeats 4000000 in
set_option maxRecDepth 100000 in
theorem bc_B_spend_ok (l : Launch) (D : va_G) (ct : Nat → ClassId) (base : Nat) (ad : Nat → Nat) (M : bm_Map) (sz : Nat) (x : Nat) (lt wc dc fc rc : Int32) (lb : Int64) (lc : Value) (j i e t1 t0 p : Nat) (bal cc dn sp mer non : Int32) (nu sg : Int64) (ac wf pa : Nat → Option Nat) (f1 f0 : Nat → Int64) (h0 : M x = some (.inr (6, [.ref (x + 1), .ref (x + 2), .ref (x + 11), .int (nI p), .ref (x + 12), lc, .int lt, .long lb, .int wc, .int dc, .int fc, .int rc]))) (g1 : M (x + 1) = some (.inl (ct 3, 4, .inr (.inr (.inr (.inr ac)))))) (g2 : M (x + (13 + 2 * j)) = some (.inr (0, [.int bal, .ref (x + (14 + 2 * j)), .int cc]))) (g3 : M (x + (14 + 2 * j)) = some (.inl (ct 6, 8, .inr (.inr (.inr (.inr wf)))))) (g4 : M e = some (.inr (2, [.int dn, .long nu, .long sg, .int sp, .ref t1, .ref t0]))) (g5 : M t1 = some (.inl (ct 1, 12, .inr (.inl f1)))) (g6 : M t0 = some (.inl (ct 1, 12, .inr (.inl f0)))) (g7 : M (x + 11) = some (.inl (ct 4, 20, .inr (.inr (.inr (.inr pa)))))) (hac : ∀ a, a < 4 → ac a = some (x + (13 + 2 * a))) (hj : j < 4) (hi : i < 8) (hw : bm_bl (nI i) cc = 1) (hwf : wf i = some e) (hp20 : p < 20) : Met l yB_spend (bm_ws yB_spend cB_spend 6 (some .int)) { frames := 3, cells := 2, slots := 17, locals := 87 } (bm_Pre D ct base ad M sz [.ref x, .int (nI j), .int (nI i), .int mer, .int non]) (bm_Post D base (fun v M1 n => v = some (.int (nI p)) ∧ M1 x = some (.inr (6, [.ref (x + 1), .ref (x + 2), .ref (x + 11), .int (nI (p + 1)), .ref (x + 12), lc, .int lt, .long lb, .int wc, .int dc, .int fc, .int rc])) ∧ M1 e = some (.inr (2, [.int dn, .long nu, .long sg, .int 1, .ref t1, .ref t0])) ∧ M1 sz = some (.inr (4, [.ref (sz + 1)])) ∧ M1 (sz + 1) = some (.inl (ct 1, 16, .inr (.inl (bm_pn f1 f0 (bm_h3 mer.toInt64 non.toInt64 sg) (bm_p4 dn.toInt64 sg mer.toInt64 non.toInt64) 4)))) ∧ M1 (x + 11) = some (.inl (ct 4, 20, .inr (.inr (.inr (.inr (va_up pa p (some sz))))))) ∧ ∀ b, b ≠ x → b ≠ x + 11 → b ≠ e → b < sz → M1 b = M b)) 2 17 (bm_A base) := by
  refine bm_ofB (cc := cB_spend) (maxL := 6) (ret := (some .int)) (by decide +kernel) (Nat.le_of_ble_eq_true rfl) ?_
  intro vp ve s vm args below meth vc hx hb hr hlk hts hown hml hnm ls hl hz hM hG R Q hR hQ
  have hown : s.vm.findClass "BlindMint" = some vm.cls := hown
  have hK := hG.K
  have hS : va_S (bm_A base) s.heap s.heap [] := va_S.rf
  have hl : lv_has ls 6 [(0, .ref x), (1, .int (nI j)), (2, .int (nI i)), (3, .int mer), (4, .int non)] := hl
  have lt_0 : x < sz := hz ▸ hM.lt h0
  have lt_1 : x + 1 < sz := hz ▸ hM.lt g1
  have lt_2 : x + (13 + 2 * j) < sz := hz ▸ hM.lt g2
  have lt_3 : x + (14 + 2 * j) < sz := hz ▸ hM.lt g3
  have lt_4 : e < sz := hz ▸ hM.lt g4
  have lt_5 : t1 < sz := hz ▸ hM.lt g5
  have lt_6 : t0 < sz := hz ▸ hM.lt g6
  have lt_7 : x + 11 < sz := hz ▸ hM.lt g7
  have hF : ∀ b, b ≠ x → b ≠ x + 11 → b ≠ e → b < sz → M b = M b := fun _ _ _ _ _ => rfl
  refine lv_aload_n hx hb dB_spend_0 rfl (lv_at hl 0 rfl) ?_
  refine lv_iload_n hx hb dB_spend_1 rfl (lv_at hl 1 rfl) ?_
  refine lv_iload_n hx hb dB_spend_2 rfl (lv_at hl 2 rfl) ?_
  refine bm_callE (va_runV (As := [.int (nI j), .int (nI i)]) (rest := []) ⟨hx, hb, hml, hown, hts⟩ (bc_B_findCoin_ok l D ct base ad M sz x (nI p) lt wc dc fc rc lb lc j i e bal cc ac wf h0 g1 g2 g3 hac hj hi hw hwf) (cwV 2 hts (bm_goodV bw_478 bw_480 bs_8 bw_1 bw_481) rfl rfl rfl (by decide +kernel) (by rw [← hR]; exact ⟨Nat.le_of_ble_eq_true rfl, Nat.le_of_ble_eq_true rfl⟩)) (bm_preV hM hG hS hz h0 rfl) rfl rfl hl.1 rfl (lv_room (Nat.le_of_ble_eq_true rfl)) dB_spend_3 (by rw [← hR]; exact ⟨Nat.le_of_ble_eq_true rfl, Nat.le_of_ble_eq_true rfl⟩)) hS (fun H locs hz hM hS => ?_)
  refine lv_astore hx hb dB_spend_6 hl (by decide) rfl (fun ls hl => ?_)
  have hl : lv_has ls 6 [(5, .ref e), (0, .ref x), (1, .int (nI j)), (2, .int (nI i)), (3, .int mer), (4, .int non)] := hl
  refine lv_aload hx hb dB_spend_8 (lv_at hl 0 rfl) ?_
  refine lv_ifnonnull (tgt := 21) hx hb dB_spend_10 rfl ?_
  refine lv_aload_n hx hb dB_spend_21 rfl (lv_at hl 1 rfl) ?_
  refine bm_get (ci := 6) (v := .int (nI p)) (C := "BlindMint") (T := bt_B) (N := 12) hx hb hts bu_B hown hK hM h0 rfl 3 (by decide) (hts _ bw_112) (fun _ h9 => h9) rfl dB_spend_22 ?_
  refine lv_bipush (v := 20) hx hb dB_spend_25 (by decide) ?_
  refine lv_icmp_lt (tgt := 38) hx hb dB_spend_27 rfl (fun h27 => ?_) (fun h27 => absurd (nI_lt (b := 20) hp20 (by decide)) h27)
  refine lv_aload hx hb dB_spend_38 (lv_at hl 0 rfl) ?_
  refine lv_iconst (v := 1) hx hb dB_spend_40 (by decide) ?_
  refine bm_put (ci := 2) (v := .int 1) (ty := .boolean) (C := "BlindMint$Coin") (T := bt_O) (N := 6) hx hb hts bu_O by_O bo_O bn_O hown hK hM hS g4 rfl 3 (by decide) (hts _ bw_422) (fun _ h9 => h9) rfl (by decide +kernel) rfl rfl (Nat.le_of_ble_eq_true rfl) dB_spend_41 (fun H locs hz1 hM hS => ?_)
  replace hz := hz1.trans hz
  replace hM : bm_M D base (bm_up M e (.inr (2, [.int dn, .long nu, .long sg, .int 1, .ref t1, .ref t0]))) H := hM
  obtain ⟨M1, eM1⟩ : ∃ X, X = bm_up M e (.inr (2, [.int dn, .long nu, .long sg, .int 1, .ref t1, .ref t0])) := ⟨_, rfl⟩
  rw [← eM1] at hM
  replace h0 : M1 x = some (.inr (6, [.ref (x + 1), .ref (x + 2), .ref (x + 11), .int (nI p), .ref (x + 12), lc, .int lt, .long lb, .int wc, .int dc, .int fc, .int rc])) := by rw [eM1, bm_up_ne (bm_ne_oo g4 h0 (by decide))]; exact h0
  replace g1 : M1 (x + 1) = some (.inl (ct 3, 4, .inr (.inr (.inr (.inr ac))))) := by rw [eM1, bm_up_ne (bm_ne_oa g4 g1)]; exact g1
  replace g2 : M1 (x + (13 + 2 * j)) = some (.inr (0, [.int bal, .ref (x + (14 + 2 * j)), .int cc])) := by rw [eM1, bm_up_ne (bm_ne_oo g4 g2 (by decide))]; exact g2
  replace g3 : M1 (x + (14 + 2 * j)) = some (.inl (ct 6, 8, .inr (.inr (.inr (.inr wf))))) := by rw [eM1, bm_up_ne (bm_ne_oa g4 g3)]; exact g3
  replace g5 : M1 t1 = some (.inl (ct 1, 12, .inr (.inl f1))) := by rw [eM1, bm_up_ne (bm_ne_oa g4 g5)]; exact g5
  replace g6 : M1 t0 = some (.inl (ct 1, 12, .inr (.inl f0))) := by rw [eM1, bm_up_ne (bm_ne_oa g4 g6)]; exact g6
  replace g7 : M1 (x + 11) = some (.inl (ct 4, 20, .inr (.inr (.inr (.inr pa))))) := by rw [eM1, bm_up_ne (bm_ne_oa g4 g7)]; exact g7
  replace g4 : M1 e = some (.inr (2, [.int dn, .long nu, .long sg, .int 1, .ref t1, .ref t0])) := by rw [eM1]; exact bm_up_self _ _ _
  replace hF : ∀ b, b ≠ x → b ≠ x + 11 → b ≠ e → b < sz → M1 b = M b := fun b q1 q2 q3 q4 => by rw [eM1]; exact (bm_up_ne (by omega)).trans (hF b q1 q2 q3 q4)
  clear eM1
  refine lv_aload_n hx hb dB_spend_44 rfl (lv_at hl 1 rfl) ?_
  refine bm_get (ci := 6) (v := .ref (x + 11)) (C := "BlindMint") (T := bt_B) (N := 12) hx hb hts bu_B hown hK hM h0 rfl 2 (by decide) (hts _ bw_111) (fun _ h9 => h9) rfl dB_spend_45 ?_
  refine lv_aload_n hx hb dB_spend_48 rfl (lv_at hl 1 rfl) ?_
  refine bm_get (ci := 6) (v := .int (nI p)) (C := "BlindMint") (T := bt_B) (N := 12) hx hb hts bu_B hown hK hM h0 rfl 3 (by decide) (hts _ bw_112) (fun _ h9 => h9) rfl dB_spend_49 ?_
  refine bm_newz (ci := 4) (fs := [.null]) (C := "BlindMint$Payment") (T := bt_P) (N := 1) hz hx hb hts bu_P by_P bo_P hown (hts _ bw_85) (hts _ bw_482) (hts _ bw_16) hK hM hS (Nat.le_trans hG.2.1 hS.1) rfl (fun j hj => by rcases (show j = 0 by omega) with rfl <;> rfl) (by rw [← hR]; exact Nat.le_of_ble_eq_true rfl) (by rw [← hR]; exact Nat.le_of_ble_eq_true rfl) dB_spend_52 (fun H hz1 hM hS => ?_)
  replace hz : H.size = sz + 1 := hz1
  obtain ⟨M2, eM2⟩ : ∃ X, X = bm_up M1 sz (.inr (4, [.null])) := ⟨_, rfl⟩
  replace hM : bm_M D base M2 H := by rw [eM2]; exact hM
  replace h0 : M2 x = some (.inr (6, [.ref (x + 1), .ref (x + 2), .ref (x + 11), .int (nI p), .ref (x + 12), lc, .int lt, .long lb, .int wc, .int dc, .int fc, .int rc])) := by rw [eM2, bm_up_ne (by omega)]; exact h0
  replace g1 : M2 (x + 1) = some (.inl (ct 3, 4, .inr (.inr (.inr (.inr ac))))) := by rw [eM2, bm_up_ne (by omega)]; exact g1
  replace g2 : M2 (x + (13 + 2 * j)) = some (.inr (0, [.int bal, .ref (x + (14 + 2 * j)), .int cc])) := by rw [eM2, bm_up_ne (by omega)]; exact g2
  replace g3 : M2 (x + (14 + 2 * j)) = some (.inl (ct 6, 8, .inr (.inr (.inr (.inr wf))))) := by rw [eM2, bm_up_ne (by omega)]; exact g3
  replace g4 : M2 e = some (.inr (2, [.int dn, .long nu, .long sg, .int 1, .ref t1, .ref t0])) := by rw [eM2, bm_up_ne (by omega)]; exact g4
  replace g5 : M2 t1 = some (.inl (ct 1, 12, .inr (.inl f1))) := by rw [eM2, bm_up_ne (by omega)]; exact g5
  replace g6 : M2 t0 = some (.inl (ct 1, 12, .inr (.inl f0))) := by rw [eM2, bm_up_ne (by omega)]; exact g6
  replace g7 : M2 (x + 11) = some (.inl (ct 4, 20, .inr (.inr (.inr (.inr pa))))) := by rw [eM2, bm_up_ne (by omega)]; exact g7
  have hc3 : M2 sz = some (.inr (4, [.null])) := by rw [eM2]; exact bm_up_self _ _ _
  replace hF : ∀ b, b ≠ x → b ≠ x + 11 → b ≠ e → b < sz → M2 b = M b := fun b q1 q2 q3 q4 => by rw [eM2]; exact (bm_up_ne (by omega)).trans (hF b q1 q2 q3 q4)
  clear eM2 hz1
  refine lv_dup hx hb dB_spend_55 rfl ?_
  refine lv_aload hx hb dB_spend_56 (lv_at hl 0 rfl) ?_
  refine lv_iload_n hx hb dB_spend_58 rfl (lv_at hl 4 rfl) ?_
  refine lv_iload hx hb dB_spend_59 (lv_at hl 5 rfl) ?_
  refine bm_call (va_runI (b := sz) (As := [.ref e, .int mer, .int non]) (rest := [.ref sz, .int (nI p), .ref (x + 11)]) ⟨hx, hb, hml, hown, hts⟩ (bc_P_init l D ct base ad M2 (sz + 1) sz e t1 t0 dn 1 mer non nu sg f1 f0 hc3 g4 g5 g6) (cwI 3 hts (bm_goodW bw_485) rfl rfl rfl (hts _ bw_16) (hts _ bw_483) (hts _ bw_484) rfl (by decide +kernel) (by rw [← hR]; exact ⟨Nat.le_of_ble_eq_true rfl, Nat.le_of_ble_eq_true rfl⟩)) (bm_preS hM hG hS hz) rfl rfl hl.1 rfl (lv_room (Nat.le_of_ble_eq_true rfl)) dB_spend_61 (by rw [← hR]; exact ⟨Nat.le_of_ble_eq_true rfl, Nat.le_of_ble_eq_true rfl⟩)) hS (fun v9 M4 H locs hq hM hS _ => ?_)
  obtain ⟨rfl, fa, fn, hfr⟩ := hq
  replace h0 : M4 x = some (.inr (6, [.ref (x + 1), .ref (x + 2), .ref (x + 11), .int (nI p), .ref (x + 12), lc, .int lt, .long lb, .int wc, .int dc, .int fc, .int rc])) := by rw [hfr x (by omega) (by omega)]; exact h0
  replace g1 : M4 (x + 1) = some (.inl (ct 3, 4, .inr (.inr (.inr (.inr ac))))) := by rw [hfr (x + 1) (by omega) (by omega)]; exact g1
  replace g2 : M4 (x + (13 + 2 * j)) = some (.inr (0, [.int bal, .ref (x + (14 + 2 * j)), .int cc])) := by rw [hfr (x + (13 + 2 * j)) (by omega) (by omega)]; exact g2
  replace g3 : M4 (x + (14 + 2 * j)) = some (.inl (ct 6, 8, .inr (.inr (.inr (.inr wf))))) := by rw [hfr (x + (14 + 2 * j)) (by omega) (by omega)]; exact g3
  replace g4 : M4 e = some (.inr (2, [.int dn, .long nu, .long sg, .int 1, .ref t1, .ref t0])) := by rw [hfr e (by omega) (by omega)]; exact g4
  replace g5 : M4 t1 = some (.inl (ct 1, 12, .inr (.inl f1))) := by rw [hfr t1 (by omega) (by omega)]; exact g5
  replace g6 : M4 t0 = some (.inl (ct 1, 12, .inr (.inl f0))) := by rw [hfr t0 (by omega) (by omega)]; exact g6
  replace g7 : M4 (x + 11) = some (.inl (ct 4, 20, .inr (.inr (.inr (.inr pa))))) := by rw [hfr (x + 11) (by omega) (by omega)]; exact g7
  replace hF : ∀ b, b ≠ x → b ≠ x + 11 → b ≠ e → b < sz → M4 b = M b := fun b q1 q2 q3 q4 => (hfr b (by omega) (by omega)).trans (hF b q1 q2 q3 q4)
  obtain ⟨zc5, hz⟩ : ∃ z, H.size = z := ⟨_, rfl⟩
  refine bm_aast hx hb hK hM hS 4 4 (r := ("BlindMint$Payment", bt_P, 1)) g7 rfl fa rfl p (bm_ix_nI (by omega)) (by omega) dB_spend_64 (fun H locs hz1 hM hS => ?_)
  replace hz := hz1.trans hz
  replace hM : bm_M D base (bm_up M4 (x + 11) (.inl (ct 4, 20, .inr (.inr (.inr (.inr (va_up pa p (some sz)))))))) H := hM
  obtain ⟨M6, eM6⟩ : ∃ X, X = bm_up M4 (x + 11) (.inl (ct 4, 20, .inr (.inr (.inr (.inr (va_up pa p (some sz))))))) := ⟨_, rfl⟩
  rw [← eM6] at hM
  replace h0 : M6 x = some (.inr (6, [.ref (x + 1), .ref (x + 2), .ref (x + 11), .int (nI p), .ref (x + 12), lc, .int lt, .long lb, .int wc, .int dc, .int fc, .int rc])) := by rw [eM6, bm_up_ne (by omega)]; exact h0
  replace g1 : M6 (x + 1) = some (.inl (ct 3, 4, .inr (.inr (.inr (.inr ac))))) := by rw [eM6, bm_up_ne (by omega)]; exact g1
  replace g2 : M6 (x + (13 + 2 * j)) = some (.inr (0, [.int bal, .ref (x + (14 + 2 * j)), .int cc])) := by rw [eM6, bm_up_ne (by omega)]; exact g2
  replace g3 : M6 (x + (14 + 2 * j)) = some (.inl (ct 6, 8, .inr (.inr (.inr (.inr wf))))) := by rw [eM6, bm_up_ne (by omega)]; exact g3
  replace g4 : M6 e = some (.inr (2, [.int dn, .long nu, .long sg, .int 1, .ref t1, .ref t0])) := by rw [eM6, bm_up_ne (bm_ne_ao g7 g4)]; exact g4
  replace g5 : M6 t1 = some (.inl (ct 1, 12, .inr (.inl f1))) := by rw [eM6, bm_up_ne (bm_ne_aa g7 g5 (by decide))]; exact g5
  replace g6 : M6 t0 = some (.inl (ct 1, 12, .inr (.inl f0))) := by rw [eM6, bm_up_ne (bm_ne_aa g7 g6 (by decide))]; exact g6
  replace fa : M6 sz = some (.inr (4, [.ref (sz + 1)])) := by rw [eM6, bm_up_ne (by omega)]; exact fa
  replace fn : M6 (sz + 1) = some (.inl (ct 1, 16, .inr (.inl (bm_pn f1 f0 (bm_h3 mer.toInt64 non.toInt64 sg) (bm_p4 dn.toInt64 sg mer.toInt64 non.toInt64) 4)))) := by rw [eM6, bm_up_ne (by omega)]; exact fn
  replace g7 : M6 (x + 11) = some (.inl (ct 4, 20, .inr (.inr (.inr (.inr (va_up pa p (some sz))))))) := by rw [eM6]; exact bm_up_self _ _ _
  replace hF : ∀ b, b ≠ x → b ≠ x + 11 → b ≠ e → b < sz → M6 b = M b := fun b q1 q2 q3 q4 => by rw [eM6]; exact (bm_up_ne (by omega)).trans (hF b q1 q2 q3 q4)
  clear eM6
  refine lv_aload_n hx hb dB_spend_65 rfl (lv_at hl 1 rfl) ?_
  refine lv_dup hx hb dB_spend_66 rfl ?_
  refine bm_get (ci := 6) (v := .int (nI p)) (C := "BlindMint") (T := bt_B) (N := 12) hx hb hts bu_B hown hK hM h0 rfl 3 (by decide) (hts _ bw_112) (fun _ h9 => h9) rfl dB_spend_67 ?_
  refine lv_iconst (v := 1) hx hb dB_spend_70 (by decide) ?_
  refine lv_iadd hx hb dB_spend_71 ?_
  refine lv_topi (fun t7 e_t7 => ?_)
  have e_t7 : t7 = nI (p + 1) := by rw [e_t7]; exact nI_add p 1
  subst e_t7
  refine bm_put (ci := 6) (v := .int (nI (p + 1))) (ty := .int) (C := "BlindMint") (T := bt_B) (N := 12) hx hb hts bu_B by_B bo_B bn_B hown hK hM hS h0 rfl 3 (by decide) (hts _ bw_112) (fun _ h9 => h9) rfl (by decide +kernel) rfl rfl (Nat.le_of_ble_eq_true rfl) dB_spend_72 (fun H locs hz1 hM hS => ?_)
  replace hz := hz1.trans hz
  replace hM : bm_M D base (bm_up M6 x (.inr (6, [.ref (x + 1), .ref (x + 2), .ref (x + 11), .int (nI (p + 1)), .ref (x + 12), lc, .int lt, .long lb, .int wc, .int dc, .int fc, .int rc]))) H := hM
  obtain ⟨M8, eM8⟩ : ∃ X, X = bm_up M6 x (.inr (6, [.ref (x + 1), .ref (x + 2), .ref (x + 11), .int (nI (p + 1)), .ref (x + 12), lc, .int lt, .long lb, .int wc, .int dc, .int fc, .int rc])) := ⟨_, rfl⟩
  rw [← eM8] at hM
  replace g1 : M8 (x + 1) = some (.inl (ct 3, 4, .inr (.inr (.inr (.inr ac))))) := by rw [eM8, bm_up_ne (by omega)]; exact g1
  replace g2 : M8 (x + (13 + 2 * j)) = some (.inr (0, [.int bal, .ref (x + (14 + 2 * j)), .int cc])) := by rw [eM8, bm_up_ne (by omega)]; exact g2
  replace g3 : M8 (x + (14 + 2 * j)) = some (.inl (ct 6, 8, .inr (.inr (.inr (.inr wf))))) := by rw [eM8, bm_up_ne (by omega)]; exact g3
  replace g4 : M8 e = some (.inr (2, [.int dn, .long nu, .long sg, .int 1, .ref t1, .ref t0])) := by rw [eM8, bm_up_ne (bm_ne_oo h0 g4 (by decide))]; exact g4
  replace g5 : M8 t1 = some (.inl (ct 1, 12, .inr (.inl f1))) := by rw [eM8, bm_up_ne (bm_ne_oa h0 g5)]; exact g5
  replace g6 : M8 t0 = some (.inl (ct 1, 12, .inr (.inl f0))) := by rw [eM8, bm_up_ne (bm_ne_oa h0 g6)]; exact g6
  replace g7 : M8 (x + 11) = some (.inl (ct 4, 20, .inr (.inr (.inr (.inr (va_up pa p (some sz))))))) := by rw [eM8, bm_up_ne (by omega)]; exact g7
  replace fa : M8 sz = some (.inr (4, [.ref (sz + 1)])) := by rw [eM8, bm_up_ne (by omega)]; exact fa
  replace fn : M8 (sz + 1) = some (.inl (ct 1, 16, .inr (.inl (bm_pn f1 f0 (bm_h3 mer.toInt64 non.toInt64 sg) (bm_p4 dn.toInt64 sg mer.toInt64 non.toInt64) 4)))) := by rw [eM8, bm_up_ne (by omega)]; exact fn
  replace h0 : M8 x = some (.inr (6, [.ref (x + 1), .ref (x + 2), .ref (x + 11), .int (nI (p + 1)), .ref (x + 12), lc, .int lt, .long lb, .int wc, .int dc, .int fc, .int rc])) := by rw [eM8]; exact bm_up_self _ _ _
  replace hF : ∀ b, b ≠ x → b ≠ x + 11 → b ≠ e → b < sz → M8 b = M b := fun b q1 q2 q3 q4 => by rw [eM8]; exact (bm_up_ne (by omega)).trans (hF b q1 q2 q3 q4)
  clear eM8
  refine lv_aload_n hx hb dB_spend_75 rfl (lv_at hl 1 rfl) ?_
  refine bm_get (ci := 6) (v := .int (nI (p + 1))) (C := "BlindMint") (T := bt_B) (N := 12) hx hb hts bu_B hown hK hM h0 rfl 3 (by decide) (hts _ bw_112) (fun _ h9 => h9) rfl dB_spend_76 ?_
  refine lv_iconst (v := 1) hx hb dB_spend_79 (by decide) ?_
  refine lv_isub hx hb dB_spend_80 ?_
  refine lv_topi (fun t9 e_t9 => ?_)
  have e_t9 : t9 = nI p := by rw [e_t9]; exact pk_sub (a := p + 1) (b := 1) (by omega)
  subst e_t9
  exact bm_iret hQ hx hb hr hlk hM hS ⟨rfl, h0, g4, fa, fn, g7, hF⟩ (Nat.le_of_ble_eq_true rfl) (Nat.le_of_ble_eq_true rfl) dB_spend_81
