set_option maxHeartbeats 4000000 in
set_option maxRecDepth 100000 in
theorem bc_B_withdraw_ok (l : Launch) (D : va_G) (ct : Nat → ClassId) (base : Nat) (ad : Nat → Nat) (M : bm_Map) (sz : Nat) (x : Nat) (pc lt wc dc fc rc : Int32) (lb : Int64) (lc : Value) (j d k n nn r : Nat) (bal ch fo so : Int32) (ac wf cf pt : Nat → Option Nat) (h : Nat → Int64) (seed : Int64) (vA vC vE vB vX vY vP : Nat → Int64) (h0 : M x = some (.inr (6, [.ref (x + 1), .ref (x + 2), .ref (x + 11), .int pc, .ref (x + 12), lc, .int lt, .long lb, .int wc, .int dc, .int fc, .int rc]))) (g1 : M (x + 1) = some (.inl (ct 3, 4, .inr (.inr (.inr (.inr ac)))))) (g2 : M (x + (13 + 2 * j)) = some (.inr (0, [.int bal, .ref (x + (14 + 2 * j)), .int (nI k)]))) (g3 : M (x + (14 + 2 * j)) = some (.inl (ct 6, 8, .inr (.inr (.inr (.inr wf)))))) (g4 : M (x + 12) = some (.inl (ct 1, 4, .inr (.inl h)))) (g5 : M (x + 2) = some (.inr (5, [.ref (x + 3), .ref (x + 4), .int fo, .int so]))) (g6 : M (x + 3) = some (.inl (ct 5, 6, .inr (.inr (.inr (.inr cf)))))) (g7 : M (x + 4) = some (.inl (ct 5, 4, .inr (.inr (.inr (.inr pt)))))) (hac : ∀ a, a < 4 → ac a = some (x + (13 + 2 * a))) (hxz : x + 21 ≤ sz) (hcM : ∀ j0, j0 < 6 → M (x + 2 + (3 + j0)) = some (.inr (1, [.long (vA j0), .long (vC j0), .long (vE j0), .long (vB j0), .long (vX j0), .long (vY j0), .long (vP j0)]))) (hcf : ∀ j0, j0 < 6 → cf j0 = some (x + 2 + (3 + j0))) (hj : j < 4) (hd : d < 3) (hc64 : bm_bl ch 64 = 1) (hk : k < 8) (hrich : ¬ bal < bm_w d) (ht : bm_tt (bm_zqp seed (lN (1000 + j)) ch) = lN n) (hn : n < 2 ^ 59) (hcaught : bm_nh (bm_hd (bm_ca seed (bm_o1 n)) (bm_zqb seed (lN (1000 + j)) ch (bm_o1 n)) (lN (1000 + j))) + bm_nh (bm_hd (bm_ca seed (bm_o2 n)) (bm_zqb seed (lN (1000 + j)) ch (bm_o2 n)) (lN (1000 + j))) = 0) (hnum : ∀ o : Nat → Nat, (∀ i, i < 4 → o i < 6) → (∀ i k, i < k → k < 4 → bm_lx (bm_zqp seed (lN (1000 + j)) ch) (o i) (o k)) → (∀ y, y < 6 → ((¬ y = bm_o1 n ∧ ¬ y = bm_o2 n) ↔ ∃ i, i < 4 ∧ y = o i)) → bm_hc (lN d) (fun i => bm_zqp seed (lN (1000 + j)) ch (o i)) = lN nn) (hnn : nn < 2 ^ 59) (hsd : bm_h2 seed 100 = lN r) (hr1 : r < 2 ^ 59) : Met l yB_withdraw (bm_ws yB_withdraw cB_withdraw 11 (some .int)) { frames := 6, cells := 3, slots := 30, locals := 157 } (bm_Pre D ct base ad M sz [.ref x, .int (nI j), .int (nI d), .long seed, .int ch]) (bm_Post D base (fun v M1 n9 => v = some (.int (nI k)) ∧ n9 = sz + 3 ∧ ∃ (wp : Nat → Option Nat) (o : Nat → Nat), (∀ i, i < 4 → wp i = some (x + 2 + (3 + o i))) ∧ (∀ i, i < 4 → o i < 6) ∧ (∀ i k, i < k → k < 4 → bm_lx (bm_zqp seed (lN (1000 + j)) ch) (o i) (o k)) ∧ (∀ y, y < 6 → ((¬ y = bm_o1 n ∧ ¬ y = bm_o2 n) ↔ ∃ i, i < 4 ∧ y = o i)) ∧ M1 x = some (.inr (6, [.ref (x + 1), .ref (x + 2), .ref (x + 11), .int pc, .ref (x + 12), lc, .int lt, .long (lN (bm_bn d nn (bm_bf d r))), .int (wc + 1), .int dc, .int fc, .int rc])) ∧ M1 (x + 12) = some (.inl (ct 1, 4, .inr (.inl (vp_updL (vp_updL (vp_updL (vp_updL (h) 0 (bm_zqp seed (lN (1000 + j)) ch (o 0))) 1 (bm_zqp seed (lN (1000 + j)) ch (o 1))) 2 (bm_zqp seed (lN (1000 + j)) ch (o 2))) 3 (bm_zqp seed (lN (1000 + j)) ch (o 3)))))) ∧ M1 (x + 2) = some (.inr (5, [.ref (x + 3), .ref (x + 4), .int (nI (bm_o1 n)), .int (nI (bm_o2 n))])) ∧ M1 (x + 4) = some (.inl (ct 5, 4, .inr (.inr (.inr (.inr wp))))) ∧ (∀ j0, j0 < 6 → M1 (x + 2 + (3 + j0)) = some (.inr (1, [.long (bm_ca seed j0), .long (bm_cc seed j0), .long (bm_ce seed j0), .long (bm_zqb seed (lN (1000 + j)) ch j0), .long (bm_zqx seed j0), .long (bm_zqy seed (lN (1000 + j)) ch j0), .long (bm_zqp seed (lN (1000 + j)) ch j0)]))) ∧ M1 (x + (13 + 2 * j)) = some (.inr (0, [.int (bal - bm_w d), .ref (x + (14 + 2 * j)), .int (nI (k + 1))])) ∧ M1 (x + (14 + 2 * j)) = some (.inl (ct 6, 8, .inr (.inr (.inr (.inr (va_up wf k (some sz))))))) ∧ M1 sz = some (.inr (2, [.int (nI d), .long (lN nn), .long (lN (bm_sg d nn)), .int 0, .ref (sz + 1), .ref (sz + 2)])) ∧ (∃ f, M1 (sz + 1) = some (.inl (ct 1, 12, .inr (.inl f))) ∧ ∀ t, t < 12 → f t = bm_v3 (fun i => bm_ca seed (o i)) (fun i => bm_cc seed (o i)) (fun i => bm_zqy seed (lN (1000 + j)) ch (o i)) t) ∧ (∃ f, M1 (sz + 2) = some (.inl (ct 1, 12, .inr (.inl f))) ∧ ∀ t, t < 12 → f t = bm_v3 (fun i => bm_zqb seed (lN (1000 + j)) ch (o i)) (fun i => bm_ce seed (o i)) (fun i => bm_zqx seed (o i)) t) ∧ ∀ b, b ≠ x → b ≠ x + 12 → b ≠ x + (13 + 2 * j) → b ≠ x + (14 + 2 * j) → (b < x + 2 ∨ x + 11 ≤ b ∨ b = x + 3) → b < sz → M1 b = M b)) 3 30 (bm_A base) := by
  refine bm_ofB (cc := cB_withdraw) (maxL := 11) (ret := (some .int)) (by decide +kernel) (Nat.le_of_ble_eq_true rfl) ?_
  intro vp ve s vm args below meth vc hx hb hr hlk hts hown hml hnm ls hl hz hM hG R Q hR hQ
  have hown : s.vm.findClass "BlindMint" = some vm.cls := hown
  have hK := hG.K
  have hS : va_S (bm_A base) s.heap s.heap [] := va_S.rf
  have hl : lv_has ls 11 [(0, .ref x), (1, .int (nI j)), (2, .int (nI d)), (3, .long seed), (5, .int ch)] := hl
  have hF : ∀ b, b ≠ x → b ≠ x + 12 → b ≠ x + (13 + 2 * j) → b ≠ x + (14 + 2 * j) → (b < x + 2 ∨ x + 11 ≤ b ∨ b = x + 3) → b < sz → M b = M b := fun _ _ _ _ _ _ _ => rfl
  refine lv_iload_n hx hb dB_withdraw_0 rfl (lv_at hl 1 rfl) ?_
  refine bm_callE (va_runS (As := [.int (nI j)]) (rest := []) ⟨hx, hb, hml, hown, hts⟩ (bc_B_isAccount l D ct base ad M sz (nI j)) (va_cwS 1 hts (bm_goodS bw_221 bw_222 bw_1 bw_223) rfl rfl rfl (by decide +kernel) (by rw [← hR]; exact ⟨Nat.le_of_ble_eq_true rfl, Nat.le_of_ble_eq_true rfl⟩)) (bm_preS hM hG hS hz) rfl rfl hl.1 rfl (lv_room (Nat.le_of_ble_eq_true rfl)) dB_withdraw_1 (by rw [← hR]; exact ⟨Nat.le_of_ble_eq_true rfl, Nat.le_of_ble_eq_true rfl⟩)) hS (fun H locs hz hM hS => ?_)
  refine lv_if_eq (tgt := 27) hx hb dB_withdraw_4 rfl (fun h4 => absurd h4 (by rw [show bm_bl (nI j) 4 = 1 from (bm_bl_nI (N := 4) hj (by decide))]; decide)) (fun h4 => ?_)
  refine lv_iload_n hx hb dB_withdraw_7 rfl (lv_at hl 2 rfl) ?_
  refine lv_i2l (v := lN d) hx hb dB_withdraw_8 (nI_l (by omega)) ?_
  refine bm_callE (va_runS (As := [.long (lN d)]) (rest := []) ⟨hx, hb, hml, hown, hts⟩ (bc_B_isDenomination l D ct base ad M sz (lN d)) (va_cwS 1 hts (bm_goodS bw_162 bw_163 bw_1 bw_164) rfl rfl rfl (by decide +kernel) (by rw [← hR]; exact ⟨Nat.le_of_ble_eq_true rfl, Nat.le_of_ble_eq_true rfl⟩)) (bm_preS hM hG hS hz) rfl rfl hl.1 rfl (lv_room (Nat.le_of_ble_eq_true rfl)) dB_withdraw_9 (by rw [← hR]; exact ⟨Nat.le_of_ble_eq_true rfl, Nat.le_of_ble_eq_true rfl⟩)) hS (fun H locs hz hM hS => ?_)
  refine lv_if_eq (tgt := 27) hx hb dB_withdraw_12 rfl (fun h12 => absurd h12 (by rw [bm_bL_d hd]; decide)) (fun h12 => ?_)
  refine lv_iload hx hb dB_withdraw_15 (lv_at hl 4 rfl) ?_
  refine lv_if_lt (tgt := 27) hx hb dB_withdraw_17 rfl (fun h17 => absurd h17 (bm_bl_64 hc64).1) (fun h17 => ?_)
  refine lv_iload hx hb dB_withdraw_20 (lv_at hl 4 rfl) ?_
  refine lv_bipush (v := 63) hx hb dB_withdraw_22 (by decide) ?_
  refine lv_icmp_le (tgt := 35) hx hb dB_withdraw_24 rfl (fun h24 => ?_) (fun h24 => absurd (bm_bl_64 hc64).2 h24)
  refine lv_aload_n hx hb dB_withdraw_35 rfl (lv_at hl 0 rfl) ?_
  refine bm_get (ci := 6) (v := .ref (x + 1)) (C := "BlindMint") (T := bt_B) (N := 12) hx hb hts bu_B hown hK hM h0 rfl 0 (by decide) (hts _ bw_109) (fun _ h9 => h9) rfl dB_withdraw_36 ?_
  refine lv_iload_n hx hb dB_withdraw_39 rfl (lv_at hl 1 rfl) ?_
  refine bm_aald (v := .ref (x + (13 + 2 * j))) hx hb hK hM 3 g1 rfl j (bm_ix_nI (by omega)) (by omega) (by rw [hac j hj]; rfl) dB_withdraw_40 ?_
  refine lv_astore hx hb dB_withdraw_41 hl (by decide) rfl (fun ls hl => ?_)
  have hl : lv_has ls 11 [(6, .ref (x + (13 + 2 * j))), (0, .ref x), (1, .int (nI j)), (2, .int (nI d)), (3, .long seed), (5, .int ch)] := hl
  refine va_gets hx hb hG.2.2.2.1 hS hown (hts _ bw_165) (fun _ h9 => h9) dB_withdraw_43 ?_
  refine lv_iload_n hx hb dB_withdraw_46 rfl (lv_at hl 3 rfl) ?_
  refine bm_tq hx hb hG.2.2.2.2.1 hS d (bm_ix_nI (by omega)) (by omega) dB_withdraw_47 ?_
  refine va_getX (i := d) hx hb hG.2.2.2.2.2.2.1 (by omega) hS hown (hts _ bw_835) (fun _ h9 => h9) dB_withdraw_48 ?_
  refine lv_istore hx hb dB_withdraw_51 hl (by decide) rfl (fun ls hl => ?_)
  have hl : lv_has ls 11 [(7, .int (bm_w d)), (6, .ref (x + (13 + 2 * j))), (0, .ref x), (1, .int (nI j)), (2, .int (nI d)), (3, .long seed), (5, .int ch)] := hl
  refine lv_aload hx hb dB_withdraw_53 (lv_at hl 1 rfl) ?_
  refine bm_get (ci := 0) (v := .int bal) (C := "BlindMint$Account") (T := bt_A) (N := 3) hx hb hts bu_A hown hK hM g2 rfl 0 (by decide) (hts _ bw_96) (fun _ h9 => h9) rfl dB_withdraw_55 ?_
  refine lv_iload hx hb dB_withdraw_58 (lv_at hl 0 rfl) ?_
  refine lv_icmp_lt (tgt := 71) hx hb dB_withdraw_60 rfl (fun h60 => absurd h60 hrich) (fun h60 => ?_)
  refine lv_aload hx hb dB_withdraw_63 (lv_at hl 1 rfl) ?_
  refine bm_callE (va_runV (As := []) (rest := []) ⟨hx, hb, hml, hown, hts⟩ (bc_A_isWalletFull_n l D ct base ad M sz (x + (13 + 2 * j)) (x + (14 + 2 * j)) k bal g2 hk) (cwV 0 hts (bm_goodV bw_304 bw_305 bw_306 bw_4 bw_307) rfl rfl rfl (by decide +kernel) (by rw [← hR]; exact ⟨Nat.le_of_ble_eq_true rfl, Nat.le_of_ble_eq_true rfl⟩)) (bm_preV hM hG hS hz g2 rfl) rfl rfl hl.1 rfl (lv_room (Nat.le_of_ble_eq_true rfl)) dB_withdraw_65 (by rw [← hR]; exact ⟨Nat.le_of_ble_eq_true rfl, Nat.le_of_ble_eq_true rfl⟩)) hS (fun H locs hz hM hS => ?_)
  refine lv_if_eq (tgt := 79) hx hb dB_withdraw_68 rfl (fun _ => ?_) (fun h => absurd h (by decide))
  refine lv_sipush (v := 1000) hx hb dB_withdraw_79 (by decide) ?_
  refine lv_iload_n hx hb dB_withdraw_82 rfl (lv_at hl 3 rfl) ?_
  refine lv_iadd hx hb dB_withdraw_83 ?_
  refine lv_topi (fun t1 e_t1 => ?_)
  have e_t1 : t1 = nI (1000 + j) := by rw [e_t1]; exact nI_add 1000 j
  subst e_t1
  refine lv_i2l (v := lN (1000 + j)) hx hb dB_withdraw_84 (nI_l (by omega)) ?_
  refine lv_lstore hx hb dB_withdraw_85 hl (by decide) rfl (fun ls hl => ?_)
  have hl : lv_has ls 11 [(8, .long (lN (1000 + j))), (7, .int (bm_w d)), (6, .ref (x + (13 + 2 * j))), (0, .ref x), (1, .int (nI j)), (2, .int (nI d)), (3, .long seed), (5, .int ch)] := hl
  refine lv_aload_n hx hb dB_withdraw_87 rfl (lv_at hl 3 rfl) ?_
  refine bm_get (ci := 6) (v := .ref (x + 2)) (C := "BlindMint") (T := bt_B) (N := 12) hx hb hts bu_B hown hK hM h0 rfl 1 (by decide) (hts _ bw_110) (fun _ h9 => h9) rfl dB_withdraw_88 ?_
  refine lv_lload_n hx hb dB_withdraw_91 rfl (lv_at hl 6 rfl) ?_
  refine lv_lload hx hb dB_withdraw_92 (lv_at hl 0 rfl) ?_
  refine lv_iload hx hb dB_withdraw_94 (lv_at hl 7 rfl) ?_
  have hc0 : ∀ j0, j0 < 6 → M (x + 2 + (3 + j0)) = some (.inr (1, [.long (vA j0), .long (vC j0), .long (vE j0), .long (vB j0), .long (vX j0), .long (vY j0), .long (vP j0)])) := hcM
  refine bm_call (va_runV (As := [.long seed, .long (lN (1000 + j)), .int ch]) (rest := []) ⟨hx, hb, hml, hown, hts⟩ (bc_Q_make l D ct base ad M sz (x + 2) n seed (lN (1000 + j)) ch fo so cf pt vA vC vE vB vX vY vP g5 g6 g7 (hc0 0 (by decide)) (hc0 1 (by decide)) (hc0 2 (by decide)) (hc0 3 (by decide)) (hc0 4 (by decide)) (hc0 5 (by decide)) hcf ht hn) (cwV 3 hts (bm_goodV bw_323 bw_324 bw_325 bw_2 bw_326) rfl rfl rfl (by decide +kernel) (by rw [← hR]; exact ⟨Nat.le_of_ble_eq_true rfl, Nat.le_of_ble_eq_true rfl⟩)) (bm_preV hM hG hS hz g5 rfl) rfl rfl hl.1 rfl (lv_room (Nat.le_of_ble_eq_true rfl)) dB_withdraw_96 (by rw [← hR]; exact ⟨Nat.le_of_ble_eq_true rfl, Nat.le_of_ble_eq_true rfl⟩)) hS (fun v9 M2 H locs hq hM hS _ => ?_)
  obtain ⟨rfl, hz, wp, o, f0, f2, f3, p1, p2, p3, p4, hfr⟩ := hq
  replace h0 : M2 x = some (.inr (6, [.ref (x + 1), .ref (x + 2), .ref (x + 11), .int pc, .ref (x + 12), lc, .int lt, .long lb, .int wc, .int dc, .int fc, .int rc])) := by rw [hfr x (by omega)]; exact h0
  replace g1 : M2 (x + 1) = some (.inl (ct 3, 4, .inr (.inr (.inr (.inr ac))))) := by rw [hfr (x + 1) (by omega)]; exact g1
  replace g2 : M2 (x + (13 + 2 * j)) = some (.inr (0, [.int bal, .ref (x + (14 + 2 * j)), .int (nI k)])) := by rw [hfr (x + (13 + 2 * j)) (by omega)]; exact g2
  replace g3 : M2 (x + (14 + 2 * j)) = some (.inl (ct 6, 8, .inr (.inr (.inr (.inr wf))))) := by rw [hfr (x + (14 + 2 * j)) (by omega)]; exact g3
  replace g4 : M2 (x + 12) = some (.inl (ct 1, 4, .inr (.inl h))) := by rw [hfr (x + 12) (by omega)]; exact g4
  replace g6 : M2 (x + 3) = some (.inl (ct 5, 6, .inr (.inr (.inr (.inr cf))))) := by rw [hfr (x + 3) (by omega)]; exact g6
  replace f0 : M2 (x + 2) = some (.inr (5, [.ref (x + 3), .ref (x + 4), .int (nI (bm_o1 n)), .int (nI (bm_o2 n))])) := f0
  replace f2 : M2 (x + 4) = some (.inl (ct 5, 4, .inr (.inr (.inr (.inr wp))))) := f2
  replace hF : ∀ b, b ≠ x → b ≠ x + 12 → b ≠ x + (13 + 2 * j) → b ≠ x + (14 + 2 * j) → (b < x + 2 ∨ x + 11 ≤ b ∨ b = x + 3) → b < sz → M2 b = M b := fun b q1 q2 q3 q4 q5 q6 => (hfr b (by omega)).trans (hF b q1 q2 q3 q4 q5 q6)
  clear hfr
  refine lv_aload_n hx hb dB_withdraw_99 rfl (lv_at hl 3 rfl) ?_
  refine bm_get (ci := 6) (v := .ref (x + 2)) (C := "BlindMint") (T := bt_B) (N := 12) hx hb hts bu_B hown hK hM h0 rfl 1 (by decide) (hts _ bw_110) (fun _ h9 => h9) rfl dB_withdraw_100 ?_
  refine lv_lload hx hb dB_withdraw_103 (lv_at hl 0 rfl) ?_
  refine bm_callE (va_runV (As := [.long (lN (1000 + j))]) (rest := []) ⟨hx, hb, hml, hown, hts⟩ (bc_Q_openedCheats l D ct base ad M2 sz (x + 2) (bm_o1 n) (bm_o2 n) cf wp (bm_ca seed) (bm_cc seed) (bm_ce seed) (bm_zqb seed (lN (1000 + j)) ch) (bm_zqx seed) (bm_zqy seed (lN (1000 + j)) ch) (bm_zqp seed (lN (1000 + j)) ch) (lN (1000 + j)) f0 g6 hcf (Nat.mod_lt _ (by decide)) (Nat.mod_lt _ (by decide)) f3) (cwV 1 hts (bm_goodV bw_349 bw_350 bw_351 bw_2 bw_352) rfl rfl rfl (by decide +kernel) (by rw [← hR]; exact ⟨Nat.le_of_ble_eq_true rfl, Nat.le_of_ble_eq_true rfl⟩)) (bm_preV hM hG hS hz f0 rfl) rfl rfl hl.1 rfl (lv_room (Nat.le_of_ble_eq_true rfl)) dB_withdraw_105 (by rw [← hR]; exact ⟨Nat.le_of_ble_eq_true rfl, Nat.le_of_ble_eq_true rfl⟩)) hS (fun H locs hz hM hS => ?_)
  refine lv_istore hx hb dB_withdraw_108 hl (by decide) rfl (fun ls hl => ?_)
  have hl : lv_has ls 11 [(10, .int (bm_nh (bm_hd (bm_ca seed (bm_o1 n)) (bm_zqb seed (lN (1000 + j)) ch (bm_o1 n)) (lN (1000 + j))) + bm_nh (bm_hd (bm_ca seed (bm_o2 n)) (bm_zqb seed (lN (1000 + j)) ch (bm_o2 n)) (lN (1000 + j))))), (8, .long (lN (1000 + j))), (7, .int (bm_w d)), (6, .ref (x + (13 + 2 * j))), (0, .ref x), (1, .int (nI j)), (2, .int (nI d)), (3, .long seed), (5, .int ch)] := hl
  refine lv_iload hx hb dB_withdraw_110 (lv_at hl 0 rfl) ?_
  refine lv_if_le (tgt := 145) hx hb dB_withdraw_112 rfl (fun h112 => ?_) (fun h112 => absurd (by rw [hcaught]; decide) h112)
  refine lv_aload hx hb dB_withdraw_145 (lv_at hl 3 rfl) ?_
  refine lv_dup hx hb dB_withdraw_147 rfl ?_
  refine bm_get (ci := 0) (v := .int bal) (C := "BlindMint$Account") (T := bt_A) (N := 3) hx hb hts bu_A hown hK hM g2 rfl 0 (by decide) (hts _ bw_96) (fun _ h9 => h9) rfl dB_withdraw_148 ?_
  refine lv_iload hx hb dB_withdraw_151 (lv_at hl 2 rfl) ?_
  refine lv_isub hx hb dB_withdraw_153 ?_
  refine bm_put (ci := 0) (v := .int (bal - (bm_w d))) (ty := .int) (C := "BlindMint$Account") (T := bt_A) (N := 3) hx hb hts bu_A by_A bo_A bn_A hown hK hM hS g2 rfl 0 (by decide) (hts _ bw_96) (fun _ h9 => h9) rfl (by decide +kernel) rfl rfl (Nat.le_of_ble_eq_true rfl) dB_withdraw_154 (fun H locs hz1 hM hS => ?_)
  replace hz := hz1.trans hz
  replace hM : bm_M D base (bm_up M2 (x + (13 + 2 * j)) (.inr (0, [.int (bal - (bm_w d)), .ref (x + (14 + 2 * j)), .int (nI k)]))) H := hM
  obtain ⟨M3, eM3⟩ : ∃ X, X = bm_up M2 (x + (13 + 2 * j)) (.inr (0, [.int (bal - (bm_w d)), .ref (x + (14 + 2 * j)), .int (nI k)])) := ⟨_, rfl⟩
  rw [← eM3] at hM
  replace h0 : M3 x = some (.inr (6, [.ref (x + 1), .ref (x + 2), .ref (x + 11), .int pc, .ref (x + 12), lc, .int lt, .long lb, .int wc, .int dc, .int fc, .int rc])) := by rw [eM3, bm_up_ne (by omega)]; exact h0
  replace g1 : M3 (x + 1) = some (.inl (ct 3, 4, .inr (.inr (.inr (.inr ac))))) := by rw [eM3, bm_up_ne (by omega)]; exact g1
  replace g3 : M3 (x + (14 + 2 * j)) = some (.inl (ct 6, 8, .inr (.inr (.inr (.inr wf))))) := by rw [eM3, bm_up_ne (by omega)]; exact g3
  replace g4 : M3 (x + 12) = some (.inl (ct 1, 4, .inr (.inl h))) := by rw [eM3, bm_up_ne (by omega)]; exact g4
  replace f0 : M3 (x + 2) = some (.inr (5, [.ref (x + 3), .ref (x + 4), .int (nI (bm_o1 n)), .int (nI (bm_o2 n))])) := by rw [eM3, bm_up_ne (by omega)]; exact f0
  replace g6 : M3 (x + 3) = some (.inl (ct 5, 6, .inr (.inr (.inr (.inr cf))))) := by rw [eM3, bm_up_ne (by omega)]; exact g6
  replace f2 : M3 (x + 4) = some (.inl (ct 5, 4, .inr (.inr (.inr (.inr wp))))) := by rw [eM3, bm_up_ne (by omega)]; exact f2
  replace g2 : M3 (x + (13 + 2 * j)) = some (.inr (0, [.int (bal - (bm_w d)), .ref (x + (14 + 2 * j)), .int (nI k)])) := by rw [eM3]; exact bm_up_self _ _ _
  replace hF : ∀ b, b ≠ x → b ≠ x + 12 → b ≠ x + (13 + 2 * j) → b ≠ x + (14 + 2 * j) → (b < x + 2 ∨ x + 11 ≤ b ∨ b = x + 3) → b < sz → M3 b = M b := fun b q1 q2 q3 q4 q5 q6 => by rw [eM3]; exact (bm_up_ne (by omega)).trans (hF b q1 q2 q3 q4 q5 q6)
  replace f3 : ∀ j0, j0 < 6 → M3 (x + 2 + (3 + j0)) = some (.inr (1, [.long (bm_ca seed j0), .long (bm_cc seed j0), .long (bm_ce seed j0), .long (bm_zqb seed (lN (1000 + j)) ch j0), .long (bm_zqx seed j0), .long (bm_zqy seed (lN (1000 + j)) ch j0), .long (bm_zqp seed (lN (1000 + j)) ch j0)])) := fun j0 hj0 => by rw [eM3, bm_up_ne (by omega)]; exact f3 j0 hj0
  clear eM3
  refine lv_aload_n hx hb dB_withdraw_157 rfl (lv_at hl 4 rfl) ?_
  refine lv_dup hx hb dB_withdraw_158 rfl ?_
  refine bm_get (ci := 6) (v := .int wc) (C := "BlindMint") (T := bt_B) (N := 12) hx hb hts bu_B hown hK hM h0 rfl 8 (by decide) (hts _ bw_117) (fun _ h9 => h9) rfl dB_withdraw_159 ?_
  refine lv_iconst (v := 1) hx hb dB_withdraw_162 (by decide) ?_
  refine lv_iadd hx hb dB_withdraw_163 ?_
  refine bm_put (ci := 6) (v := .int (wc + 1)) (ty := .int) (C := "BlindMint") (T := bt_B) (N := 12) hx hb hts bu_B by_B bo_B bn_B hown hK hM hS h0 rfl 8 (by decide) (hts _ bw_117) (fun _ h9 => h9) rfl (by decide +kernel) rfl rfl (Nat.le_of_ble_eq_true rfl) dB_withdraw_164 (fun H locs hz1 hM hS => ?_)
  replace hz := hz1.trans hz
  replace hM : bm_M D base (bm_up M3 x (.inr (6, [.ref (x + 1), .ref (x + 2), .ref (x + 11), .int pc, .ref (x + 12), lc, .int lt, .long lb, .int (wc + 1), .int dc, .int fc, .int rc]))) H := hM
  obtain ⟨M4, eM4⟩ : ∃ X, X = bm_up M3 x (.inr (6, [.ref (x + 1), .ref (x + 2), .ref (x + 11), .int pc, .ref (x + 12), lc, .int lt, .long lb, .int (wc + 1), .int dc, .int fc, .int rc])) := ⟨_, rfl⟩
  rw [← eM4] at hM
  replace g1 : M4 (x + 1) = some (.inl (ct 3, 4, .inr (.inr (.inr (.inr ac))))) := by rw [eM4, bm_up_ne (by omega)]; exact g1
  replace g2 : M4 (x + (13 + 2 * j)) = some (.inr (0, [.int (bal - (bm_w d)), .ref (x + (14 + 2 * j)), .int (nI k)])) := by rw [eM4, bm_up_ne (by omega)]; exact g2
  replace g3 : M4 (x + (14 + 2 * j)) = some (.inl (ct 6, 8, .inr (.inr (.inr (.inr wf))))) := by rw [eM4, bm_up_ne (by omega)]; exact g3
  replace g4 : M4 (x + 12) = some (.inl (ct 1, 4, .inr (.inl h))) := by rw [eM4, bm_up_ne (by omega)]; exact g4
  replace f0 : M4 (x + 2) = some (.inr (5, [.ref (x + 3), .ref (x + 4), .int (nI (bm_o1 n)), .int (nI (bm_o2 n))])) := by rw [eM4, bm_up_ne (by omega)]; exact f0
  replace g6 : M4 (x + 3) = some (.inl (ct 5, 6, .inr (.inr (.inr (.inr cf))))) := by rw [eM4, bm_up_ne (by omega)]; exact g6
  replace f2 : M4 (x + 4) = some (.inl (ct 5, 4, .inr (.inr (.inr (.inr wp))))) := by rw [eM4, bm_up_ne (by omega)]; exact f2
  replace h0 : M4 x = some (.inr (6, [.ref (x + 1), .ref (x + 2), .ref (x + 11), .int pc, .ref (x + 12), lc, .int lt, .long lb, .int (wc + 1), .int dc, .int fc, .int rc])) := by rw [eM4]; exact bm_up_self _ _ _
  replace hF : ∀ b, b ≠ x → b ≠ x + 12 → b ≠ x + (13 + 2 * j) → b ≠ x + (14 + 2 * j) → (b < x + 2 ∨ x + 11 ≤ b ∨ b = x + 3) → b < sz → M4 b = M b := fun b q1 q2 q3 q4 q5 q6 => by rw [eM4]; exact (bm_up_ne (by omega)).trans (hF b q1 q2 q3 q4 q5 q6)
  replace f3 : ∀ j0, j0 < 6 → M4 (x + 2 + (3 + j0)) = some (.inr (1, [.long (bm_ca seed j0), .long (bm_cc seed j0), .long (bm_ce seed j0), .long (bm_zqb seed (lN (1000 + j)) ch j0), .long (bm_zqx seed j0), .long (bm_zqy seed (lN (1000 + j)) ch j0), .long (bm_zqp seed (lN (1000 + j)) ch j0)])) := fun j0 hj0 => by rw [eM4, bm_up_ne (by omega)]; exact f3 j0 hj0
  clear eM4
  refine lv_aload hx hb dB_withdraw_167 (lv_at hl 3 rfl) ?_
  refine lv_aload_n hx hb dB_withdraw_169 rfl (lv_at hl 4 rfl) ?_
  refine lv_iload_n hx hb dB_withdraw_170 rfl (lv_at hl 6 rfl) ?_
  refine lv_lload_n hx hb dB_withdraw_171 rfl (lv_at hl 7 rfl) ?_
  refine bm_call (va_runV (As := [.int (nI d), .long seed]) (rest := [.ref (x + (13 + 2 * j))]) ⟨hx, hb, hml, hown, hts⟩ (bc_B_makeCoin l D ct base ad M4 sz x pc lt (wc + 1) dc fc rc lb lc d nn r o (nI (bm_o1 n)) (nI (bm_o2 n)) cf wp h seed (bm_ca seed) (bm_cc seed) (bm_ce seed) (bm_zqb seed (lN (1000 + j)) ch) (bm_zqx seed) (bm_zqy seed (lN (1000 + j)) ch) (bm_zqp seed (lN (1000 + j)) ch) h0 g4 f0 f2 hxz f3 p1 p2 hd (hnum o p2 p3 p4) hnn hsd hr1) (cwV 2 hts (bm_goodV bw_357 bw_359 bs_6 bw_1 bw_360) rfl rfl rfl (by decide +kernel) (by rw [← hR]; exact ⟨Nat.le_of_ble_eq_true rfl, Nat.le_of_ble_eq_true rfl⟩)) (bm_preV hM hG hS hz h0 rfl) rfl rfl hl.1 rfl (lv_room (Nat.le_of_ble_eq_true rfl)) dB_withdraw_172 (by rw [← hR]; exact ⟨Nat.le_of_ble_eq_true rfl, Nat.le_of_ble_eq_true rfl⟩)) hS (fun v9 M5 H locs hq hM hS _ => ?_)
  obtain ⟨rfl, hz, fc9, ft1, ft0, fx, fh, hfr⟩ := hq
  replace g1 : M5 (x + 1) = some (.inl (ct 3, 4, .inr (.inr (.inr (.inr ac))))) := by rw [hfr (x + 1) (by omega) (by omega) (by omega)]; exact g1
  replace g2 : M5 (x + (13 + 2 * j)) = some (.inr (0, [.int (bal - (bm_w d)), .ref (x + (14 + 2 * j)), .int (nI k)])) := by rw [hfr (x + (13 + 2 * j)) (by omega) (by omega) (by omega)]; exact g2
  replace g3 : M5 (x + (14 + 2 * j)) = some (.inl (ct 6, 8, .inr (.inr (.inr (.inr wf))))) := by rw [hfr (x + (14 + 2 * j)) (by omega) (by omega) (by omega)]; exact g3
  replace f0 : M5 (x + 2) = some (.inr (5, [.ref (x + 3), .ref (x + 4), .int (nI (bm_o1 n)), .int (nI (bm_o2 n))])) := by rw [hfr (x + 2) (by omega) (by omega) (by omega)]; exact f0
  replace g6 : M5 (x + 3) = some (.inl (ct 5, 6, .inr (.inr (.inr (.inr cf))))) := by rw [hfr (x + 3) (by omega) (by omega) (by omega)]; exact g6
  replace f2 : M5 (x + 4) = some (.inl (ct 5, 4, .inr (.inr (.inr (.inr wp))))) := by rw [hfr (x + 4) (by omega) (by omega) (by omega)]; exact f2
  replace f3 : ∀ j0, j0 < 6 → M5 (x + 2 + (3 + j0)) = some (.inr (1, [.long (bm_ca seed j0), .long (bm_cc seed j0), .long (bm_ce seed j0), .long (bm_zqb seed (lN (1000 + j)) ch j0), .long (bm_zqx seed j0), .long (bm_zqy seed (lN (1000 + j)) ch j0), .long (bm_zqp seed (lN (1000 + j)) ch j0)])) := fun j0 hj0 => by rw [hfr _ (by omega) (by omega) (by omega)]; exact f3 j0 hj0
  replace hF : ∀ b, b ≠ x → b ≠ x + 12 → b ≠ x + (13 + 2 * j) → b ≠ x + (14 + 2 * j) → (b < x + 2 ∨ x + 11 ≤ b ∨ b = x + 3) → b < sz → M5 b = M b := fun b q1 q2 q3 q4 q5 q6 => (hfr b (by omega) (by omega) (by omega)).trans (hF b q1 q2 q3 q4 q5 q6)
  refine bm_callE (va_runV (As := [.ref sz]) (rest := []) ⟨hx, hb, hml, hown, hts⟩ (bc_A_keep l D ct base ad M5 (sz + 3) (x + (13 + 2 * j)) (x + (14 + 2 * j)) k sz (sz + 1) (sz + 2) (bal - bm_w d) (nI d) 0 (lN nn) (lN (bm_sg d nn)) wf g2 g3 fc9 hk) (cwV 1 hts (bm_goodV bw_440 bw_441 bw_442 bw_4 bw_443) rfl rfl rfl (by decide +kernel) (by rw [← hR]; exact ⟨Nat.le_of_ble_eq_true rfl, Nat.le_of_ble_eq_true rfl⟩)) (bm_preV hM hG hS hz g2 rfl) rfl rfl hl.1 rfl (lv_room (Nat.le_of_ble_eq_true rfl)) dB_withdraw_175 (by rw [← hR]; exact ⟨Nat.le_of_ble_eq_true rfl, Nat.le_of_ble_eq_true rfl⟩)) hS (fun H locs hz hM hS => ?_)
  obtain ⟨M6, eM6⟩ : ∃ X, X = bm_up (bm_up M5 (x + (14 + 2 * j)) (.inl (ct 6, 8, .inr (.inr (.inr (.inr (va_up wf k (some sz)))))))) (x + (13 + 2 * j)) (.inr (0, [.int (bal - bm_w d), .ref (x + (14 + 2 * j)), .int (nI (k + 1))])) := ⟨_, rfl⟩
  replace hM : bm_M D base M6 H := by rw [eM6]; exact hM
  have up : ∀ b, b ≠ x + (13 + 2 * j) → b ≠ x + (14 + 2 * j) → M6 b = M5 b := fun b q1 q2 => by rw [eM6, bm_up_ne q1, bm_up_ne q2]
  have hcase := hnum o p2 p3 p4
  exact bm_iret hQ hx hb hr hlk hM hS ⟨rfl, hz, wp, o, p1, p2, p3, p4, (by rw [up _ (by omega) (by omega)]; exact fx), (by rw [up _ (by omega) (by omega)]; exact fh), (by rw [up _ (by omega) (by omega)]; exact f0), (by rw [up _ (by omega) (by omega)]; exact f2), (fun j0 hj0 => by rw [up _ (by omega) (by omega)]; exact f3 j0 hj0), (by rw [eM6]; exact bm_up_self _ _ _), (by rw [eM6, bm_up_ne (by omega)]; exact bm_up_self _ _ _), (by rw [up _ (by omega) (by omega)]; exact fc9), (by obtain ⟨f9, a9, b9⟩ := ft1; exact ⟨f9, by rw [up _ (by omega) (by omega)]; exact a9, b9⟩), (by obtain ⟨f9, a9, b9⟩ := ft0; exact ⟨f9, by rw [up _ (by omega) (by omega)]; exact a9, b9⟩), (fun b q1 q2 q3 q4 q5 q6 => (up b q3 q4).trans (hF b q1 q2 q3 q4 q5 q6))⟩ (Nat.le_of_ble_eq_true rfl) (Nat.le_of_ble_eq_true rfl) dB_withdraw_178
