set_option maxHeartbeats 4000000 in
set_option maxRecDepth 100000 in
theorem bc_B_makeCoin (l : Launch) (D : va_G) (ct : Nat → ClassId) (base : Nat) (ad : Nat → Nat) (M : bm_Map) (sz : Nat) (x : Nat) (pc lt wc dc fc rc : Int32) (lb : Int64) (lc : Value) (d k r : Nat) (o : Nat → Nat) (fo so : Int32) (cf pt : Nat → Option Nat) (h : Nat → Int64) (seed : Int64) (vA vC vE vB vX vY vP : Nat → Int64) (h0 : M x = some (.inr (6, [.ref (x + 1), .ref (x + 2), .ref (x + 11), .int pc, .ref (x + 12), lc, .int lt, .long lb, .int wc, .int dc, .int fc, .int rc]))) (h1 : M (x + 12) = some (.inl (ct 1, 4, .inr (.inl h)))) (h2 : M (x + 2) = some (.inr (5, [.ref (x + 3), .ref (x + 4), .int fo, .int so]))) (h3 : M (x + 4) = some (.inl (ct 5, 4, .inr (.inr (.inr (.inr pt)))))) (hxz : x + 21 ≤ sz) (hcM : ∀ j, j < 6 → M (x + 2 + (3 + j)) = some (.inr (1, [.long (vA j), .long (vC j), .long (vE j), .long (vB j), .long (vX j), .long (vY j), .long (vP j)]))) (hpt : ∀ i, i < 4 → pt i = some (x + 2 + (3 + o i))) (ho : ∀ i, i < 4 → o i < 6) (hd : d < 3) (hnum : bm_hc (lN d) (fun i => vP (o i)) = lN k) (hk : k < 2 ^ 59) (hsd : bm_h2 seed 100 = lN r) (hr1 : r < 2 ^ 59) : Met l yB_makeCoin (bm_ws yB_makeCoin cB_makeCoin 11 (some (.object "BlindMint$Coin"))) { frames := 5, cells := 3, slots := 30, locals := 127 } (bm_Pre D ct base ad M sz [.ref x, .int (nI d), .long seed]) (bm_Post D base (fun v M1 n => v = some (.ref sz) ∧ n = sz + 3 ∧ M1 sz = some (.inr (2, [.int (nI d), .long (lN k), .long (lN (bm_sg d k)), .int 0, .ref (sz + 1), .ref (sz + 2)])) ∧ (∃ f, M1 (sz + 1) = some (.inl (ct 1, 12, .inr (.inl f))) ∧ ∀ t, t < 12 → f t = bm_v3 (fun i => vA (o i)) (fun i => vC (o i)) (fun i => vY (o i)) t) ∧ (∃ f, M1 (sz + 2) = some (.inl (ct 1, 12, .inr (.inl f))) ∧ ∀ t, t < 12 → f t = bm_v3 (fun i => vB (o i)) (fun i => vE (o i)) (fun i => vX (o i)) t) ∧ M1 x = some (.inr (6, [.ref (x + 1), .ref (x + 2), .ref (x + 11), .int pc, .ref (x + 12), lc, .int lt, .long (lN (bm_bn d k (bm_bf d r))), .int wc, .int dc, .int fc, .int rc])) ∧ M1 (x + 12) = some (.inl (ct 1, 4, .inr (.inl (vp_updL (vp_updL (vp_updL (vp_updL (h) 0 (vP (o 0))) 1 (vP (o 1))) 2 (vP (o 2))) 3 (vP (o 3)))))) ∧ ∀ b, b ≠ x → b ≠ x + 12 → b < sz → M1 b = M b)) 3 30 (bm_A base) := by
  refine bm_ofB (cc := cB_makeCoin) (maxL := 11) (ret := (some (.object "BlindMint$Coin"))) (by decide +kernel) (Nat.le_of_ble_eq_true rfl) ?_
  intro vp ve s vm args below meth vc hx hb hr hlk hts hown hml hnm ls hl hz hM hG R Q hR hQ
  have hown : s.vm.findClass "BlindMint" = some vm.cls := hown
  have hK := hG.K
  have hS : va_S (bm_A base) s.heap s.heap [] := va_S.rf
  have hl : lv_has ls 11 [(0, .ref x), (1, .int (nI d)), (2, .long seed)] := hl
  have hF : ∀ b, b ≠ x → b ≠ x + 12 → b < sz → M b = M b := fun _ _ _ _ => rfl
  have hbf : bm_bf d r < 2 ^ 62 := by have := bm_bf_ok d r; omega
  refine va_gets hx hb hG.2.2.2.1 hS hown (hts _ bw_165) (fun _ h9 => h9) dB_makeCoin_0 ?_
  refine lv_iload_n hx hb dB_makeCoin_3 rfl (lv_at hl 1 rfl) ?_
  refine bm_tq hx hb hG.2.2.2.2.1 hS d (bm_ix_nI (by omega)) (by omega) dB_makeCoin_4 ?_
  refine lv_astore hx hb dB_makeCoin_5 hl (by decide) rfl (fun ls hl => ?_)
  have hl : lv_has ls 11 [(4, .ref (ad d)), (0, .ref x), (1, .int (nI d)), (2, .long seed)] := hl
  refine lv_aload_n hx hb dB_makeCoin_7 rfl (lv_at hl 1 rfl) ?_
  refine bm_get (ci := 6) (v := .ref (x + 2)) (C := "BlindMint") (T := bt_B) (N := 12) hx hb hts bu_B hown hK hM h0 rfl 1 (by decide) (hts _ bw_110) (fun _ h9 => h9) rfl dB_makeCoin_8 ?_
  refine lv_aload_n hx hb dB_makeCoin_11 rfl (lv_at hl 1 rfl) ?_
  refine bm_get (ci := 6) (v := .ref (x + 12)) (C := "BlindMint") (T := bt_B) (N := 12) hx hb hts bu_B hown hK hM h0 rfl 4 (by decide) (hts _ bw_113) (fun _ h9 => h9) rfl dB_makeCoin_12 ?_
  refine bm_callU (va_runV (As := [.ref (x + 12)]) (rest := []) ⟨hx, hb, hml, hown, hts⟩ (bc_Q_readPairHashes l D ct base ad M sz (x + 2) (x + 12) o fo so cf pt h vA vC vE vB vX vY vP h2 h3 h1 (by omega) hpt ho hcM) (cwV 1 hts (bm_goodV bw_361 bw_362 bw_363 bw_2 bw_364) rfl rfl rfl (by decide +kernel) (by rw [← hR]; exact ⟨Nat.le_of_ble_eq_true rfl, Nat.le_of_ble_eq_true rfl⟩)) (bm_preV hM hG hS hz h2 rfl) rfl rfl hl.1 rfl (lv_room (Nat.le_of_ble_eq_true rfl)) dB_makeCoin_15 (by rw [← hR]; exact ⟨Nat.le_of_ble_eq_true rfl, Nat.le_of_ble_eq_true rfl⟩)) hS (fun H locs hz hM hS => ?_)
  obtain ⟨M1, eM1⟩ : ∃ X, X = bm_up M (x + 12) (.inl (ct 1, 4, .inr (.inl (vp_updL (vp_updL (vp_updL (vp_updL (h) 0 (vP (o 0))) 1 (vP (o 1))) 2 (vP (o 2))) 3 (vP (o 3)))))) := ⟨_, rfl⟩
  replace hM : bm_M D base M1 H := by rw [eM1]; exact hM
  replace h0 : M1 x = some (.inr (6, [.ref (x + 1), .ref (x + 2), .ref (x + 11), .int pc, .ref (x + 12), lc, .int lt, .long lb, .int wc, .int dc, .int fc, .int rc])) := by rw [eM1, bm_up_ne (by omega)]; exact h0
  replace h2 : M1 (x + 2) = some (.inr (5, [.ref (x + 3), .ref (x + 4), .int fo, .int so])) := by rw [eM1, bm_up_ne (by omega)]; exact h2
  replace h3 : M1 (x + 4) = some (.inl (ct 5, 4, .inr (.inr (.inr (.inr pt))))) := by rw [eM1, bm_up_ne (by omega)]; exact h3
  replace h1 : M1 (x + 12) = some (.inl (ct 1, 4, .inr (.inl (vp_updL (vp_updL (vp_updL (vp_updL (h) 0 (vP (o 0))) 1 (vP (o 1))) 2 (vP (o 2))) 3 (vP (o 3)))))) := by rw [eM1]; exact bm_up_self _ _ _
  replace hF : ∀ b, b ≠ x → b ≠ x + 12 → b < sz → M1 b = M b := fun b q1 q2 q3 => by rw [eM1]; exact (bm_up_ne (by omega)).trans (hF b q1 q2 q3)
  replace hcM : ∀ j, j < 6 → M1 (x + 2 + (3 + j)) = some (.inr (1, [.long (vA j), .long (vC j), .long (vE j), .long (vB j), .long (vX j), .long (vY j), .long (vP j)])) := fun j hj => by rw [eM1, bm_up_ne (by omega)]; exact hcM j hj
  clear eM1
  refine lv_iload_n hx hb dB_makeCoin_18 rfl (lv_at hl 2 rfl) ?_
  refine lv_i2l (v := lN d) hx hb dB_makeCoin_19 (nI_l (by omega)) ?_
  refine lv_aload_n hx hb dB_makeCoin_20 rfl (lv_at hl 1 rfl) ?_
  refine bm_get (ci := 6) (v := .ref (x + 12)) (C := "BlindMint") (T := bt_B) (N := 12) hx hb hts bu_B hown hK hM h0 rfl 4 (by decide) (hts _ bw_113) (fun _ h9 => h9) rfl dB_makeCoin_21 ?_
  refine bm_callE (va_runS (As := [.long (lN d), .ref (x + 12)]) (rest := []) ⟨hx, hb, hml, hown, hts⟩ (bc_H_ofCoin l D ct base ad M1 sz (lN d) (x + 12) (vp_updL (vp_updL (vp_updL (vp_updL (h) 0 (vP (o 0))) 1 (vP (o 1))) 2 (vP (o 2))) 3 (vP (o 3))) h1) (va_cwS 2 hts (bm_goodS bw_197 bw_198 bw_11 bw_199) rfl rfl rfl (by decide +kernel) (by rw [← hR]; exact ⟨Nat.le_of_ble_eq_true rfl, Nat.le_of_ble_eq_true rfl⟩)) (bm_preS hM hG hS hz) rfl rfl hl.1 rfl (lv_room (Nat.le_of_ble_eq_true rfl)) dB_makeCoin_24 (by rw [← hR]; exact ⟨Nat.le_of_ble_eq_true rfl, Nat.le_of_ble_eq_true rfl⟩)) hS (fun H locs hz hM hS => ?_)
  refine lv_topl (fun t2 e_t2 => ?_)
  have e_t2 : t2 = lN k := by rw [e_t2]; exact (bm_hc4 (p := fun i => vP (o i))).trans hnum
  subst e_t2
  refine lv_lstore hx hb dB_makeCoin_27 hl (by decide) rfl (fun ls hl => ?_)
  have hl : lv_has ls 11 [(5, .long (lN k)), (4, .ref (ad d)), (0, .ref x), (1, .int (nI d)), (2, .long seed)] := hl
  refine lv_aload hx hb dB_makeCoin_29 (lv_at hl 1 rfl) ?_
  refine lv_lload_n hx hb dB_makeCoin_31 rfl (lv_at hl 4 rfl) ?_
  refine lv_ldc2 hx hb hown (hts _ bw_365) dB_makeCoin_32 ?_
  refine bm_callE (va_runS (As := [.long seed, .long 100]) (rest := [.ref (ad d)]) ⟨hx, hb, hml, hown, hts⟩ (bc_H_of l D ct base ad M1 sz seed 100) (va_cwS 2 hts (bm_goodS bw_366 bw_189 bw_11 bw_190) rfl rfl rfl (by decide +kernel) (by rw [← hR]; exact ⟨Nat.le_of_ble_eq_true rfl, Nat.le_of_ble_eq_true rfl⟩)) (bm_preS hM hG hS hz) rfl rfl hl.1 rfl (lv_room (Nat.le_of_ble_eq_true rfl)) dB_makeCoin_35 (by rw [← hR]; exact ⟨Nat.le_of_ble_eq_true rfl, Nat.le_of_ble_eq_true rfl⟩)) hS (fun H locs hz hM hS => ?_)
  refine lv_topl (fun t3 e_t3 => ?_)
  have e_t3 : t3 = lN r := by rw [e_t3]; exact hsd
  subst e_t3
  refine bm_callE (bm_runVG (C := "BlindMint$Denomination") (n := 1) (As := [.long (lN r)]) (rest := []) ⟨hx, hb, hml, hown, hts⟩ (bc_D_blindingFactor l D ct base ad M1 sz d r hd (by omega)) bm_Post.ret bw_367 bw_368 bw_369 bw_370 rfl rfl (by decide +kernel) (by rw [← hR]; exact ⟨Nat.le_of_ble_eq_true rfl, Nat.le_of_ble_eq_true rfl⟩) (bm_preE hM hG hS hz hd) rfl rfl hl.1 rfl (lv_room (Nat.le_of_ble_eq_true rfl)) dB_makeCoin_38 (by rw [← hR]; exact ⟨Nat.le_of_ble_eq_true rfl, Nat.le_of_ble_eq_true rfl⟩)) hS (fun H locs hz hM hS => ?_)
  refine lv_lstore hx hb dB_makeCoin_41 hl (by decide) rfl (fun ls hl => ?_)
  have hl : lv_has ls 11 [(7, .long (lN (bm_bf d r))), (5, .long (lN k)), (4, .ref (ad d)), (0, .ref x), (1, .int (nI d)), (2, .long seed)] := hl
  refine lv_aload_n hx hb dB_makeCoin_43 rfl (lv_at hl 3 rfl) ?_
  refine lv_aload hx hb dB_makeCoin_44 (lv_at hl 2 rfl) ?_
  refine lv_lload hx hb dB_makeCoin_46 (lv_at hl 1 rfl) ?_
  refine lv_lload hx hb dB_makeCoin_48 (lv_at hl 0 rfl) ?_
  refine bm_callE (bm_runVG (C := "BlindMint$Denomination") (n := 2) (As := [.long (lN k), .long (lN (bm_bf d r))]) (rest := [.ref x]) ⟨hx, hb, hml, hown, hts⟩ (bc_D_blind l D ct base ad M1 sz d k (bm_bf d r) hd (by omega) hbf) bm_Post.ret bw_371 bw_372 bw_373 bw_374 rfl rfl (by decide +kernel) (by rw [← hR]; exact ⟨Nat.le_of_ble_eq_true rfl, Nat.le_of_ble_eq_true rfl⟩) (bm_preE hM hG hS hz hd) rfl rfl hl.1 rfl (lv_room (Nat.le_of_ble_eq_true rfl)) dB_makeCoin_50 (by rw [← hR]; exact ⟨Nat.le_of_ble_eq_true rfl, Nat.le_of_ble_eq_true rfl⟩)) hS (fun H locs hz hM hS => ?_)
  refine bm_put (ci := 6) (v := .long (lN (bm_bn d k (bm_bf d r)))) (ty := .long) (C := "BlindMint") (T := bt_B) (N := 12) hx hb hts bu_B by_B bo_B bn_B hown hK hM hS h0 rfl 7 (by decide) (hts _ bw_116) (fun _ h9 => h9) rfl (by decide +kernel) rfl rfl (Nat.le_of_ble_eq_true rfl) dB_makeCoin_53 (fun H locs hz1 hM hS => ?_)
  replace hz := hz1.trans hz
  replace hM : bm_M D base (bm_up M1 x (.inr (6, [.ref (x + 1), .ref (x + 2), .ref (x + 11), .int pc, .ref (x + 12), lc, .int lt, .long (lN (bm_bn d k (bm_bf d r))), .int wc, .int dc, .int fc, .int rc]))) H := hM
  obtain ⟨M4, eM4⟩ : ∃ X, X = bm_up M1 x (.inr (6, [.ref (x + 1), .ref (x + 2), .ref (x + 11), .int pc, .ref (x + 12), lc, .int lt, .long (lN (bm_bn d k (bm_bf d r))), .int wc, .int dc, .int fc, .int rc])) := ⟨_, rfl⟩
  rw [← eM4] at hM
  replace h1 : M4 (x + 12) = some (.inl (ct 1, 4, .inr (.inl (vp_updL (vp_updL (vp_updL (vp_updL (h) 0 (vP (o 0))) 1 (vP (o 1))) 2 (vP (o 2))) 3 (vP (o 3)))))) := by rw [eM4, bm_up_ne (by omega)]; exact h1
  replace h2 : M4 (x + 2) = some (.inr (5, [.ref (x + 3), .ref (x + 4), .int fo, .int so])) := by rw [eM4, bm_up_ne (by omega)]; exact h2
  replace h3 : M4 (x + 4) = some (.inl (ct 5, 4, .inr (.inr (.inr (.inr pt))))) := by rw [eM4, bm_up_ne (by omega)]; exact h3
  replace h0 : M4 x = some (.inr (6, [.ref (x + 1), .ref (x + 2), .ref (x + 11), .int pc, .ref (x + 12), lc, .int lt, .long (lN (bm_bn d k (bm_bf d r))), .int wc, .int dc, .int fc, .int rc])) := by rw [eM4]; exact bm_up_self _ _ _
  replace hF : ∀ b, b ≠ x → b ≠ x + 12 → b < sz → M4 b = M b := fun b q1 q2 q3 => by rw [eM4]; exact (bm_up_ne (by omega)).trans (hF b q1 q2 q3)
  replace hcM : ∀ j, j < 6 → M4 (x + 2 + (3 + j)) = some (.inr (1, [.long (vA j), .long (vC j), .long (vE j), .long (vB j), .long (vX j), .long (vY j), .long (vP j)])) := fun j hj => by rw [eM4, bm_up_ne (by omega)]; exact hcM j hj
  clear eM4
  refine lv_aload hx hb dB_makeCoin_56 (lv_at hl 2 rfl) ?_
  refine lv_aload_n hx hb dB_makeCoin_58 rfl (lv_at hl 3 rfl) ?_
  refine bm_get (ci := 6) (v := .long (lN (bm_bn d k (bm_bf d r)))) (C := "BlindMint") (T := bt_B) (N := 12) hx hb hts bu_B hown hK hM h0 rfl 7 (by decide) (hts _ bw_116) (fun _ h9 => h9) rfl dB_makeCoin_59 ?_
  refine bm_callE (bm_runVG (C := "BlindMint$Denomination") (n := 1) (As := [.long (lN (bm_bn d k (bm_bf d r)))]) (rest := []) ⟨hx, hb, hml, hown, hts⟩ (bc_D_sign l D ct base ad M4 sz d (bm_bn d k (bm_bf d r)) hd (bm_bn_lt _ _ _)) bm_Post.ret bw_392 bw_393 bw_394 bw_395 rfl rfl (by decide +kernel) (by rw [← hR]; exact ⟨Nat.le_of_ble_eq_true rfl, Nat.le_of_ble_eq_true rfl⟩) (bm_preE hM hG hS hz hd) rfl rfl hl.1 rfl (lv_room (Nat.le_of_ble_eq_true rfl)) dB_makeCoin_62 (by rw [← hR]; exact ⟨Nat.le_of_ble_eq_true rfl, Nat.le_of_ble_eq_true rfl⟩)) hS (fun H locs hz hM hS => ?_)
  refine lv_lstore hx hb dB_makeCoin_65 hl (by decide) rfl (fun ls hl => ?_)
  have hl : lv_has ls 11 [(9, .long (lN (bm_sg d (bm_bn d k (bm_bf d r))))), (7, .long (lN (bm_bf d r))), (5, .long (lN k)), (4, .ref (ad d)), (0, .ref x), (1, .int (nI d)), (2, .long seed)] := hl
  refine bm_newz (ci := 2) (fs := [.int 0, .long 0, .long 0, .int 0, .null, .null]) (C := "BlindMint$Coin") (T := bt_O) (N := 6) hz hx hb hts bu_O by_O bo_O hown (hts _ bw_402) (hts _ bw_403) (hts _ bw_14) hK hM hS (Nat.le_trans hG.2.1 hS.1) rfl (fun j hj => by rcases (show j = 0 ∨ j = 1 ∨ j = 2 ∨ j = 3 ∨ j = 4 ∨ j = 5 by omega) with rfl | rfl | rfl | rfl | rfl | rfl <;> rfl) (by rw [← hR]; exact Nat.le_of_ble_eq_true rfl) (by rw [← hR]; exact Nat.le_of_ble_eq_true rfl) dB_makeCoin_67 (fun H hz1 hM hS => ?_)
  replace hz : H.size = sz + 1 := hz1
  obtain ⟨M5, eM5⟩ : ∃ X, X = bm_up M4 sz (.inr (2, [.int 0, .long 0, .long 0, .int 0, .null, .null])) := ⟨_, rfl⟩
  replace hM : bm_M D base M5 H := by rw [eM5]; exact hM
  replace h0 : M5 x = some (.inr (6, [.ref (x + 1), .ref (x + 2), .ref (x + 11), .int pc, .ref (x + 12), lc, .int lt, .long (lN (bm_bn d k (bm_bf d r))), .int wc, .int dc, .int fc, .int rc])) := by rw [eM5, bm_up_ne (by omega)]; exact h0
  replace h1 : M5 (x + 12) = some (.inl (ct 1, 4, .inr (.inl (vp_updL (vp_updL (vp_updL (vp_updL (h) 0 (vP (o 0))) 1 (vP (o 1))) 2 (vP (o 2))) 3 (vP (o 3)))))) := by rw [eM5, bm_up_ne (by omega)]; exact h1
  replace h2 : M5 (x + 2) = some (.inr (5, [.ref (x + 3), .ref (x + 4), .int fo, .int so])) := by rw [eM5, bm_up_ne (by omega)]; exact h2
  replace h3 : M5 (x + 4) = some (.inl (ct 5, 4, .inr (.inr (.inr (.inr pt))))) := by rw [eM5, bm_up_ne (by omega)]; exact h3
  have hc6 : M5 sz = some (.inr (2, [.int 0, .long 0, .long 0, .int 0, .null, .null])) := by rw [eM5]; exact bm_up_self _ _ _
  replace hF : ∀ b, b ≠ x → b ≠ x + 12 → b < sz → M5 b = M b := fun b q1 q2 q3 => by rw [eM5]; exact (bm_up_ne (by omega)).trans (hF b q1 q2 q3)
  replace hcM : ∀ j, j < 6 → M5 (x + 2 + (3 + j)) = some (.inr (1, [.long (vA j), .long (vC j), .long (vE j), .long (vB j), .long (vX j), .long (vY j), .long (vP j)])) := fun j hj => by rw [eM5, bm_up_ne (by omega)]; exact hcM j hj
  clear eM5 hz1
  refine lv_dup hx hb dB_makeCoin_70 rfl ?_
  refine lv_iload_n hx hb dB_makeCoin_71 rfl (lv_at hl 5 rfl) ?_
  refine lv_lload hx hb dB_makeCoin_72 (lv_at hl 2 rfl) ?_
  refine lv_aload hx hb dB_makeCoin_74 (lv_at hl 3 rfl) ?_
  refine lv_lload hx hb dB_makeCoin_76 (lv_at hl 0 rfl) ?_
  refine lv_lload hx hb dB_makeCoin_78 (lv_at hl 1 rfl) ?_
  refine bm_callE (bm_runVG (C := "BlindMint$Denomination") (n := 2) (As := [.long (lN (bm_sg d (bm_bn d k (bm_bf d r)))), .long (lN (bm_bf d r))]) (rest := [.long (lN k), .int (nI d), .ref sz, .ref sz]) ⟨hx, hb, hml, hown, hts⟩ (bc_D_unblind l D ct base ad M5 (sz + 1) d (bm_sg d (bm_bn d k (bm_bf d r))) (bm_bf d r) hd (bm_sg_lt _ _) hbf) bm_Post.ret bw_404 bw_405 bw_406 bw_407 rfl rfl (by decide +kernel) (by rw [← hR]; exact ⟨Nat.le_of_ble_eq_true rfl, Nat.le_of_ble_eq_true rfl⟩) (bm_preE hM hG hS hz hd) rfl rfl hl.1 rfl (lv_room (Nat.le_of_ble_eq_true rfl)) dB_makeCoin_80 (by rw [← hR]; exact ⟨Nat.le_of_ble_eq_true rfl, Nat.le_of_ble_eq_true rfl⟩)) hS (fun H locs hz hM hS => ?_)
  refine lv_topl (fun t7 e_t7 => ?_)
  have e_t7 : t7 = lN (bm_sg d k) := by rw [e_t7]; exact congrArg lN (bm_sg_ok (bm_bf_ok d r).1 (bm_bf_ok d r).2.1)
  subst e_t7
  refine lv_aload_n hx hb dB_makeCoin_83 rfl (lv_at hl 4 rfl) ?_
  refine bm_get (ci := 6) (v := .ref (x + 2)) (C := "BlindMint") (T := bt_B) (N := 12) hx hb hts bu_B hown hK hM h0 rfl 1 (by decide) (hts _ bw_110) (fun _ h9 => h9) rfl dB_makeCoin_84 ?_
  refine bm_get (ci := 5) (v := .ref (x + 4)) (C := "BlindMint$Proposal") (T := bt_Q) (N := 4) hx hb hts bu_Q hown hK hM h2 rfl 1 (by decide) (hts _ bw_73) (fun _ h9 => h9) rfl dB_makeCoin_87 ?_
  refine bm_call (va_runI (b := sz) (As := [.int (nI d), .long (lN k), .long (lN (bm_sg d k)), .ref (x + 4)]) (rest := [.ref sz]) ⟨hx, hb, hml, hown, hts⟩ (bc_O_init l D ct base ad M5 (sz + 1) sz (x + 4) (nI d) (lN k) (lN (bm_sg d k)) pt (fun i => x + 2 + (3 + o i)) (fun i => vA (o i)) (fun i => vC (o i)) (fun i => vE (o i)) (fun i => vB (o i)) (fun i => vX (o i)) (fun i => vY (o i)) (fun i => vP (o i)) hc6 h3 (hcM (o 0) (ho 0 (by decide))) (hcM (o 1) (ho 1 (by decide))) (hcM (o 2) (ho 2 (by decide))) (hcM (o 3) (ho 3 (by decide))) hpt) (cwI 4 hts (bm_goodW bw_410) rfl rfl rfl (hts _ bw_14) (hts _ bw_408) (hts _ bw_409) rfl (by decide +kernel) (by rw [← hR]; exact ⟨Nat.le_of_ble_eq_true rfl, Nat.le_of_ble_eq_true rfl⟩)) (bm_preS hM hG hS hz) rfl rfl hl.1 rfl (lv_room (Nat.le_of_ble_eq_true rfl)) dB_makeCoin_90 (by rw [← hR]; exact ⟨Nat.le_of_ble_eq_true rfl, Nat.le_of_ble_eq_true rfl⟩)) hS (fun v9 M8 H locs hq hM hS _ => ?_)
  obtain ⟨rfl, hz, fa, ft1, ft0, hfr⟩ := hq
  replace hF : ∀ b, b ≠ x → b ≠ x + 12 → b < sz → M8 b = M b := fun b q1 q2 q3 => (hfr b (by omega) (by omega)).trans (hF b q1 q2 q3)
  have fx : M8 (x) = some (.inr (6, [.ref (x + 1), .ref (x + 2), .ref (x + 11), .int pc, .ref (x + 12), lc, .int lt, .long (lN (bm_bn d k (bm_bf d r))), .int wc, .int dc, .int fc, .int rc])) := by rw [hfr (x) (by omega) (by omega)]; exact h0
  have fh : M8 (x + 12) = some (.inl (ct 1, 4, .inr (.inl (vp_updL (vp_updL (vp_updL (vp_updL (h) 0 (vP (o 0))) 1 (vP (o 1))) 2 (vP (o 2))) 3 (vP (o 3)))))) := by rw [hfr (x + 12) (by omega) (by omega)]; exact h1
  exact bm_aret hQ hx hb hr hlk (Or.inl ⟨_, rfl⟩) (Or.inr ⟨_, rfl⟩) hM hS ⟨rfl, hz, fa, ft1, ft0, fx, fh, hF⟩ (Nat.le_of_ble_eq_true rfl) (Nat.le_of_ble_eq_true rfl) dB_makeCoin_93
