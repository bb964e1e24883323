set_option maxHeartbeats 4000000 in
set_option maxRecDepth 100000 in
theorem bc_B_count_0 (l : Launch) (D : va_G) (ct : Nat → ClassId) (base : Nat) (ad : Nat → Nat) (M : bm_Map) (sz : Nat) (x : Nat) (pc lt wc dc fc rc : Int32) (lb : Int64) (lc : Value) (h0 : M x = some (.inr (6, [.ref (x + 1), .ref (x + 2), .ref (x + 11), .int pc, .ref (x + 12), lc, .int lt, .long lb, .int wc, .int dc, .int fc, .int rc]))) : Met l yB_count (bm_ws yB_count cB_count 2 (some .int)) { frames := 0, cells := 0, slots := 0, locals := 0 } (bm_Pre D ct base ad M sz [.ref x, .int 0]) (bm_Post D base (bm_Is (some (.int wc)) M sz)) 0 0 (bm_A base) := by
  refine bm_ofB (cc := cB_count) (maxL := 2) (ret := (some .int)) (by decide +kernel) (Nat.le_of_ble_eq_true rfl) ?_
  intro vp ve s vm args below meth vc hx hb hr hlk hts hown hml hnm ls hl hz hM hG R Q hR hQ
  have hown : s.vm.findClass "BlindMint" = some vm.cls := hown
  have hK := hG.K
  have hS : va_S (bm_A base) s.heap s.heap [] := va_S.rf
  have hl : lv_has ls 2 [(0, .ref x), (1, .int 0)] := hl
  refine lv_iload_n hx hb dB_count_0 rfl (lv_at hl 1 rfl) ?_
  refine lv_tableIn (off := 31) (tgt := 32) hx hb dB_count_1 (by decide) (by decide) (by decide) (by decide) ?_
  refine lv_aload_n hx hb dB_count_32 rfl (lv_at hl 0 rfl) ?_
  refine bm_get (ci := 6) (v := .int wc) (C := "BlindMint") (T := bt_B) (N := 12) hx hb hts bu_B hown hK hM h0 rfl 8 (by decide) (hts _ bw_117) (fun _ h9 => h9) rfl dB_count_33 ?_
  exact bm_iret hQ hx hb hr hlk hM hS ⟨rfl, rfl, hz⟩ (Nat.le_refl _) (Nat.le_refl _) dB_count_36
set_option maxHeartbeats 4000000 in
set_option maxRecDepth 100000 in
theorem bc_B_count_1 (l : Launch) (D : va_G) (ct : Nat → ClassId) (base : Nat) (ad : Nat → Nat) (M : bm_Map) (sz : Nat) (x : Nat) (pc lt wc dc fc rc : Int32) (lb : Int64) (lc : Value) (h0 : M x = some (.inr (6, [.ref (x + 1), .ref (x + 2), .ref (x + 11), .int pc, .ref (x + 12), lc, .int lt, .long lb, .int wc, .int dc, .int fc, .int rc]))) : Met l yB_count (bm_ws yB_count cB_count 2 (some .int)) { frames := 0, cells := 0, slots := 0, locals := 0 } (bm_Pre D ct base ad M sz [.ref x, .int 1]) (bm_Post D base (bm_Is (some (.int dc)) M sz)) 0 0 (bm_A base) := by
  refine bm_ofB (cc := cB_count) (maxL := 2) (ret := (some .int)) (by decide +kernel) (Nat.le_of_ble_eq_true rfl) ?_
  intro vp ve s vm args below meth vc hx hb hr hlk hts hown hml hnm ls hl hz hM hG R Q hR hQ
  have hown : s.vm.findClass "BlindMint" = some vm.cls := hown
  have hK := hG.K
  have hS : va_S (bm_A base) s.heap s.heap [] := va_S.rf
  have hl : lv_has ls 2 [(0, .ref x), (1, .int 1)] := hl
  refine lv_iload_n hx hb dB_count_0 rfl (lv_at hl 1 rfl) ?_
  refine lv_tableIn (off := 36) (tgt := 37) hx hb dB_count_1 (by decide) (by decide) (by decide) (by decide) ?_
  refine lv_aload_n hx hb dB_count_37 rfl (lv_at hl 0 rfl) ?_
  refine bm_get (ci := 6) (v := .int dc) (C := "BlindMint") (T := bt_B) (N := 12) hx hb hts bu_B hown hK hM h0 rfl 9 (by decide) (hts _ bw_118) (fun _ h9 => h9) rfl dB_count_38 ?_
  exact bm_iret hQ hx hb hr hlk hM hS ⟨rfl, rfl, hz⟩ (Nat.le_refl _) (Nat.le_refl _) dB_count_41
set_option maxHeartbeats 4000000 in
set_option maxRecDepth 100000 in
theorem bc_B_count_2 (l : Launch) (D : va_G) (ct : Nat → ClassId) (base : Nat) (ad : Nat → Nat) (M : bm_Map) (sz : Nat) (x : Nat) (pc lt wc dc fc rc : Int32) (lb : Int64) (lc : Value) (h0 : M x = some (.inr (6, [.ref (x + 1), .ref (x + 2), .ref (x + 11), .int pc, .ref (x + 12), lc, .int lt, .long lb, .int wc, .int dc, .int fc, .int rc]))) : Met l yB_count (bm_ws yB_count cB_count 2 (some .int)) { frames := 0, cells := 0, slots := 0, locals := 0 } (bm_Pre D ct base ad M sz [.ref x, .int 2]) (bm_Post D base (bm_Is (some (.int fc)) M sz)) 0 0 (bm_A base) := by
  refine bm_ofB (cc := cB_count) (maxL := 2) (ret := (some .int)) (by decide +kernel) (Nat.le_of_ble_eq_true rfl) ?_
  intro vp ve s vm args below meth vc hx hb hr hlk hts hown hml hnm ls hl hz hM hG R Q hR hQ
  have hown : s.vm.findClass "BlindMint" = some vm.cls := hown
  have hK := hG.K
  have hS : va_S (bm_A base) s.heap s.heap [] := va_S.rf
  have hl : lv_has ls 2 [(0, .ref x), (1, .int 2)] := hl
  refine lv_iload_n hx hb dB_count_0 rfl (lv_at hl 1 rfl) ?_
  refine lv_tableIn (off := 41) (tgt := 42) hx hb dB_count_1 (by decide) (by decide) (by decide) (by decide) ?_
  refine lv_aload_n hx hb dB_count_42 rfl (lv_at hl 0 rfl) ?_
  refine bm_get (ci := 6) (v := .int fc) (C := "BlindMint") (T := bt_B) (N := 12) hx hb hts bu_B hown hK hM h0 rfl 10 (by decide) (hts _ bw_119) (fun _ h9 => h9) rfl dB_count_43 ?_
  exact bm_iret hQ hx hb hr hlk hM hS ⟨rfl, rfl, hz⟩ (Nat.le_refl _) (Nat.le_refl _) dB_count_46
set_option maxHeartbeats 4000000 in
set_option maxRecDepth 100000 in
theorem bc_B_count_3 (l : Launch) (D : va_G) (ct : Nat → ClassId) (base : Nat) (ad : Nat → Nat) (M : bm_Map) (sz : Nat) (x : Nat) (pc lt wc dc fc rc : Int32) (lb : Int64) (lc : Value) (h0 : M x = some (.inr (6, [.ref (x + 1), .ref (x + 2), .ref (x + 11), .int pc, .ref (x + 12), lc, .int lt, .long lb, .int wc, .int dc, .int fc, .int rc]))) : Met l yB_count (bm_ws yB_count cB_count 2 (some .int)) { frames := 0, cells := 0, slots := 0, locals := 0 } (bm_Pre D ct base ad M sz [.ref x, .int 3]) (bm_Post D base (bm_Is (some (.int rc)) M sz)) 0 0 (bm_A base) := by
  refine bm_ofB (cc := cB_count) (maxL := 2) (ret := (some .int)) (by decide +kernel) (Nat.le_of_ble_eq_true rfl) ?_
  intro vp ve s vm args below meth vc hx hb hr hlk hts hown hml hnm ls hl hz hM hG R Q hR hQ
  have hown : s.vm.findClass "BlindMint" = some vm.cls := hown
  have hK := hG.K
  have hS : va_S (bm_A base) s.heap s.heap [] := va_S.rf
  have hl : lv_has ls 2 [(0, .ref x), (1, .int 3)] := hl
  refine lv_iload_n hx hb dB_count_0 rfl (lv_at hl 1 rfl) ?_
  refine lv_tableIn (off := 46) (tgt := 47) hx hb dB_count_1 (by decide) (by decide) (by decide) (by decide) ?_
  refine lv_aload_n hx hb dB_count_47 rfl (lv_at hl 0 rfl) ?_
  refine bm_get (ci := 6) (v := .int rc) (C := "BlindMint") (T := bt_B) (N := 12) hx hb hts bu_B hown hK hM h0 rfl 11 (by decide) (hts _ bw_120) (fun _ h9 => h9) rfl dB_count_48 ?_
  exact bm_iret hQ hx hb hr hlk hM hS ⟨rfl, rfl, hz⟩ (Nat.le_refl _) (Nat.le_refl _) dB_count_51
set_option maxHeartbeats 4000000 in
set_option maxRecDepth 100000 in
theorem bc_B_count_n (l : Launch) (D : va_G) (ct : Nat → ClassId) (base : Nat) (ad : Nat → Nat) (M : bm_Map) (sz : Nat) (x : Nat) (pc lt wc dc fc rc : Int32) (lb : Int64) (lc : Value) (v : Int32) (h0 : M x = some (.inr (6, [.ref (x + 1), .ref (x + 2), .ref (x + 11), .int pc, .ref (x + 12), lc, .int lt, .long lb, .int wc, .int dc, .int fc, .int rc]))) (hv : bm_bl v 4 = 0) : Met l yB_count (bm_ws yB_count cB_count 2 (some .int)) { frames := 0, cells := 0, slots := 0, locals := 0 } (bm_Pre D ct base ad M sz [.ref x, .int v]) (bm_Post D base (bm_Is (some (.int (-1))) M sz)) 0 0 (bm_A base) := by
  refine bm_ofB (cc := cB_count) (maxL := 2) (ret := (some .int)) (by decide +kernel) (Nat.le_of_ble_eq_true rfl) ?_
  intro vp ve s vm args below meth vc hx hb hr hlk hts hown hml hnm ls hl hz hM hG R Q hR hQ
  have hown : s.vm.findClass "BlindMint" = some vm.cls := hown
  have hK := hG.K
  have hS : va_S (bm_A base) s.heap s.heap [] := va_S.rf
  have hl : lv_has ls 2 [(0, .ref x), (1, .int v)] := hl
  refine lv_iload_n hx hb dB_count_0 rfl (lv_at hl 1 rfl) ?_
  refine lv_tableOut (tgt := 52) hx hb dB_count_1 (bm_bl_out hv) (by decide) ?_
  refine lv_iconst (v := (-1)) hx hb dB_count_52 (by decide) ?_
  exact bm_iret hQ hx hb hr hlk hM hS ⟨rfl, rfl, hz⟩ (Nat.le_refl _) (Nat.le_refl _) dB_count_53
set_option maxHeartbeats 4000000 in
set_option maxRecDepth 100000 in
theorem bc_B_coins_n (l : Launch) (D : va_G) (ct : Nat → ClassId) (base : Nat) (ad : Nat → Nat) (M : bm_Map) (sz : Nat) (x : Nat) (pc lt wc dc fc rc : Int32) (lb : Int64) (lc : Value) (v : Int32) (h0 : M x = some (.inr (6, [.ref (x + 1), .ref (x + 2), .ref (x + 11), .int pc, .ref (x + 12), lc, .int lt, .long lb, .int wc, .int dc, .int fc, .int rc]))) (hv : bm_bl v 4 = 0) : Met l yB_coins (bm_ws yB_coins cB_coins 2 (some .int)) { frames := 1, cells := 0, slots := 0, locals := 20 } (bm_Pre D ct base ad M sz [.ref x, .int v]) (bm_Post D base (bm_Is (some (.int (-1))) M sz)) 0 0 (bm_A base) := by
  refine bm_ofB (cc := cB_coins) (maxL := 2) (ret := (some .int)) (by decide +kernel) (Nat.le_of_ble_eq_true rfl) ?_
  intro vp ve s vm args below meth vc hx hb hr hlk hts hown hml hnm ls hl hz hM hG R Q hR hQ
  have hown : s.vm.findClass "BlindMint" = some vm.cls := hown
  have hK := hG.K
  have hS : va_S (bm_A base) s.heap s.heap [] := va_S.rf
  have hl : lv_has ls 2 [(0, .ref x), (1, .int v)] := hl
  refine lv_iload_n hx hb dB_coins_0 rfl (lv_at hl 1 rfl) ?_
  refine bm_callE (va_runS (As := [.int v]) (rest := []) ⟨hx, hb, hml, hown, hts⟩ (bc_B_isAccount l D ct base ad M sz v) (va_cwS 1 hts (bm_goodS bw_221 bw_222 bw_1 bw_223) rfl rfl rfl (by decide +kernel) (by rw [← hR]; exact ⟨Nat.le_of_ble_eq_true rfl, Nat.le_of_ble_eq_true rfl⟩)) (bm_preS hM hG hS hz) rfl rfl hl.1 rfl (lv_room (Nat.le_of_ble_eq_true rfl)) dB_coins_1 (by rw [← hR]; exact ⟨Nat.le_of_ble_eq_true rfl, Nat.le_of_ble_eq_true rfl⟩)) hS (fun H locs hz hM hS => ?_)
  refine lv_if_eq (tgt := 19) hx hb dB_coins_4 rfl (fun h4 => ?_) (fun h4 => absurd hv h4)
  refine lv_iconst (v := (-1)) hx hb dB_coins_19 (by decide) ?_
  exact bm_iret hQ hx hb hr hlk hM hS ⟨rfl, rfl, hz⟩ (Nat.le_refl _) (Nat.le_refl _) dB_coins_20
set_option maxHeartbeats 4000000 in
set_option maxRecDepth 100000 in
theorem bc_B_coins_ok (l : Launch) (D : va_G) (ct : Nat → ClassId) (base : Nat) (ad : Nat → Nat) (M : bm_Map) (sz : Nat) (x : Nat) (pc lt wc dc fc rc : Int32) (lb : Int64) (lc : Value) (j : Nat) (bal cc : Int32) (ac : Nat → Option Nat) (h0 : M x = some (.inr (6, [.ref (x + 1), .ref (x + 2), .ref (x + 11), .int pc, .ref (x + 12), lc, .int lt, .long lb, .int wc, .int dc, .int fc, .int rc]))) (g1 : M (x + 1) = some (.inl (ct 3, 4, .inr (.inr (.inr (.inr ac)))))) (g2 : M (x + (13 + 2 * j)) = some (.inr (0, [.int bal, .ref (x + (14 + 2 * j)), .int cc]))) (hac : ∀ a, a < 4 → ac a = some (x + (13 + 2 * a))) (hj : j < 4) : Met l yB_coins (bm_ws yB_coins cB_coins 2 (some .int)) { frames := 1, cells := 0, slots := 0, locals := 20 } (bm_Pre D ct base ad M sz [.ref x, .int (nI j)]) (bm_Post D base (bm_Is (some (.int cc)) M sz)) 0 0 (bm_A base) := by
  refine bm_ofB (cc := cB_coins) (maxL := 2) (ret := (some .int)) (by decide +kernel) (Nat.le_of_ble_eq_true rfl) ?_
  intro vp ve s vm args below meth vc hx hb hr hlk hts hown hml hnm ls hl hz hM hG R Q hR hQ
  have hown : s.vm.findClass "BlindMint" = some vm.cls := hown
  have hK := hG.K
  have hS : va_S (bm_A base) s.heap s.heap [] := va_S.rf
  have hl : lv_has ls 2 [(0, .ref x), (1, .int (nI j))] := hl
  refine lv_iload_n hx hb dB_coins_0 rfl (lv_at hl 1 rfl) ?_
  refine bm_callE (va_runS (As := [.int (nI j)]) (rest := []) ⟨hx, hb, hml, hown, hts⟩ (bc_B_isAccount l D ct base ad M sz (nI j)) (va_cwS 1 hts (bm_goodS bw_221 bw_222 bw_1 bw_223) rfl rfl rfl (by decide +kernel) (by rw [← hR]; exact ⟨Nat.le_of_ble_eq_true rfl, Nat.le_of_ble_eq_true rfl⟩)) (bm_preS hM hG hS hz) rfl rfl hl.1 rfl (lv_room (Nat.le_of_ble_eq_true rfl)) dB_coins_1 (by rw [← hR]; exact ⟨Nat.le_of_ble_eq_true rfl, Nat.le_of_ble_eq_true rfl⟩)) hS (fun H locs hz hM hS => ?_)
  refine lv_if_eq (tgt := 19) hx hb dB_coins_4 rfl (fun h4 => absurd h4 (by rw [show bm_bl (nI j) 4 = 1 from (bm_bl_nI (N := 4) hj (by decide))]; decide)) (fun h4 => ?_)
  refine lv_aload_n hx hb dB_coins_7 rfl (lv_at hl 0 rfl) ?_
  refine bm_get (ci := 6) (v := .ref (x + 1)) (C := "BlindMint") (T := bt_B) (N := 12) hx hb hts bu_B hown hK hM h0 rfl 0 (by decide) (hts _ bw_109) (fun _ h9 => h9) rfl dB_coins_8 ?_
  refine lv_iload_n hx hb dB_coins_11 rfl (lv_at hl 1 rfl) ?_
  refine bm_aald (v := .ref (x + (13 + 2 * j))) hx hb hK hM 3 g1 rfl j (bm_ix_nI (by omega)) (by omega) (by rw [hac j hj]; rfl) dB_coins_12 ?_
  refine bm_get (ci := 0) (v := .int cc) (C := "BlindMint$Account") (T := bt_A) (N := 3) hx hb hts bu_A hown hK hM g2 rfl 2 (by decide) (hts _ bw_100) (fun _ h9 => h9) rfl dB_coins_13 ?_
  refine lv_goto (tgt := 20) hx hb dB_coins_16 rfl ?_
  exact bm_iret hQ hx hb hr hlk hM hS ⟨rfl, rfl, hz⟩ (Nat.le_refl _) (Nat.le_refl _) dB_coins_20
set_option maxHeartbeats 4000000 in
set_option maxRecDepth 100000 in
theorem bc_B_balance_ok (l : Launch) (D : va_G) (ct : Nat → ClassId) (base : Nat) (ad : Nat → Nat) (M : bm_Map) (sz : Nat) (x : Nat) (pc lt wc dc fc rc : Int32) (lb : Int64) (lc : Value) (j : Nat) (bal cc : Int32) (ac : Nat → Option Nat) (h0 : M x = some (.inr (6, [.ref (x + 1), .ref (x + 2), .ref (x + 11), .int pc, .ref (x + 12), lc, .int lt, .long lb, .int wc, .int dc, .int fc, .int rc]))) (g1 : M (x + 1) = some (.inl (ct 3, 4, .inr (.inr (.inr (.inr ac)))))) (g2 : M (x + (13 + 2 * j)) = some (.inr (0, [.int bal, .ref (x + (14 + 2 * j)), .int cc]))) (hac : ∀ a, a < 4 → ac a = some (x + (13 + 2 * a))) (hj : j < 4) : Met l yB_balance (bm_ws yB_balance cB_balance 2 (some .int)) { frames := 1, cells := 0, slots := 0, locals := 20 } (bm_Pre D ct base ad M sz [.ref x, .int (nI j)]) (bm_Post D base (bm_Is (some (.int bal)) M sz)) 0 0 (bm_A base) := by
  refine bm_ofB (cc := cB_balance) (maxL := 2) (ret := (some .int)) (by decide +kernel) (Nat.le_of_ble_eq_true rfl) ?_
  intro vp ve s vm args below meth vc hx hb hr hlk hts hown hml hnm ls hl hz hM hG R Q hR hQ
  have hown : s.vm.findClass "BlindMint" = some vm.cls := hown
  have hK := hG.K
  have hS : va_S (bm_A base) s.heap s.heap [] := va_S.rf
  have hl : lv_has ls 2 [(0, .ref x), (1, .int (nI j))] := hl
  refine lv_iload_n hx hb dB_balance_0 rfl (lv_at hl 1 rfl) ?_
  refine bm_callE (va_runS (As := [.int (nI j)]) (rest := []) ⟨hx, hb, hml, hown, hts⟩ (bc_B_isAccount l D ct base ad M sz (nI j)) (va_cwS 1 hts (bm_goodS bw_221 bw_222 bw_1 bw_223) rfl rfl rfl (by decide +kernel) (by rw [← hR]; exact ⟨Nat.le_of_ble_eq_true rfl, Nat.le_of_ble_eq_true rfl⟩)) (bm_preS hM hG hS hz) rfl rfl hl.1 rfl (lv_room (Nat.le_of_ble_eq_true rfl)) dB_balance_1 (by rw [← hR]; exact ⟨Nat.le_of_ble_eq_true rfl, Nat.le_of_ble_eq_true rfl⟩)) hS (fun H locs hz hM hS => ?_)
  refine lv_if_ne (tgt := 15) hx hb dB_balance_4 rfl (fun h4 => ?_) (fun h4 => absurd h4 (by rw [show bm_bl (nI j) 4 = 1 from (bm_bl_nI (N := 4) hj (by decide))]; decide))
  refine lv_aload_n hx hb dB_balance_15 rfl (lv_at hl 0 rfl) ?_
  refine bm_get (ci := 6) (v := .ref (x + 1)) (C := "BlindMint") (T := bt_B) (N := 12) hx hb hts bu_B hown hK hM h0 rfl 0 (by decide) (hts _ bw_109) (fun _ h9 => h9) rfl dB_balance_16 ?_
  refine lv_iload_n hx hb dB_balance_19 rfl (lv_at hl 1 rfl) ?_
  refine bm_aald (v := .ref (x + (13 + 2 * j))) hx hb hK hM 3 g1 rfl j (bm_ix_nI (by omega)) (by omega) (by rw [hac j hj]; rfl) dB_balance_20 ?_
  refine bm_get (ci := 0) (v := .int bal) (C := "BlindMint$Account") (T := bt_A) (N := 3) hx hb hts bu_A hown hK hM g2 rfl 0 (by decide) (hts _ bw_96) (fun _ h9 => h9) rfl dB_balance_21 ?_
  exact bm_iret hQ hx hb hr hlk hM hS ⟨rfl, rfl, hz⟩ (Nat.le_refl _) (Nat.le_refl _) dB_balance_24
set_option maxHeartbeats 4000000 in
set_option maxRecDepth 100000 in
theorem bc_B_good_n (l : Launch) (D : va_G) (ct : Nat → ClassId) (base : Nat) (ad : Nat → Nat) (M : bm_Map) (sz : Nat) (x : Nat) (pc lt wc dc fc rc : Int32) (lb : Int64) (lc : Value) (v : Int32) (h0 : M x = some (.inr (6, [.ref (x + 1), .ref (x + 2), .ref (x + 11), .int pc, .ref (x + 12), lc, .int lt, .long lb, .int wc, .int dc, .int fc, .int rc]))) (hv : bm_bl v pc = 0) : Met l yB_good (bm_ws yB_good cB_good 3 (some .boolean)) { frames := 4, cells := 0, slots := 0, locals := 100 } (bm_Pre D ct base ad M sz [.ref x, .int v]) (bm_Post D base (bm_Is (some (.int 0)) M sz)) 0 0 (bm_A base) := by
  refine bm_ofB (cc := cB_good) (maxL := 3) (ret := (some .boolean)) (by decide +kernel) (Nat.le_of_ble_eq_true rfl) ?_
  intro vp ve s vm args below meth vc hx hb hr hlk hts hown hml hnm ls hl hz hM hG R Q hR hQ
  have hown : s.vm.findClass "BlindMint" = some vm.cls := hown
  have hK := hG.K
  have hS : va_S (bm_A base) s.heap s.heap [] := va_S.rf
  have hl : lv_has ls 3 [(0, .ref x), (1, .int v)] := hl
  refine lv_aload_n hx hb dB_good_0 rfl (lv_at hl 0 rfl) ?_
  refine lv_iload_n hx hb dB_good_1 rfl (lv_at hl 1 rfl) ?_
  refine bm_callE (va_runV (As := [.int v]) (rest := []) ⟨hx, hb, hml, hown, hts⟩ (bc_B_findPayment_n l D ct base ad M sz x pc lt wc dc fc rc lb lc v h0 hv) (cwV 1 hts (bm_goodV bw_150 bw_152 bs_0 bw_1 bw_153) rfl rfl rfl (by decide +kernel) (by rw [← hR]; exact ⟨Nat.le_of_ble_eq_true rfl, Nat.le_of_ble_eq_true rfl⟩)) (bm_preV hM hG hS hz h0 rfl) rfl rfl hl.1 rfl (lv_room (Nat.le_of_ble_eq_true rfl)) dB_good_2 (by rw [← hR]; exact ⟨Nat.le_of_ble_eq_true rfl, Nat.le_of_ble_eq_true rfl⟩)) hS (fun H locs hz hM hS => ?_)
  refine lv_astore_nN hx hb dB_good_5 rfl hl (by decide) rfl (fun ls hl => ?_)
  have hl : lv_has ls 3 [(2, .null), (0, .ref x), (1, .int v)] := hl
  refine lv_aload_nN hx hb dB_good_6 rfl (lv_at hl 0 rfl) ?_
  refine lv_ifnullN (tgt := 22) hx hb dB_good_7 rfl ?_
  refine lv_iconst (v := 0) hx hb dB_good_22 (by decide) ?_
  exact bm_zret hQ hx hb hr hlk (by decide) hM hS ⟨rfl, rfl, hz⟩ (Nat.le_refl _) (Nat.le_refl _) dB_good_23
set_option maxHeartbeats 4000000 in
set_option maxRecDepth 100000 in
theorem bc_B_good_n2 (l : Launch) (D : va_G) (ct : Nat → ClassId) (base : Nat) (ad : Nat → Nat) (M : bm_Map) (sz : Nat) (x : Nat) (pc lt wc dc fc rc : Int32) (lb : Int64) (lc : Value) (k0 e b : Nat) (pa : Nat → Option Nat) (f h : Nat → Int64) (h0 : M x = some (.inr (6, [.ref (x + 1), .ref (x + 2), .ref (x + 11), .int pc, .ref (x + 12), lc, .int lt, .long lb, .int wc, .int dc, .int fc, .int rc]))) (g1 : M (x + 11) = some (.inl (ct 4, 20, .inr (.inr (.inr (.inr pa)))))) (g2 : M (x + 12) = some (.inl (ct 1, 4, .inr (.inl h)))) (g3 : M e = some (.inr (4, [.ref b]))) (g4 : M b = some (.inl (ct 1, 16, .inr (.inl f)))) (hk : k0 < 20) (hv : bm_bl (nI k0) pc = 1) (hpa : pa k0 = some e) (hbd : bm_bL (f 0) 3 = 0) : Met l yB_good (bm_ws yB_good cB_good 3 (some .boolean)) { frames := 4, cells := 0, slots := 0, locals := 100 } (bm_Pre D ct base ad M sz [.ref x, .int (nI k0)]) (bm_Post D base (bm_Is (some (.int 0)) M sz)) 0 0 (bm_A base) := by
  refine bm_ofB (cc := cB_good) (maxL := 3) (ret := (some .boolean)) (by decide +kernel) (Nat.le_of_ble_eq_true rfl) ?_
  intro vp ve s vm args below meth vc hx hb hr hlk hts hown hml hnm ls hl hz hM hG R Q hR hQ
  have hown : s.vm.findClass "BlindMint" = some vm.cls := hown
  have hK := hG.K
  have hS : va_S (bm_A base) s.heap s.heap [] := va_S.rf
  have hl : lv_has ls 3 [(0, .ref x), (1, .int (nI k0))] := hl
  refine lv_aload_n hx hb dB_good_0 rfl (lv_at hl 0 rfl) ?_
  refine lv_iload_n hx hb dB_good_1 rfl (lv_at hl 1 rfl) ?_
  refine bm_callE (va_runV (As := [.int (nI k0)]) (rest := []) ⟨hx, hb, hml, hown, hts⟩ (bc_B_findPayment_ok l D ct base ad M sz x pc lt wc dc fc rc lb lc k0 e pa h0 g1 hk hv hpa) (cwV 1 hts (bm_goodV bw_150 bw_152 bs_0 bw_1 bw_153) rfl rfl rfl (by decide +kernel) (by rw [← hR]; exact ⟨Nat.le_of_ble_eq_true rfl, Nat.le_of_ble_eq_true rfl⟩)) (bm_preV hM hG hS hz h0 rfl) rfl rfl hl.1 rfl (lv_room (Nat.le_of_ble_eq_true rfl)) dB_good_2 (by rw [← hR]; exact ⟨Nat.le_of_ble_eq_true rfl, Nat.le_of_ble_eq_true rfl⟩)) hS (fun H locs hz hM hS => ?_)
  refine lv_astore_n hx hb dB_good_5 rfl hl (by decide) rfl (fun ls hl => ?_)
  have hl : lv_has ls 3 [(2, .ref e), (0, .ref x), (1, .int (nI k0))] := hl
  refine lv_aload_n hx hb dB_good_6 rfl (lv_at hl 0 rfl) ?_
  refine lv_ifnull hx hb dB_good_7 ?_
  refine lv_aload_n hx hb dB_good_10 rfl (lv_at hl 1 rfl) ?_
  refine lv_aload_n hx hb dB_good_11 rfl (lv_at hl 0 rfl) ?_
  refine bm_callE (va_runV (As := [.ref e]) (rest := []) ⟨hx, hb, hml, hown, hts⟩ (bc_B_isGood_n l D ct base ad M sz x pc lt wc dc fc rc lb lc e b f h h0 g2 g3 g4 hbd) (cwV 1 hts (bm_goodV bw_154 bw_156 bs_1 bw_1 bw_157) rfl rfl rfl (by decide +kernel) (by rw [← hR]; exact ⟨Nat.le_of_ble_eq_true rfl, Nat.le_of_ble_eq_true rfl⟩)) (bm_preV hM hG hS hz h0 rfl) rfl rfl hl.1 rfl (lv_room (Nat.le_of_ble_eq_true rfl)) dB_good_12 (by rw [← hR]; exact ⟨Nat.le_of_ble_eq_true rfl, Nat.le_of_ble_eq_true rfl⟩)) hS (fun H locs hz hM hS => ?_)
  refine lv_if_eq (tgt := 22) hx hb dB_good_15 rfl (fun _ => ?_) (fun h => absurd h (by decide))
  refine lv_iconst (v := 0) hx hb dB_good_22 (by decide) ?_
  exact bm_zret hQ hx hb hr hlk (by decide) hM hS ⟨rfl, rfl, hz⟩ (Nat.le_refl _) (Nat.le_refl _) dB_good_23
set_option maxHeartbeats 4000000 in
set_option maxRecDepth 100000 in
theorem bc_B_good_ok (l : Launch) (D : va_G) (ct : Nat → ClassId) (base : Nat) (ad : Nat → Nat) (M : bm_Map) (sz : Nat) (x : Nat) (pc lt wc dc fc rc : Int32) (lb : Int64) (lc : Value) (k0 e b : Nat) (pa : Nat → Option Nat) (f h : Nat → Int64) (d k : Nat) (h0 : M x = some (.inr (6, [.ref (x + 1), .ref (x + 2), .ref (x + 11), .int pc, .ref (x + 12), lc, .int lt, .long lb, .int wc, .int dc, .int fc, .int rc]))) (g1 : M (x + 11) = some (.inl (ct 4, 20, .inr (.inr (.inr (.inr pa)))))) (g2 : M (x + 12) = some (.inl (ct 1, 4, .inr (.inl h)))) (g3 : M e = some (.inr (4, [.ref b]))) (g4 : M b = some (.inl (ct 1, 16, .inr (.inl f)))) (hk : k0 < 20) (hv : bm_bl (nI k0) pc = 1) (hpa : pa k0 = some e) (hbx : x + 12 ≠ b) (hex : e ≠ x + 12) (hex2 : x ≠ b) (hbd : bm_bL (f 0) 3 = 1) (hd0 : f 0 = lN d) (hd : d < 3) (hnum : bm_hc (lN d) (bm_pf f (bm_h3 (f 2) (f 3) (f 1))) = lN k) (hk1 : k < 2 ^ 59) : Met l yB_good (bm_ws yB_good cB_good 3 (some .boolean)) { frames := 4, cells := 0, slots := 0, locals := 100 } (bm_Pre D ct base ad M sz [.ref x, .int (nI k0)]) (bm_Post D base (bm_Is (some (.int (bm_gd (bm_gw (bm_pf f (bm_h3 (f 2) (f 3) (f 1))) 4) (bm_is d (f 1) k)))) (bm_up M (x + 12) (.inl (ct 1, 4, .inr (.inl (bm_hs (bm_pf f (bm_h3 (f 2) (f 3) (f 1))) h 4))))) sz)) 0 0 (bm_A base) := by
  refine bm_ofB (cc := cB_good) (maxL := 3) (ret := (some .boolean)) (by decide +kernel) (Nat.le_of_ble_eq_true rfl) ?_
  intro vp ve s vm args below meth vc hx hb hr hlk hts hown hml hnm ls hl hz hM hG R Q hR hQ
  have hown : s.vm.findClass "BlindMint" = some vm.cls := hown
  have hK := hG.K
  have hS : va_S (bm_A base) s.heap s.heap [] := va_S.rf
  have hl : lv_has ls 3 [(0, .ref x), (1, .int (nI k0))] := hl
  refine lv_aload_n hx hb dB_good_0 rfl (lv_at hl 0 rfl) ?_
  refine lv_iload_n hx hb dB_good_1 rfl (lv_at hl 1 rfl) ?_
  refine bm_callE (va_runV (As := [.int (nI k0)]) (rest := []) ⟨hx, hb, hml, hown, hts⟩ (bc_B_findPayment_ok l D ct base ad M sz x pc lt wc dc fc rc lb lc k0 e pa h0 g1 hk hv hpa) (cwV 1 hts (bm_goodV bw_150 bw_152 bs_0 bw_1 bw_153) rfl rfl rfl (by decide +kernel) (by rw [← hR]; exact ⟨Nat.le_of_ble_eq_true rfl, Nat.le_of_ble_eq_true rfl⟩)) (bm_preV hM hG hS hz h0 rfl) rfl rfl hl.1 rfl (lv_room (Nat.le_of_ble_eq_true rfl)) dB_good_2 (by rw [← hR]; exact ⟨Nat.le_of_ble_eq_true rfl, Nat.le_of_ble_eq_true rfl⟩)) hS (fun H locs hz hM hS => ?_)
  refine lv_astore_n hx hb dB_good_5 rfl hl (by decide) rfl (fun ls hl => ?_)
  have hl : lv_has ls 3 [(2, .ref e), (0, .ref x), (1, .int (nI k0))] := hl
  refine lv_aload_n hx hb dB_good_6 rfl (lv_at hl 0 rfl) ?_
  refine lv_ifnull hx hb dB_good_7 ?_
  refine lv_aload_n hx hb dB_good_10 rfl (lv_at hl 1 rfl) ?_
  refine lv_aload_n hx hb dB_good_11 rfl (lv_at hl 0 rfl) ?_
  refine bm_callE (va_runV (As := [.ref e]) (rest := []) ⟨hx, hb, hml, hown, hts⟩ (bc_B_isGood_ok l D ct base ad M sz x pc lt wc dc fc rc lb lc e b f h d k h0 g2 g3 g4 hbx hex hex2 hbd hd0 hd hnum hk1) (cwV 1 hts (bm_goodV bw_154 bw_156 bs_1 bw_1 bw_157) rfl rfl rfl (by decide +kernel) (by rw [← hR]; exact ⟨Nat.le_of_ble_eq_true rfl, Nat.le_of_ble_eq_true rfl⟩)) (bm_preV hM hG hS hz h0 rfl) rfl rfl hl.1 rfl (lv_room (Nat.le_of_ble_eq_true rfl)) dB_good_12 (by rw [← hR]; exact ⟨Nat.le_of_ble_eq_true rfl, Nat.le_of_ble_eq_true rfl⟩)) hS (fun H locs hz hM hS => ?_)
  refine lv_if_eq (tgt := 22) hx hb dB_good_15 rfl (fun h15 => ?_) (fun h15 => ?_)
  · refine lv_iconst (v := 0) hx hb dB_good_22 (by decide) ?_
    exact bm_zret hQ hx hb hr hlk (by decide) hM hS ⟨congrArg (fun z => some (Value.int z)) h15.symm, rfl, hz⟩ (Nat.le_refl _) (Nat.le_refl _) dB_good_23
  · refine lv_iconst (v := 1) hx hb dB_good_18 (by decide) ?_
    refine lv_goto (tgt := 23) hx hb dB_good_19 rfl ?_
    exact bm_zret hQ hx hb hr hlk (by decide) hM hS ⟨congrArg (fun z => some (Value.int z)) (bm_gd_01 h15), rfl, hz⟩ (Nat.le_refl _) (Nat.le_refl _) dB_good_23
