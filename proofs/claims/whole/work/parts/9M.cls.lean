set_option maxHeartbeats 4000000 in
set_option maxRecDepth 100000 in
theorem bc_B_balance_t (l : Launch) (hlt : l.stackTraces = false) (D : va_G) (ct : Nat → ClassId) (base : Nat) (ad : Nat → Nat) (M : bm_Map) (sz : Nat) (x : Nat) (pc lt wc dc fc rc : Int32) (lb : Int64) (lc : Value) (v : Int32) (h0 : M x = some (.inr (6, [.ref (x + 1), .ref (x + 2), .ref (x + 11), .int pc, .ref (x + 12), lc, .int lt, .long lb, .int wc, .int dc, .int fc, .int rc]))) (hv : bm_bl v 4 = 0) : bm_MG l yB_balance (bm_ws yB_balance cB_balance 2 (some .int)) { frames := 6, cells := 1, slots := 6, locals := 81 } (bm_Pre D ct base ad M sz [.ref x, .int v]) (bm_PostT D base "java/lang/IllegalArgumentException" (fun M1 n => M1 = M ∧ n = sz + 1)) 1 6 (bm_A base) := by
  refine bm_ofT hlt (cc := cB_balance) (maxL := 2) (ret := (some .int)) (by decide +kernel) (Nat.le_of_ble_eq_true rfl) ?_
  intro vp ve s vm args below meth vc hx hb hr hlk hts hown hml hnm ls hl hz hM hG R Q hR hQ hT
  have hown : s.vm.findClass "BlindMint" = some vm.cls := hown
  have hK := hG.K
  have hS : va_S (bm_A base) s.heap s.heap [] := va_S.rf
  have hl : lv_has ls 2 [(0, .ref x), (1, .int v)] := hl
  refine lv_iload_n hx hb dB_balance_0 rfl (lv_at hl 1 rfl) ?_
  refine bm_callE (va_runS (As := [.int v]) (rest := []) ⟨hx, hb, hml, hown, hts⟩ (bc_B_isAccount l D ct base ad M sz v) (va_cwS 1 hts (bm_goodS bw_221 bw_222 bw_1 bw_223) rfl rfl rfl (by decide +kernel) (by rw [← hR]; exact ⟨Nat.le_of_ble_eq_true rfl, Nat.le_of_ble_eq_true rfl⟩)) (bm_preS hM hG hS hz) rfl rfl hl.1 rfl (lv_room (Nat.le_of_ble_eq_true rfl)) dB_balance_1 (by rw [← hR]; exact ⟨Nat.le_of_ble_eq_true rfl, Nat.le_of_ble_eq_true rfl⟩)) hS (fun H locs hz hM hS => ?_)
  refine lv_if_ne (tgt := 15) hx hb dB_balance_4 rfl (fun h4 => absurd hv h4) (fun h4 => ?_)
  exact bm_throw hQ hx hb hlk hT hts hown hG hS hM ⟨rfl, by rw [hz]⟩ bm_kxA hl.1 hml dB_balance_7 dB_balance_10 dB_balance_11 dB_balance_14 (Nat.le_of_ble_eq_true rfl) (Nat.le_of_ble_eq_true rfl) (by rw [← hR]; exact ⟨Nat.le_of_ble_eq_true rfl, Nat.le_of_ble_eq_true rfl, Nat.le_of_ble_eq_true rfl, Nat.le_of_ble_eq_true rfl⟩)
set_option maxHeartbeats 4000000 in
set_option maxRecDepth 100000 in
theorem bc_B_number_t1 (l : Launch) (hlt : l.stackTraces = false) (D : va_G) (ct : Nat → ClassId) (base : Nat) (ad : Nat → Nat) (M : bm_Map) (sz : Nat) (x : Nat) (pc lt wc dc fc rc : Int32) (lb : Int64) (lc : Value) (v w : Int32) (h0 : M x = some (.inr (6, [.ref (x + 1), .ref (x + 2), .ref (x + 11), .int pc, .ref (x + 12), lc, .int lt, .long lb, .int wc, .int dc, .int fc, .int rc]))) (hv : bm_bl v pc = 0) : bm_MG l yB_number (bm_ws yB_number cB_number 4 (some .long)) { frames := 6, cells := 1, slots := 6, locals := 81 } (bm_Pre D ct base ad M sz [.ref x, .int v, .int w]) (bm_PostT D base "java/util/NoSuchElementException" (fun M1 n => M1 = M ∧ n = sz + 1)) 1 6 (bm_A base) := by
  refine bm_ofT hlt (cc := cB_number) (maxL := 4) (ret := (some .long)) (by decide +kernel) (Nat.le_of_ble_eq_true rfl) ?_
  intro vp ve s vm args below meth vc hx hb hr hlk hts hown hml hnm ls hl hz hM hG R Q hR hQ hT
  have hown : s.vm.findClass "BlindMint" = some vm.cls := hown
  have hK := hG.K
  have hS : va_S (bm_A base) s.heap s.heap [] := va_S.rf
  have hl : lv_has ls 4 [(0, .ref x), (1, .int v), (2, .int w)] := hl
  refine lv_aload_n hx hb dB_number_0 rfl (lv_at hl 0 rfl) ?_
  refine lv_iload_n hx hb dB_number_1 rfl (lv_at hl 1 rfl) ?_
  refine bm_callE (va_runV (As := [.int v]) (rest := []) ⟨hx, hb, hml, hown, hts⟩ (bc_B_findPayment_n l D ct base ad M sz x pc lt wc dc fc rc lb lc v h0 hv) (cwV 1 hts (bm_goodV bw_150 bw_152 bs_0 bw_1 bw_153) rfl rfl rfl (by decide +kernel) (by rw [← hR]; exact ⟨Nat.le_of_ble_eq_true rfl, Nat.le_of_ble_eq_true rfl⟩)) (bm_preV hM hG hS hz h0 rfl) rfl rfl hl.1 rfl (lv_room (Nat.le_of_ble_eq_true rfl)) dB_number_2 (by rw [← hR]; exact ⟨Nat.le_of_ble_eq_true rfl, Nat.le_of_ble_eq_true rfl⟩)) hS (fun H locs hz hM hS => ?_)
  refine lv_astore_nN hx hb dB_number_5 rfl hl (by decide) rfl (fun ls hl => ?_)
  have hl : lv_has ls 4 [(3, .null), (0, .ref x), (1, .int v), (2, .int w)] := hl
  refine lv_aload_nN hx hb dB_number_6 rfl (lv_at hl 0 rfl) ?_
  refine lv_ifnullN (tgt := 17) hx hb dB_number_7 rfl ?_
  exact bm_throw hQ hx hb hlk hT hts hown hG hS hM ⟨rfl, by rw [hz]⟩ bm_kxN hl.1 hml dB_number_17 dB_number_20 dB_number_21 dB_number_24 (Nat.le_of_ble_eq_true rfl) (Nat.le_of_ble_eq_true rfl) (by rw [← hR]; exact ⟨Nat.le_of_ble_eq_true rfl, Nat.le_of_ble_eq_true rfl, Nat.le_of_ble_eq_true rfl, Nat.le_of_ble_eq_true rfl⟩)
set_option maxHeartbeats 4000000 in
set_option maxRecDepth 100000 in
theorem bc_B_number_t2 (l : Launch) (hlt : l.stackTraces = false) (D : va_G) (ct : Nat → ClassId) (base : Nat) (ad : Nat → Nat) (M : bm_Map) (sz : Nat) (x : Nat) (pc lt wc dc fc rc : Int32) (lb : Int64) (lc : Value) (k0 e : Nat) (w : Int32) (pa : Nat → Option Nat) (h0 : M x = some (.inr (6, [.ref (x + 1), .ref (x + 2), .ref (x + 11), .int pc, .ref (x + 12), lc, .int lt, .long lb, .int wc, .int dc, .int fc, .int rc]))) (g1 : M (x + 11) = some (.inl (ct 4, 20, .inr (.inr (.inr (.inr pa)))))) (hk : k0 < 20) (hv : bm_bl (nI k0) pc = 1) (hpa : pa k0 = some e) (hw : bm_bl w 16 = 0) : bm_MG l yB_number (bm_ws yB_number cB_number 4 (some .long)) { frames := 6, cells := 1, slots := 6, locals := 81 } (bm_Pre D ct base ad M sz [.ref x, .int (nI k0), .int w]) (bm_PostT D base "java/util/NoSuchElementException" (fun M1 n => M1 = M ∧ n = sz + 1)) 1 6 (bm_A base) := by
  refine bm_ofT hlt (cc := cB_number) (maxL := 4) (ret := (some .long)) (by decide +kernel) (Nat.le_of_ble_eq_true rfl) ?_
  intro vp ve s vm args below meth vc hx hb hr hlk hts hown hml hnm ls hl hz hM hG R Q hR hQ hT
  have hown : s.vm.findClass "BlindMint" = some vm.cls := hown
  have hK := hG.K
  have hS : va_S (bm_A base) s.heap s.heap [] := va_S.rf
  have hl : lv_has ls 4 [(0, .ref x), (1, .int (nI k0)), (2, .int w)] := hl
  refine lv_aload_n hx hb dB_number_0 rfl (lv_at hl 0 rfl) ?_
  refine lv_iload_n hx hb dB_number_1 rfl (lv_at hl 1 rfl) ?_
  refine bm_callE (va_runV (As := [.int (nI k0)]) (rest := []) ⟨hx, hb, hml, hown, hts⟩ (bc_B_findPayment_ok l D ct base ad M sz x pc lt wc dc fc rc lb lc k0 e pa h0 g1 hk hv hpa) (cwV 1 hts (bm_goodV bw_150 bw_152 bs_0 bw_1 bw_153) rfl rfl rfl (by decide +kernel) (by rw [← hR]; exact ⟨Nat.le_of_ble_eq_true rfl, Nat.le_of_ble_eq_true rfl⟩)) (bm_preV hM hG hS hz h0 rfl) rfl rfl hl.1 rfl (lv_room (Nat.le_of_ble_eq_true rfl)) dB_number_2 (by rw [← hR]; exact ⟨Nat.le_of_ble_eq_true rfl, Nat.le_of_ble_eq_true rfl⟩)) hS (fun H locs hz hM hS => ?_)
  refine lv_astore_n hx hb dB_number_5 rfl hl (by decide) rfl (fun ls hl => ?_)
  have hl : lv_has ls 4 [(3, .ref e), (0, .ref x), (1, .int (nI k0)), (2, .int w)] := hl
  refine lv_aload_n hx hb dB_number_6 rfl (lv_at hl 0 rfl) ?_
  refine lv_ifnull hx hb dB_number_7 ?_
  refine lv_iload_n hx hb dB_number_10 rfl (lv_at hl 3 rfl) ?_
  refine bm_callE (va_runS (As := [.int w]) (rest := []) ⟨hx, hb, hml, hown, hts⟩ (bc_P_hasNumber l D ct base ad M sz w) (va_cwS 1 hts (bm_goodS bw_502 bw_503 bw_16 bw_504) rfl rfl rfl (by decide +kernel) (by rw [← hR]; exact ⟨Nat.le_of_ble_eq_true rfl, Nat.le_of_ble_eq_true rfl⟩)) (bm_preS hM hG hS hz) rfl rfl hl.1 rfl (lv_room (Nat.le_of_ble_eq_true rfl)) dB_number_11 (by rw [← hR]; exact ⟨Nat.le_of_ble_eq_true rfl, Nat.le_of_ble_eq_true rfl⟩)) hS (fun H locs hz hM hS => ?_)
  refine lv_if_ne (tgt := 25) hx hb dB_number_14 rfl (fun h14 => absurd hw h14) (fun h14 => ?_)
  exact bm_throw hQ hx hb hlk hT hts hown hG hS hM ⟨rfl, by rw [hz]⟩ bm_kxN hl.1 hml dB_number_17 dB_number_20 dB_number_21 dB_number_24 (Nat.le_of_ble_eq_true rfl) (Nat.le_of_ble_eq_true rfl) (by rw [← hR]; exact ⟨Nat.le_of_ble_eq_true rfl, Nat.le_of_ble_eq_true rfl, Nat.le_of_ble_eq_true rfl, Nat.le_of_ble_eq_true rfl⟩)
set_option maxHeartbeats 4000000 in
set_option maxRecDepth 100000 in
theorem bc_B_tamper_t1 (l : Launch) (hlt : l.stackTraces = false) (D : va_G) (ct : Nat → ClassId) (base : Nat) (ad : Nat → Nat) (M : bm_Map) (sz : Nat) (x : Nat) (pc lt wc dc fc rc : Int32) (lb : Int64) (lc : Value) (v w : Int32) (u : Int64) (h0 : M x = some (.inr (6, [.ref (x + 1), .ref (x + 2), .ref (x + 11), .int pc, .ref (x + 12), lc, .int lt, .long lb, .int wc, .int dc, .int fc, .int rc]))) (hv : bm_bl v pc = 0) : bm_MG l yB_tamper (bm_ws yB_tamper cB_tamper 6 (some .long)) { frames := 6, cells := 1, slots := 6, locals := 81 } (bm_Pre D ct base ad M sz [.ref x, .int v, .int w, .long u]) (bm_PostT D base "java/lang/IllegalArgumentException" (fun M1 n => M1 = M ∧ n = sz + 1)) 1 6 (bm_A base) := by
  refine bm_ofT hlt (cc := cB_tamper) (maxL := 6) (ret := (some .long)) (by decide +kernel) (Nat.le_of_ble_eq_true rfl) ?_
  intro vp ve s vm args below meth vc hx hb hr hlk hts hown hml hnm ls hl hz hM hG R Q hR hQ hT
  have hown : s.vm.findClass "BlindMint" = some vm.cls := hown
  have hK := hG.K
  have hS : va_S (bm_A base) s.heap s.heap [] := va_S.rf
  have hl : lv_has ls 6 [(0, .ref x), (1, .int v), (2, .int w), (3, .long u)] := hl
  refine lv_aload_n hx hb dB_tamper_0 rfl (lv_at hl 0 rfl) ?_
  refine lv_iload_n hx hb dB_tamper_1 rfl (lv_at hl 1 rfl) ?_
  refine bm_callE (va_runV (As := [.int v]) (rest := []) ⟨hx, hb, hml, hown, hts⟩ (bc_B_findPayment_n l D ct base ad M sz x pc lt wc dc fc rc lb lc v h0 hv) (cwV 1 hts (bm_goodV bw_150 bw_152 bs_0 bw_1 bw_153) rfl rfl rfl (by decide +kernel) (by rw [← hR]; exact ⟨Nat.le_of_ble_eq_true rfl, Nat.le_of_ble_eq_true rfl⟩)) (bm_preV hM hG hS hz h0 rfl) rfl rfl hl.1 rfl (lv_room (Nat.le_of_ble_eq_true rfl)) dB_tamper_2 (by rw [← hR]; exact ⟨Nat.le_of_ble_eq_true rfl, Nat.le_of_ble_eq_true rfl⟩)) hS (fun H locs hz hM hS => ?_)
  refine lv_astoreN hx hb dB_tamper_5 hl (by decide) rfl (fun ls hl => ?_)
  have hl : lv_has ls 6 [(5, .null), (0, .ref x), (1, .int v), (2, .int w), (3, .long u)] := hl
  refine lv_aloadN hx hb dB_tamper_7 (lv_at hl 0 rfl) ?_
  refine lv_ifnullN (tgt := 19) hx hb dB_tamper_9 rfl ?_
  exact bm_throw hQ hx hb hlk hT hts hown hG hS hM ⟨rfl, by rw [hz]⟩ bm_kxA hl.1 hml dB_tamper_19 dB_tamper_22 dB_tamper_23 dB_tamper_26 (Nat.le_of_ble_eq_true rfl) (Nat.le_of_ble_eq_true rfl) (by rw [← hR]; exact ⟨Nat.le_of_ble_eq_true rfl, Nat.le_of_ble_eq_true rfl, Nat.le_of_ble_eq_true rfl, Nat.le_of_ble_eq_true rfl⟩)
set_option maxHeartbeats 4000000 in
set_option maxRecDepth 100000 in
theorem bc_B_tamper_t2 (l : Launch) (hlt : l.stackTraces = false) (D : va_G) (ct : Nat → ClassId) (base : Nat) (ad : Nat → Nat) (M : bm_Map) (sz : Nat) (x : Nat) (pc lt wc dc fc rc : Int32) (lb : Int64) (lc : Value) (k0 e : Nat) (w : Int32) (pa : Nat → Option Nat) (u : Int64) (h0 : M x = some (.inr (6, [.ref (x + 1), .ref (x + 2), .ref (x + 11), .int pc, .ref (x + 12), lc, .int lt, .long lb, .int wc, .int dc, .int fc, .int rc]))) (g1 : M (x + 11) = some (.inl (ct 4, 20, .inr (.inr (.inr (.inr pa)))))) (hk : k0 < 20) (hv : bm_bl (nI k0) pc = 1) (hpa : pa k0 = some e) (hw : bm_bl w 16 = 0) : bm_MG l yB_tamper (bm_ws yB_tamper cB_tamper 6 (some .long)) { frames := 6, cells := 1, slots := 6, locals := 81 } (bm_Pre D ct base ad M sz [.ref x, .int (nI k0), .int w, .long u]) (bm_PostT D base "java/lang/IllegalArgumentException" (fun M1 n => M1 = M ∧ n = sz + 1)) 1 6 (bm_A base) := by
  refine bm_ofT hlt (cc := cB_tamper) (maxL := 6) (ret := (some .long)) (by decide +kernel) (Nat.le_of_ble_eq_true rfl) ?_
  intro vp ve s vm args below meth vc hx hb hr hlk hts hown hml hnm ls hl hz hM hG R Q hR hQ hT
  have hown : s.vm.findClass "BlindMint" = some vm.cls := hown
  have hK := hG.K
  have hS : va_S (bm_A base) s.heap s.heap [] := va_S.rf
  have hl : lv_has ls 6 [(0, .ref x), (1, .int (nI k0)), (2, .int w), (3, .long u)] := hl
  refine lv_aload_n hx hb dB_tamper_0 rfl (lv_at hl 0 rfl) ?_
  refine lv_iload_n hx hb dB_tamper_1 rfl (lv_at hl 1 rfl) ?_
  refine bm_callE (va_runV (As := [.int (nI k0)]) (rest := []) ⟨hx, hb, hml, hown, hts⟩ (bc_B_findPayment_ok l D ct base ad M sz x pc lt wc dc fc rc lb lc k0 e pa h0 g1 hk hv hpa) (cwV 1 hts (bm_goodV bw_150 bw_152 bs_0 bw_1 bw_153) rfl rfl rfl (by decide +kernel) (by rw [← hR]; exact ⟨Nat.le_of_ble_eq_true rfl, Nat.le_of_ble_eq_true rfl⟩)) (bm_preV hM hG hS hz h0 rfl) rfl rfl hl.1 rfl (lv_room (Nat.le_of_ble_eq_true rfl)) dB_tamper_2 (by rw [← hR]; exact ⟨Nat.le_of_ble_eq_true rfl, Nat.le_of_ble_eq_true rfl⟩)) hS (fun H locs hz hM hS => ?_)
  refine lv_astore hx hb dB_tamper_5 hl (by decide) rfl (fun ls hl => ?_)
  have hl : lv_has ls 6 [(5, .ref e), (0, .ref x), (1, .int (nI k0)), (2, .int w), (3, .long u)] := hl
  refine lv_aload hx hb dB_tamper_7 (lv_at hl 0 rfl) ?_
  refine lv_ifnull hx hb dB_tamper_9 ?_
  refine lv_iload_n hx hb dB_tamper_12 rfl (lv_at hl 3 rfl) ?_
  refine bm_callE (va_runS (As := [.int w]) (rest := []) ⟨hx, hb, hml, hown, hts⟩ (bc_P_hasNumber l D ct base ad M sz w) (va_cwS 1 hts (bm_goodS bw_502 bw_503 bw_16 bw_504) rfl rfl rfl (by decide +kernel) (by rw [← hR]; exact ⟨Nat.le_of_ble_eq_true rfl, Nat.le_of_ble_eq_true rfl⟩)) (bm_preS hM hG hS hz) rfl rfl hl.1 rfl (lv_room (Nat.le_of_ble_eq_true rfl)) dB_tamper_13 (by rw [← hR]; exact ⟨Nat.le_of_ble_eq_true rfl, Nat.le_of_ble_eq_true rfl⟩)) hS (fun H locs hz hM hS => ?_)
  refine lv_if_ne (tgt := 27) hx hb dB_tamper_16 rfl (fun h16 => absurd hw h16) (fun h16 => ?_)
  exact bm_throw hQ hx hb hlk hT hts hown hG hS hM ⟨rfl, by rw [hz]⟩ bm_kxA hl.1 hml dB_tamper_19 dB_tamper_22 dB_tamper_23 dB_tamper_26 (Nat.le_of_ble_eq_true rfl) (Nat.le_of_ble_eq_true rfl) (by rw [← hR]; exact ⟨Nat.le_of_ble_eq_true rfl, Nat.le_of_ble_eq_true rfl, Nat.le_of_ble_eq_true rfl, Nat.le_of_ble_eq_true rfl⟩)
set_option maxHeartbeats 4000000 in
set_option maxRecDepth 100000 in
theorem bc_B_coin_t1 (l : Launch) (hlt : l.stackTraces = false) (D : va_G) (ct : Nat → ClassId) (base : Nat) (ad : Nat → Nat) (M : bm_Map) (sz : Nat) (x : Nat) (pc lt wc dc fc rc : Int32) (lb : Int64) (lc : Value) (v w : Int32) (h0 : M x = some (.inr (6, [.ref (x + 1), .ref (x + 2), .ref (x + 11), .int pc, .ref (x + 12), lc, .int lt, .long lb, .int wc, .int dc, .int fc, .int rc]))) (hv : bm_bl v 4 = 0) : bm_MG l yB_coin (bm_ws yB_coin cB_coin 4 (some .long)) { frames := 6, cells := 1, slots := 6, locals := 81 } (bm_Pre D ct base ad M sz [.ref x, .int v, .int w]) (bm_PostT D base "java/util/NoSuchElementException" (fun M1 n => M1 = M ∧ n = sz + 1)) 1 6 (bm_A base) := by
  refine bm_ofT hlt (cc := cB_coin) (maxL := 4) (ret := (some .long)) (by decide +kernel) (Nat.le_of_ble_eq_true rfl) ?_
  intro vp ve s vm args below meth vc hx hb hr hlk hts hown hml hnm ls hl hz hM hG R Q hR hQ hT
  have hown : s.vm.findClass "BlindMint" = some vm.cls := hown
  have hK := hG.K
  have hS : va_S (bm_A base) s.heap s.heap [] := va_S.rf
  have hl : lv_has ls 4 [(0, .ref x), (1, .int v), (2, .int w)] := hl
  refine lv_aload_n hx hb dB_coin_0 rfl (lv_at hl 0 rfl) ?_
  refine lv_iload_n hx hb dB_coin_1 rfl (lv_at hl 1 rfl) ?_
  refine lv_iload_n hx hb dB_coin_2 rfl (lv_at hl 2 rfl) ?_
  refine bm_callE (va_runV (As := [.int v, .int w]) (rest := []) ⟨hx, hb, hml, hown, hts⟩ (bc_B_findCoin_n1 l D ct base ad M sz x pc lt wc dc fc rc lb lc v w h0 hv) (cwV 2 hts (bm_goodV bw_478 bw_480 bs_8 bw_1 bw_481) rfl rfl rfl (by decide +kernel) (by rw [← hR]; exact ⟨Nat.le_of_ble_eq_true rfl, Nat.le_of_ble_eq_true rfl⟩)) (bm_preV hM hG hS hz h0 rfl) rfl rfl hl.1 rfl (lv_room (Nat.le_of_ble_eq_true rfl)) dB_coin_3 (by rw [← hR]; exact ⟨Nat.le_of_ble_eq_true rfl, Nat.le_of_ble_eq_true rfl⟩)) hS (fun H locs hz hM hS => ?_)
  refine lv_astore_nN hx hb dB_coin_6 rfl hl (by decide) rfl (fun ls hl => ?_)
  have hl : lv_has ls 4 [(3, .null), (0, .ref x), (1, .int v), (2, .int w)] := hl
  refine lv_aload_nN hx hb dB_coin_7 rfl (lv_at hl 0 rfl) ?_
  refine lv_ifnonnullN hx hb dB_coin_8 ?_
  exact bm_throw hQ hx hb hlk hT hts hown hG hS hM ⟨rfl, by rw [hz]⟩ bm_kxN hl.1 hml dB_coin_11 dB_coin_14 dB_coin_15 dB_coin_18 (Nat.le_of_ble_eq_true rfl) (Nat.le_of_ble_eq_true rfl) (by rw [← hR]; exact ⟨Nat.le_of_ble_eq_true rfl, Nat.le_of_ble_eq_true rfl, Nat.le_of_ble_eq_true rfl, Nat.le_of_ble_eq_true rfl⟩)
set_option maxHeartbeats 4000000 in
set_option maxRecDepth 100000 in
theorem bc_B_coin_t2 (l : Launch) (hlt : l.stackTraces = false) (D : va_G) (ct : Nat → ClassId) (base : Nat) (ad : Nat → Nat) (M : bm_Map) (sz : Nat) (x : Nat) (pc lt wc dc fc rc : Int32) (lb : Int64) (lc : Value) (j : Nat) (w bal cc : Int32) (ac : Nat → Option Nat) (h0 : M x = some (.inr (6, [.ref (x + 1), .ref (x + 2), .ref (x + 11), .int pc, .ref (x + 12), lc, .int lt, .long lb, .int wc, .int dc, .int fc, .int rc]))) (g1 : M (x + 1) = some (.inl (ct 3, 4, .inr (.inr (.inr (.inr ac)))))) (g2 : M (x + (13 + 2 * j)) = some (.inr (0, [.int bal, .ref (x + (14 + 2 * j)), .int cc]))) (hac : ∀ a, a < 4 → ac a = some (x + (13 + 2 * a))) (hj : j < 4) (hw : bm_bl w cc = 0) : bm_MG l yB_coin (bm_ws yB_coin cB_coin 4 (some .long)) { frames := 6, cells := 1, slots := 6, locals := 81 } (bm_Pre D ct base ad M sz [.ref x, .int (nI j), .int w]) (bm_PostT D base "java/util/NoSuchElementException" (fun M1 n => M1 = M ∧ n = sz + 1)) 1 6 (bm_A base) := by
  refine bm_ofT hlt (cc := cB_coin) (maxL := 4) (ret := (some .long)) (by decide +kernel) (Nat.le_of_ble_eq_true rfl) ?_
  intro vp ve s vm args below meth vc hx hb hr hlk hts hown hml hnm ls hl hz hM hG R Q hR hQ hT
  have hown : s.vm.findClass "BlindMint" = some vm.cls := hown
  have hK := hG.K
  have hS : va_S (bm_A base) s.heap s.heap [] := va_S.rf
  have hl : lv_has ls 4 [(0, .ref x), (1, .int (nI j)), (2, .int w)] := hl
  refine lv_aload_n hx hb dB_coin_0 rfl (lv_at hl 0 rfl) ?_
  refine lv_iload_n hx hb dB_coin_1 rfl (lv_at hl 1 rfl) ?_
  refine lv_iload_n hx hb dB_coin_2 rfl (lv_at hl 2 rfl) ?_
  refine bm_callE (va_runV (As := [.int (nI j), .int w]) (rest := []) ⟨hx, hb, hml, hown, hts⟩ (bc_B_findCoin_n2 l D ct base ad M sz x pc lt wc dc fc rc lb lc j w bal cc ac h0 g1 g2 hac hj hw) (cwV 2 hts (bm_goodV bw_478 bw_480 bs_8 bw_1 bw_481) rfl rfl rfl (by decide +kernel) (by rw [← hR]; exact ⟨Nat.le_of_ble_eq_true rfl, Nat.le_of_ble_eq_true rfl⟩)) (bm_preV hM hG hS hz h0 rfl) rfl rfl hl.1 rfl (lv_room (Nat.le_of_ble_eq_true rfl)) dB_coin_3 (by rw [← hR]; exact ⟨Nat.le_of_ble_eq_true rfl, Nat.le_of_ble_eq_true rfl⟩)) hS (fun H locs hz hM hS => ?_)
  refine lv_astore_nN hx hb dB_coin_6 rfl hl (by decide) rfl (fun ls hl => ?_)
  have hl : lv_has ls 4 [(3, .null), (0, .ref x), (1, .int (nI j)), (2, .int w)] := hl
  refine lv_aload_nN hx hb dB_coin_7 rfl (lv_at hl 0 rfl) ?_
  refine lv_ifnonnullN hx hb dB_coin_8 ?_
  exact bm_throw hQ hx hb hlk hT hts hown hG hS hM ⟨rfl, by rw [hz]⟩ bm_kxN hl.1 hml dB_coin_11 dB_coin_14 dB_coin_15 dB_coin_18 (Nat.le_of_ble_eq_true rfl) (Nat.le_of_ble_eq_true rfl) (by rw [← hR]; exact ⟨Nat.le_of_ble_eq_true rfl, Nat.le_of_ble_eq_true rfl, Nat.le_of_ble_eq_true rfl, Nat.le_of_ble_eq_true rfl⟩)
set_option maxHeartbeats 4000000 in
set_option maxRecDepth 100000 in
theorem bc_B_signature_t1 (l : Launch) (hlt : l.stackTraces = false) (D : va_G) (ct : Nat → ClassId) (base : Nat) (ad : Nat → Nat) (M : bm_Map) (sz : Nat) (x : Nat) (pc lt wc dc fc rc : Int32) (lb : Int64) (lc : Value) (v w : Int32) (h0 : M x = some (.inr (6, [.ref (x + 1), .ref (x + 2), .ref (x + 11), .int pc, .ref (x + 12), lc, .int lt, .long lb, .int wc, .int dc, .int fc, .int rc]))) (hv : bm_bl v 4 = 0) : bm_MG l yB_signature (bm_ws yB_signature cB_signature 4 (some .long)) { frames := 6, cells := 1, slots := 6, locals := 81 } (bm_Pre D ct base ad M sz [.ref x, .int v, .int w]) (bm_PostT D base "java/util/NoSuchElementException" (fun M1 n => M1 = M ∧ n = sz + 1)) 1 6 (bm_A base) := by
  refine bm_ofT hlt (cc := cB_signature) (maxL := 4) (ret := (some .long)) (by decide +kernel) (Nat.le_of_ble_eq_true rfl) ?_
  intro vp ve s vm args below meth vc hx hb hr hlk hts hown hml hnm ls hl hz hM hG R Q hR hQ hT
  have hown : s.vm.findClass "BlindMint" = some vm.cls := hown
  have hK := hG.K
  have hS : va_S (bm_A base) s.heap s.heap [] := va_S.rf
  have hl : lv_has ls 4 [(0, .ref x), (1, .int v), (2, .int w)] := hl
  refine lv_aload_n hx hb dB_signature_0 rfl (lv_at hl 0 rfl) ?_
  refine lv_iload_n hx hb dB_signature_1 rfl (lv_at hl 1 rfl) ?_
  refine lv_iload_n hx hb dB_signature_2 rfl (lv_at hl 2 rfl) ?_
  refine bm_callE (va_runV (As := [.int v, .int w]) (rest := []) ⟨hx, hb, hml, hown, hts⟩ (bc_B_findCoin_n1 l D ct base ad M sz x pc lt wc dc fc rc lb lc v w h0 hv) (cwV 2 hts (bm_goodV bw_478 bw_480 bs_8 bw_1 bw_481) rfl rfl rfl (by decide +kernel) (by rw [← hR]; exact ⟨Nat.le_of_ble_eq_true rfl, Nat.le_of_ble_eq_true rfl⟩)) (bm_preV hM hG hS hz h0 rfl) rfl rfl hl.1 rfl (lv_room (Nat.le_of_ble_eq_true rfl)) dB_signature_3 (by rw [← hR]; exact ⟨Nat.le_of_ble_eq_true rfl, Nat.le_of_ble_eq_true rfl⟩)) hS (fun H locs hz hM hS => ?_)
  refine lv_astore_nN hx hb dB_signature_6 rfl hl (by decide) rfl (fun ls hl => ?_)
  have hl : lv_has ls 4 [(3, .null), (0, .ref x), (1, .int v), (2, .int w)] := hl
  refine lv_aload_nN hx hb dB_signature_7 rfl (lv_at hl 0 rfl) ?_
  refine lv_ifnonnullN hx hb dB_signature_8 ?_
  exact bm_throw hQ hx hb hlk hT hts hown hG hS hM ⟨rfl, by rw [hz]⟩ bm_kxN hl.1 hml dB_signature_11 dB_signature_14 dB_signature_15 dB_signature_18 (Nat.le_of_ble_eq_true rfl) (Nat.le_of_ble_eq_true rfl) (by rw [← hR]; exact ⟨Nat.le_of_ble_eq_true rfl, Nat.le_of_ble_eq_true rfl, Nat.le_of_ble_eq_true rfl, Nat.le_of_ble_eq_true rfl⟩)
set_option maxHeartbeats 4000000 in
set_option maxRecDepth 100000 in
theorem bc_B_signature_t2 (l : Launch) (hlt : l.stackTraces = false) (D : va_G) (ct : Nat → ClassId) (base : Nat) (ad : Nat → Nat) (M : bm_Map) (sz : Nat) (x : Nat) (pc lt wc dc fc rc : Int32) (lb : Int64) (lc : Value) (j : Nat) (w bal cc : Int32) (ac : Nat → Option Nat) (h0 : M x = some (.inr (6, [.ref (x + 1), .ref (x + 2), .ref (x + 11), .int pc, .ref (x + 12), lc, .int lt, .long lb, .int wc, .int dc, .int fc, .int rc]))) (g1 : M (x + 1) = some (.inl (ct 3, 4, .inr (.inr (.inr (.inr ac)))))) (g2 : M (x + (13 + 2 * j)) = some (.inr (0, [.int bal, .ref (x + (14 + 2 * j)), .int cc]))) (hac : ∀ a, a < 4 → ac a = some (x + (13 + 2 * a))) (hj : j < 4) (hw : bm_bl w cc = 0) : bm_MG l yB_signature (bm_ws yB_signature cB_signature 4 (some .long)) { frames := 6, cells := 1, slots := 6, locals := 81 } (bm_Pre D ct base ad M sz [.ref x, .int (nI j), .int w]) (bm_PostT D base "java/util/NoSuchElementException" (fun M1 n => M1 = M ∧ n = sz + 1)) 1 6 (bm_A base) := by
  refine bm_ofT hlt (cc := cB_signature) (maxL := 4) (ret := (some .long)) (by decide +kernel) (Nat.le_of_ble_eq_true rfl) ?_
  intro vp ve s vm args below meth vc hx hb hr hlk hts hown hml hnm ls hl hz hM hG R Q hR hQ hT
  have hown : s.vm.findClass "BlindMint" = some vm.cls := hown
  have hK := hG.K
  have hS : va_S (bm_A base) s.heap s.heap [] := va_S.rf
  have hl : lv_has ls 4 [(0, .ref x), (1, .int (nI j)), (2, .int w)] := hl
  refine lv_aload_n hx hb dB_signature_0 rfl (lv_at hl 0 rfl) ?_
  refine lv_iload_n hx hb dB_signature_1 rfl (lv_at hl 1 rfl) ?_
  refine lv_iload_n hx hb dB_signature_2 rfl (lv_at hl 2 rfl) ?_
  refine bm_callE (va_runV (As := [.int (nI j), .int w]) (rest := []) ⟨hx, hb, hml, hown, hts⟩ (bc_B_findCoin_n2 l D ct base ad M sz x pc lt wc dc fc rc lb lc j w bal cc ac h0 g1 g2 hac hj hw) (cwV 2 hts (bm_goodV bw_478 bw_480 bs_8 bw_1 bw_481) rfl rfl rfl (by decide +kernel) (by rw [← hR]; exact ⟨Nat.le_of_ble_eq_true rfl, Nat.le_of_ble_eq_true rfl⟩)) (bm_preV hM hG hS hz h0 rfl) rfl rfl hl.1 rfl (lv_room (Nat.le_of_ble_eq_true rfl)) dB_signature_3 (by rw [← hR]; exact ⟨Nat.le_of_ble_eq_true rfl, Nat.le_of_ble_eq_true rfl⟩)) hS (fun H locs hz hM hS => ?_)
  refine lv_astore_nN hx hb dB_signature_6 rfl hl (by decide) rfl (fun ls hl => ?_)
  have hl : lv_has ls 4 [(3, .null), (0, .ref x), (1, .int (nI j)), (2, .int w)] := hl
  refine lv_aload_nN hx hb dB_signature_7 rfl (lv_at hl 0 rfl) ?_
  refine lv_ifnonnullN hx hb dB_signature_8 ?_
  exact bm_throw hQ hx hb hlk hT hts hown hG hS hM ⟨rfl, by rw [hz]⟩ bm_kxN hl.1 hml dB_signature_11 dB_signature_14 dB_signature_15 dB_signature_18 (Nat.le_of_ble_eq_true rfl) (Nat.le_of_ble_eq_true rfl) (by rw [← hR]; exact ⟨Nat.le_of_ble_eq_true rfl, Nat.le_of_ble_eq_true rfl, Nat.le_of_ble_eq_true rfl, Nat.le_of_ble_eq_true rfl⟩)
set_option maxHeartbeats 4000000 in
set_option maxRecDepth 100000 in
theorem bc_B_spend_t1 (l : Launch) (hlt : l.stackTraces = false) (D : va_G) (ct : Nat → ClassId) (base : Nat) (ad : Nat → Nat) (M : bm_Map) (sz : Nat) (x : Nat) (pc lt wc dc fc rc : Int32) (lb : Int64) (lc : Value) (v w : Int32) (mer non : Int32) (h0 : M x = some (.inr (6, [.ref (x + 1), .ref (x + 2), .ref (x + 11), .int pc, .ref (x + 12), lc, .int lt, .long lb, .int wc, .int dc, .int fc, .int rc]))) (hv : bm_bl v 4 = 0) : bm_MG l yB_spend (bm_ws yB_spend cB_spend 6 (some .int)) { frames := 6, cells := 1, slots := 6, locals := 87 } (bm_Pre D ct base ad M sz [.ref x, .int v, .int w, .int mer, .int non]) (bm_PostT D base "java/lang/IllegalArgumentException" (fun M1 n => M1 = M ∧ n = sz + 1)) 1 6 (bm_A base) := by
  refine bm_ofT hlt (cc := cB_spend) (maxL := 6) (ret := (some .int)) (by decide +kernel) (Nat.le_of_ble_eq_true rfl) ?_
  intro vp ve s vm args below meth vc hx hb hr hlk hts hown hml hnm ls hl hz hM hG R Q hR hQ hT
  have hown : s.vm.findClass "BlindMint" = some vm.cls := hown
  have hK := hG.K
  have hS : va_S (bm_A base) s.heap s.heap [] := va_S.rf
  have hl : lv_has ls 6 [(0, .ref x), (1, .int v), (2, .int w), (3, .int mer), (4, .int non)] := hl
  refine lv_aload_n hx hb dB_spend_0 rfl (lv_at hl 0 rfl) ?_
  refine lv_iload_n hx hb dB_spend_1 rfl (lv_at hl 1 rfl) ?_
  refine lv_iload_n hx hb dB_spend_2 rfl (lv_at hl 2 rfl) ?_
  refine bm_callE (va_runV (As := [.int v, .int w]) (rest := []) ⟨hx, hb, hml, hown, hts⟩ (bc_B_findCoin_n1 l D ct base ad M sz x pc lt wc dc fc rc lb lc v w h0 hv) (cwV 2 hts (bm_goodV bw_478 bw_480 bs_8 bw_1 bw_481) rfl rfl rfl (by decide +kernel) (by rw [← hR]; exact ⟨Nat.le_of_ble_eq_true rfl, Nat.le_of_ble_eq_true rfl⟩)) (bm_preV hM hG hS hz h0 rfl) rfl rfl hl.1 rfl (lv_room (Nat.le_of_ble_eq_true rfl)) dB_spend_3 (by rw [← hR]; exact ⟨Nat.le_of_ble_eq_true rfl, Nat.le_of_ble_eq_true rfl⟩)) hS (fun H locs hz hM hS => ?_)
  refine lv_astoreN hx hb dB_spend_6 hl (by decide) rfl (fun ls hl => ?_)
  have hl : lv_has ls 6 [(5, .null), (0, .ref x), (1, .int v), (2, .int w), (3, .int mer), (4, .int non)] := hl
  refine lv_aloadN hx hb dB_spend_8 (lv_at hl 0 rfl) ?_
  refine lv_ifnonnullN hx hb dB_spend_10 ?_
  exact bm_throw hQ hx hb hlk hT hts hown hG hS hM ⟨rfl, by rw [hz]⟩ bm_kxA hl.1 hml dB_spend_13 dB_spend_16 dB_spend_17 dB_spend_20 (Nat.le_of_ble_eq_true rfl) (Nat.le_of_ble_eq_true rfl) (by rw [← hR]; exact ⟨Nat.le_of_ble_eq_true rfl, Nat.le_of_ble_eq_true rfl, Nat.le_of_ble_eq_true rfl, Nat.le_of_ble_eq_true rfl⟩)
set_option maxHeartbeats 4000000 in
set_option maxRecDepth 100000 in
theorem bc_B_spend_t2 (l : Launch) (hlt : l.stackTraces = false) (D : va_G) (ct : Nat → ClassId) (base : Nat) (ad : Nat → Nat) (M : bm_Map) (sz : Nat) (x : Nat) (pc lt wc dc fc rc : Int32) (lb : Int64) (lc : Value) (j : Nat) (w bal cc : Int32) (ac : Nat → Option Nat) (mer non : Int32) (h0 : M x = some (.inr (6, [.ref (x + 1), .ref (x + 2), .ref (x + 11), .int pc, .ref (x + 12), lc, .int lt, .long lb, .int wc, .int dc, .int fc, .int rc]))) (g1 : M (x + 1) = some (.inl (ct 3, 4, .inr (.inr (.inr (.inr ac)))))) (g2 : M (x + (13 + 2 * j)) = some (.inr (0, [.int bal, .ref (x + (14 + 2 * j)), .int cc]))) (hac : ∀ a, a < 4 → ac a = some (x + (13 + 2 * a))) (hj : j < 4) (hw : bm_bl w cc = 0) : bm_MG l yB_spend (bm_ws yB_spend cB_spend 6 (some .int)) { frames := 6, cells := 1, slots := 6, locals := 87 } (bm_Pre D ct base ad M sz [.ref x, .int (nI j), .int w, .int mer, .int non]) (bm_PostT D base "java/lang/IllegalArgumentException" (fun M1 n => M1 = M ∧ n = sz + 1)) 1 6 (bm_A base) := by
  refine bm_ofT hlt (cc := cB_spend) (maxL := 6) (ret := (some .int)) (by decide +kernel) (Nat.le_of_ble_eq_true rfl) ?_
  intro vp ve s vm args below meth vc hx hb hr hlk hts hown hml hnm ls hl hz hM hG R Q hR hQ hT
  have hown : s.vm.findClass "BlindMint" = some vm.cls := hown
  have hK := hG.K
  have hS : va_S (bm_A base) s.heap s.heap [] := va_S.rf
  have hl : lv_has ls 6 [(0, .ref x), (1, .int (nI j)), (2, .int w), (3, .int mer), (4, .int non)] := hl
  refine lv_aload_n hx hb dB_spend_0 rfl (lv_at hl 0 rfl) ?_
  refine lv_iload_n hx hb dB_spend_1 rfl (lv_at hl 1 rfl) ?_
  refine lv_iload_n hx hb dB_spend_2 rfl (lv_at hl 2 rfl) ?_
  refine bm_callE (va_runV (As := [.int (nI j), .int w]) (rest := []) ⟨hx, hb, hml, hown, hts⟩ (bc_B_findCoin_n2 l D ct base ad M sz x pc lt wc dc fc rc lb lc j w bal cc ac h0 g1 g2 hac hj hw) (cwV 2 hts (bm_goodV bw_478 bw_480 bs_8 bw_1 bw_481) rfl rfl rfl (by decide +kernel) (by rw [← hR]; exact ⟨Nat.le_of_ble_eq_true rfl, Nat.le_of_ble_eq_true rfl⟩)) (bm_preV hM hG hS hz h0 rfl) rfl rfl hl.1 rfl (lv_room (Nat.le_of_ble_eq_true rfl)) dB_spend_3 (by rw [← hR]; exact ⟨Nat.le_of_ble_eq_true rfl, Nat.le_of_ble_eq_true rfl⟩)) hS (fun H locs hz hM hS => ?_)
  refine lv_astoreN hx hb dB_spend_6 hl (by decide) rfl (fun ls hl => ?_)
  have hl : lv_has ls 6 [(5, .null), (0, .ref x), (1, .int (nI j)), (2, .int w), (3, .int mer), (4, .int non)] := hl
  refine lv_aloadN hx hb dB_spend_8 (lv_at hl 0 rfl) ?_
  refine lv_ifnonnullN hx hb dB_spend_10 ?_
  exact bm_throw hQ hx hb hlk hT hts hown hG hS hM ⟨rfl, by rw [hz]⟩ bm_kxA hl.1 hml dB_spend_13 dB_spend_16 dB_spend_17 dB_spend_20 (Nat.le_of_ble_eq_true rfl) (Nat.le_of_ble_eq_true rfl) (by rw [← hR]; exact ⟨Nat.le_of_ble_eq_true rfl, Nat.le_of_ble_eq_true rfl, Nat.le_of_ble_eq_true rfl, Nat.le_of_ble_eq_true rfl⟩)
set_option maxHeartbeats 4000000 in
set_option maxRecDepth 100000 in
theorem bc_B_spend_t3 (l : Launch) (hlt : l.stackTraces = false) (D : va_G) (ct : Nat → ClassId) (base : Nat) (ad : Nat → Nat) (M : bm_Map) (sz : Nat) (x : Nat) (lt wc dc fc rc : Int32) (lb : Int64) (lc : Value) (j i e : Nat) (bal cc mer non : Int32) (ac wf : Nat → Option Nat) (h0 : M x = some (.inr (6, [.ref (x + 1), .ref (x + 2), .ref (x + 11), .int 20, .ref (x + 12), lc, .int lt, .long lb, .int wc, .int dc, .int fc, .int rc]))) (g1 : M (x + 1) = some (.inl (ct 3, 4, .inr (.inr (.inr (.inr ac)))))) (g2 : M (x + (13 + 2 * j)) = some (.inr (0, [.int bal, .ref (x + (14 + 2 * j)), .int cc]))) (g3 : M (x + (14 + 2 * j)) = some (.inl (ct 6, 8, .inr (.inr (.inr (.inr wf)))))) (hac : ∀ a, a < 4 → ac a = some (x + (13 + 2 * a))) (hj : j < 4) (hi : i < 8) (hw : bm_bl (nI i) cc = 1) (hwf : wf i = some e) : bm_MG l yB_spend (bm_ws yB_spend cB_spend 6 (some .int)) { frames := 6, cells := 1, slots := 6, locals := 87 } (bm_Pre D ct base ad M sz [.ref x, .int (nI j), .int (nI i), .int mer, .int non]) (bm_PostT D base "java/lang/IllegalStateException" (fun M1 n => M1 = M ∧ n = sz + 1)) 1 6 (bm_A base) := by
  refine bm_ofT hlt (cc := cB_spend) (maxL := 6) (ret := (some .int)) (by decide +kernel) (Nat.le_of_ble_eq_true rfl) ?_
  intro vp ve s vm args below meth vc hx hb hr hlk hts hown hml hnm ls hl hz hM hG R Q hR hQ hT
  have hown : s.vm.findClass "BlindMint" = some vm.cls := hown
  have hK := hG.K
  have hS : va_S (bm_A base) s.heap s.heap [] := va_S.rf
  have hl : lv_has ls 6 [(0, .ref x), (1, .int (nI j)), (2, .int (nI i)), (3, .int mer), (4, .int non)] := hl
  refine lv_aload_n hx hb dB_spend_0 rfl (lv_at hl 0 rfl) ?_
  refine lv_iload_n hx hb dB_spend_1 rfl (lv_at hl 1 rfl) ?_
  refine lv_iload_n hx hb dB_spend_2 rfl (lv_at hl 2 rfl) ?_
  refine bm_callE (va_runV (As := [.int (nI j), .int (nI i)]) (rest := []) ⟨hx, hb, hml, hown, hts⟩ (bc_B_findCoin_ok l D ct base ad M sz x 20 lt wc dc fc rc lb lc j i e bal cc ac wf h0 g1 g2 g3 hac hj hi hw hwf) (cwV 2 hts (bm_goodV bw_478 bw_480 bs_8 bw_1 bw_481) rfl rfl rfl (by decide +kernel) (by rw [← hR]; exact ⟨Nat.le_of_ble_eq_true rfl, Nat.le_of_ble_eq_true rfl⟩)) (bm_preV hM hG hS hz h0 rfl) rfl rfl hl.1 rfl (lv_room (Nat.le_of_ble_eq_true rfl)) dB_spend_3 (by rw [← hR]; exact ⟨Nat.le_of_ble_eq_true rfl, Nat.le_of_ble_eq_true rfl⟩)) hS (fun H locs hz hM hS => ?_)
  refine lv_astore hx hb dB_spend_6 hl (by decide) rfl (fun ls hl => ?_)
  have hl : lv_has ls 6 [(5, .ref e), (0, .ref x), (1, .int (nI j)), (2, .int (nI i)), (3, .int mer), (4, .int non)] := hl
  refine lv_aload hx hb dB_spend_8 (lv_at hl 0 rfl) ?_
  refine lv_ifnonnull (tgt := 21) hx hb dB_spend_10 rfl ?_
  refine lv_aload_n hx hb dB_spend_21 rfl (lv_at hl 1 rfl) ?_
  refine bm_get (ci := 6) (v := .int 20) (C := "BlindMint") (T := bt_B) (N := 12) hx hb hts bu_B hown hK hM h0 rfl 3 (by decide) (hts _ bw_112) (fun _ h9 => h9) rfl dB_spend_22 ?_
  refine lv_bipush (v := 20) hx hb dB_spend_25 (by decide) ?_
  refine lv_icmp_lt (tgt := 38) hx hb dB_spend_27 rfl (fun h => absurd h (by decide)) (fun _ => ?_)
  exact bm_throw hQ hx hb hlk hT hts hown hG hS hM ⟨rfl, by rw [hz]⟩ bm_kxS hl.1 hml dB_spend_30 dB_spend_33 dB_spend_34 dB_spend_37 (Nat.le_of_ble_eq_true rfl) (Nat.le_of_ble_eq_true rfl) (by rw [← hR]; exact ⟨Nat.le_of_ble_eq_true rfl, Nat.le_of_ble_eq_true rfl, Nat.le_of_ble_eq_true rfl, Nat.le_of_ble_eq_true rfl⟩)
set_option maxHeartbeats 4000000 in
set_option maxRecDepth 100000 in
theorem bc_B_choose_t1 (l : Launch) (hlt : l.stackTraces = false) (D : va_G) (ct : Nat → ClassId) (base : Nat) (ad : Nat → Nat) (M : bm_Map) (sz : Nat) (x : Nat) (pc lt wc dc fc rc : Int32) (lb : Int64) (lc : Value) (v w : Int32) (h0 : M x = some (.inr (6, [.ref (x + 1), .ref (x + 2), .ref (x + 11), .int pc, .ref (x + 12), lc, .int lt, .long lb, .int wc, .int dc, .int fc, .int rc]))) (hv : bm_bl v 4 = 0) : bm_MG l yB_choose (bm_ws yB_choose cB_choose 9 (some .int)) { frames := 6, cells := 1, slots := 6, locals := 81 } (bm_Pre D ct base ad M sz [.ref x, .int v, .int w]) (bm_PostT D base "java/lang/IllegalArgumentException" (fun M1 n => M1 = M ∧ n = sz + 1)) 1 6 (bm_A base) := by
  refine bm_ofT hlt (cc := cB_choose) (maxL := 9) (ret := (some .int)) (by decide +kernel) (Nat.le_of_ble_eq_true rfl) ?_
  intro vp ve s vm args below meth vc hx hb hr hlk hts hown hml hnm ls hl hz hM hG R Q hR hQ hT
  have hown : s.vm.findClass "BlindMint" = some vm.cls := hown
  have hK := hG.K
  have hS : va_S (bm_A base) s.heap s.heap [] := va_S.rf
  have hl : lv_has ls 9 [(0, .ref x), (1, .int v), (2, .int w)] := hl
  refine lv_iload_n hx hb dB_choose_0 rfl (lv_at hl 1 rfl) ?_
  refine bm_callE (va_runS (As := [.int v]) (rest := []) ⟨hx, hb, hml, hown, hts⟩ (bc_B_isAccount l D ct base ad M sz v) (va_cwS 1 hts (bm_goodS bw_221 bw_222 bw_1 bw_223) rfl rfl rfl (by decide +kernel) (by rw [← hR]; exact ⟨Nat.le_of_ble_eq_true rfl, Nat.le_of_ble_eq_true rfl⟩)) (bm_preS hM hG hS hz) rfl rfl hl.1 rfl (lv_room (Nat.le_of_ble_eq_true rfl)) dB_choose_1 (by rw [← hR]; exact ⟨Nat.le_of_ble_eq_true rfl, Nat.le_of_ble_eq_true rfl⟩)) hS (fun H locs hz hM hS => ?_)
  refine lv_if_eq (tgt := 12) hx hb dB_choose_4 rfl (fun h4 => ?_) (fun h4 => absurd hv h4)
  exact bm_throw hQ hx hb hlk hT hts hown hG hS hM ⟨rfl, by rw [hz]⟩ bm_kxA hl.1 hml dB_choose_12 dB_choose_15 dB_choose_16 dB_choose_19 (Nat.le_of_ble_eq_true rfl) (Nat.le_of_ble_eq_true rfl) (by rw [← hR]; exact ⟨Nat.le_of_ble_eq_true rfl, Nat.le_of_ble_eq_true rfl, Nat.le_of_ble_eq_true rfl, Nat.le_of_ble_eq_true rfl⟩)
set_option maxHeartbeats 4000000 in
set_option maxRecDepth 100000 in
theorem bc_B_choose_t2 (l : Launch) (hlt : l.stackTraces = false) (D : va_G) (ct : Nat → ClassId) (base : Nat) (ad : Nat → Nat) (M : bm_Map) (sz : Nat) (x : Nat) (pc lt wc dc fc rc : Int32) (lb : Int64) (lc : Value) (j : Nat) (w : Int32) (h0 : M x = some (.inr (6, [.ref (x + 1), .ref (x + 2), .ref (x + 11), .int pc, .ref (x + 12), lc, .int lt, .long lb, .int wc, .int dc, .int fc, .int rc]))) (hj : j < 4) (hw : ¬ 1 ≤ w) : bm_MG l yB_choose (bm_ws yB_choose cB_choose 9 (some .int)) { frames := 6, cells := 1, slots := 6, locals := 81 } (bm_Pre D ct base ad M sz [.ref x, .int (nI j), .int w]) (bm_PostT D base "java/lang/IllegalArgumentException" (fun M1 n => M1 = M ∧ n = sz + 1)) 1 6 (bm_A base) := by
  refine bm_ofT hlt (cc := cB_choose) (maxL := 9) (ret := (some .int)) (by decide +kernel) (Nat.le_of_ble_eq_true rfl) ?_
  intro vp ve s vm args below meth vc hx hb hr hlk hts hown hml hnm ls hl hz hM hG R Q hR hQ hT
  have hown : s.vm.findClass "BlindMint" = some vm.cls := hown
  have hK := hG.K
  have hS : va_S (bm_A base) s.heap s.heap [] := va_S.rf
  have hl : lv_has ls 9 [(0, .ref x), (1, .int (nI j)), (2, .int w)] := hl
  refine lv_iload_n hx hb dB_choose_0 rfl (lv_at hl 1 rfl) ?_
  refine bm_callE (va_runS (As := [.int (nI j)]) (rest := []) ⟨hx, hb, hml, hown, hts⟩ (bc_B_isAccount l D ct base ad M sz (nI j)) (va_cwS 1 hts (bm_goodS bw_221 bw_222 bw_1 bw_223) rfl rfl rfl (by decide +kernel) (by rw [← hR]; exact ⟨Nat.le_of_ble_eq_true rfl, Nat.le_of_ble_eq_true rfl⟩)) (bm_preS hM hG hS hz) rfl rfl hl.1 rfl (lv_room (Nat.le_of_ble_eq_true rfl)) dB_choose_1 (by rw [← hR]; exact ⟨Nat.le_of_ble_eq_true rfl, Nat.le_of_ble_eq_true rfl⟩)) hS (fun H locs hz hM hS => ?_)
  refine lv_if_eq (tgt := 12) hx hb dB_choose_4 rfl (fun h4 => absurd h4 (by rw [show bm_bl (nI j) 4 = 1 from (bm_bl_nI (N := 4) hj (by decide))]; decide)) (fun h4 => ?_)
  refine lv_iload_n hx hb dB_choose_7 rfl (lv_at hl 2 rfl) ?_
  refine lv_iconst (v := 1) hx hb dB_choose_8 (by decide) ?_
  refine lv_icmp_ge (tgt := 20) hx hb dB_choose_9 rfl (fun h9 => absurd h9 hw) (fun h9 => ?_)
  exact bm_throw hQ hx hb hlk hT hts hown hG hS hM ⟨rfl, by rw [hz]⟩ bm_kxA hl.1 hml dB_choose_12 dB_choose_15 dB_choose_16 dB_choose_19 (Nat.le_of_ble_eq_true rfl) (Nat.le_of_ble_eq_true rfl) (by rw [← hR]; exact ⟨Nat.le_of_ble_eq_true rfl, Nat.le_of_ble_eq_true rfl, Nat.le_of_ble_eq_true rfl, Nat.le_of_ble_eq_true rfl⟩)
set_option maxHeartbeats 4000000 in
set_option maxRecDepth 100000 in
theorem bc_B_withdraw_t1 (l : Launch) (hlt : l.stackTraces = false) (D : va_G) (ct : Nat → ClassId) (base : Nat) (ad : Nat → Nat) (M : bm_Map) (sz : Nat) (x : Nat) (pc lt wc dc fc rc : Int32) (lb : Int64) (lc : Value) (v dn ch : Int32) (seed : Int64) (h0 : M x = some (.inr (6, [.ref (x + 1), .ref (x + 2), .ref (x + 11), .int pc, .ref (x + 12), lc, .int lt, .long lb, .int wc, .int dc, .int fc, .int rc]))) (hv : bm_bl v 4 = 0) : bm_MG l yB_withdraw (bm_ws yB_withdraw cB_withdraw 11 (some .int)) { frames := 6, cells := 1, slots := 6, locals := 157 } (bm_Pre D ct base ad M sz [.ref x, .int v, .int dn, .long seed, .int ch]) (bm_PostT D base "java/lang/IllegalArgumentException" (fun M1 n => M1 = M ∧ n = sz + 1)) 1 6 (bm_A base) := by
  refine bm_ofT hlt (cc := cB_withdraw) (maxL := 11) (ret := (some .int)) (by decide +kernel) (Nat.le_of_ble_eq_true rfl) ?_
  intro vp ve s vm args below meth vc hx hb hr hlk hts hown hml hnm ls hl hz hM hG R Q hR hQ hT
  have hown : s.vm.findClass "BlindMint" = some vm.cls := hown
  have hK := hG.K
  have hS : va_S (bm_A base) s.heap s.heap [] := va_S.rf
  have hl : lv_has ls 11 [(0, .ref x), (1, .int v), (2, .int dn), (3, .long seed), (5, .int ch)] := hl
  refine lv_iload_n hx hb dB_withdraw_0 rfl (lv_at hl 1 rfl) ?_
  refine bm_callE (va_runS (As := [.int v]) (rest := []) ⟨hx, hb, hml, hown, hts⟩ (bc_B_isAccount l D ct base ad M sz v) (va_cwS 1 hts (bm_goodS bw_221 bw_222 bw_1 bw_223) rfl rfl rfl (by decide +kernel) (by rw [← hR]; exact ⟨Nat.le_of_ble_eq_true rfl, Nat.le_of_ble_eq_true rfl⟩)) (bm_preS hM hG hS hz) rfl rfl hl.1 rfl (lv_room (Nat.le_of_ble_eq_true rfl)) dB_withdraw_1 (by rw [← hR]; exact ⟨Nat.le_of_ble_eq_true rfl, Nat.le_of_ble_eq_true rfl⟩)) hS (fun H locs hz hM hS => ?_)
  refine lv_if_eq (tgt := 27) hx hb dB_withdraw_4 rfl (fun h4 => ?_) (fun h4 => absurd hv h4)
  exact bm_throw hQ hx hb hlk hT hts hown hG hS hM ⟨rfl, by rw [hz]⟩ bm_kxA hl.1 hml dB_withdraw_27 dB_withdraw_30 dB_withdraw_31 dB_withdraw_34 (Nat.le_of_ble_eq_true rfl) (Nat.le_of_ble_eq_true rfl) (by rw [← hR]; exact ⟨Nat.le_of_ble_eq_true rfl, Nat.le_of_ble_eq_true rfl, Nat.le_of_ble_eq_true rfl, Nat.le_of_ble_eq_true rfl⟩)
set_option maxHeartbeats 4000000 in
set_option maxRecDepth 100000 in
theorem bc_B_withdraw_t2 (l : Launch) (hlt : l.stackTraces = false) (D : va_G) (ct : Nat → ClassId) (base : Nat) (ad : Nat → Nat) (M : bm_Map) (sz : Nat) (x : Nat) (pc lt wc dc fc rc : Int32) (lb : Int64) (lc : Value) (j : Nat) (dn ch : Int32) (seed : Int64) (h0 : M x = some (.inr (6, [.ref (x + 1), .ref (x + 2), .ref (x + 11), .int pc, .ref (x + 12), lc, .int lt, .long lb, .int wc, .int dc, .int fc, .int rc]))) (hj : j < 4) (hv : bm_bL dn.toInt64 3 = 0) : bm_MG l yB_withdraw (bm_ws yB_withdraw cB_withdraw 11 (some .int)) { frames := 6, cells := 1, slots := 6, locals := 157 } (bm_Pre D ct base ad M sz [.ref x, .int (nI j), .int dn, .long seed, .int ch]) (bm_PostT D base "java/lang/IllegalArgumentException" (fun M1 n => M1 = M ∧ n = sz + 1)) 1 6 (bm_A base) := by
  refine bm_ofT hlt (cc := cB_withdraw) (maxL := 11) (ret := (some .int)) (by decide +kernel) (Nat.le_of_ble_eq_true rfl) ?_
  intro vp ve s vm args below meth vc hx hb hr hlk hts hown hml hnm ls hl hz hM hG R Q hR hQ hT
  have hown : s.vm.findClass "BlindMint" = some vm.cls := hown
  have hK := hG.K
  have hS : va_S (bm_A base) s.heap s.heap [] := va_S.rf
  have hl : lv_has ls 11 [(0, .ref x), (1, .int (nI j)), (2, .int dn), (3, .long seed), (5, .int ch)] := hl
  refine lv_iload_n hx hb dB_withdraw_0 rfl (lv_at hl 1 rfl) ?_
  refine bm_callE (va_runS (As := [.int (nI j)]) (rest := []) ⟨hx, hb, hml, hown, hts⟩ (bc_B_isAccount l D ct base ad M sz (nI j)) (va_cwS 1 hts (bm_goodS bw_221 bw_222 bw_1 bw_223) rfl rfl rfl (by decide +kernel) (by rw [← hR]; exact ⟨Nat.le_of_ble_eq_true rfl, Nat.le_of_ble_eq_true rfl⟩)) (bm_preS hM hG hS hz) rfl rfl hl.1 rfl (lv_room (Nat.le_of_ble_eq_true rfl)) dB_withdraw_1 (by rw [← hR]; exact ⟨Nat.le_of_ble_eq_true rfl, Nat.le_of_ble_eq_true rfl⟩)) hS (fun H locs hz hM hS => ?_)
  refine lv_if_eq (tgt := 27) hx hb dB_withdraw_4 rfl (fun h4 => absurd h4 (by rw [show bm_bl (nI j) 4 = 1 from (bm_bl_nI (N := 4) hj (by decide))]; decide)) (fun h4 => ?_)
  refine lv_iload_n hx hb dB_withdraw_7 rfl (lv_at hl 2 rfl) ?_
  refine lv_i2l hx hb dB_withdraw_8 rfl ?_
  refine bm_callE (va_runS (As := [.long dn.toInt64]) (rest := []) ⟨hx, hb, hml, hown, hts⟩ (bc_B_isDenomination l D ct base ad M sz dn.toInt64) (va_cwS 1 hts (bm_goodS bw_162 bw_163 bw_1 bw_164) rfl rfl rfl (by decide +kernel) (by rw [← hR]; exact ⟨Nat.le_of_ble_eq_true rfl, Nat.le_of_ble_eq_true rfl⟩)) (bm_preS hM hG hS hz) rfl rfl hl.1 rfl (lv_room (Nat.le_of_ble_eq_true rfl)) dB_withdraw_9 (by rw [← hR]; exact ⟨Nat.le_of_ble_eq_true rfl, Nat.le_of_ble_eq_true rfl⟩)) hS (fun H locs hz hM hS => ?_)
  refine lv_if_eq (tgt := 27) hx hb dB_withdraw_12 rfl (fun h12 => ?_) (fun h12 => absurd hv h12)
  exact bm_throw hQ hx hb hlk hT hts hown hG hS hM ⟨rfl, by rw [hz]⟩ bm_kxA hl.1 hml dB_withdraw_27 dB_withdraw_30 dB_withdraw_31 dB_withdraw_34 (Nat.le_of_ble_eq_true rfl) (Nat.le_of_ble_eq_true rfl) (by rw [← hR]; exact ⟨Nat.le_of_ble_eq_true rfl, Nat.le_of_ble_eq_true rfl, Nat.le_of_ble_eq_true rfl, Nat.le_of_ble_eq_true rfl⟩)
set_option maxHeartbeats 4000000 in
set_option maxRecDepth 100000 in
theorem bc_B_withdraw_t3 (l : Launch) (hlt : l.stackTraces = false) (D : va_G) (ct : Nat → ClassId) (base : Nat) (ad : Nat → Nat) (M : bm_Map) (sz : Nat) (x : Nat) (pc lt wc dc fc rc : Int32) (lb : Int64) (lc : Value) (j d : Nat) (ch : Int32) (seed : Int64) (h0 : M x = some (.inr (6, [.ref (x + 1), .ref (x + 2), .ref (x + 11), .int pc, .ref (x + 12), lc, .int lt, .long lb, .int wc, .int dc, .int fc, .int rc]))) (hj : j < 4) (hd : d < 3) (hc64 : bm_bl ch 64 = 0) : bm_MG l yB_withdraw (bm_ws yB_withdraw cB_withdraw 11 (some .int)) { frames := 6, cells := 1, slots := 6, locals := 157 } (bm_Pre D ct base ad M sz [.ref x, .int (nI j), .int (nI d), .long seed, .int ch]) (bm_PostT D base "java/lang/IllegalArgumentException" (fun M1 n => M1 = M ∧ n = sz + 1)) 1 6 (bm_A base) := by
  refine bm_ofT hlt (cc := cB_withdraw) (maxL := 11) (ret := (some .int)) (by decide +kernel) (Nat.le_of_ble_eq_true rfl) ?_
  intro vp ve s vm args below meth vc hx hb hr hlk hts hown hml hnm ls hl hz hM hG R Q hR hQ hT
  have hown : s.vm.findClass "BlindMint" = some vm.cls := hown
  have hK := hG.K
  have hS : va_S (bm_A base) s.heap s.heap [] := va_S.rf
  have hl : lv_has ls 11 [(0, .ref x), (1, .int (nI j)), (2, .int (nI d)), (3, .long seed), (5, .int ch)] := hl
  refine lv_iload_n hx hb dB_withdraw_0 rfl (lv_at hl 1 rfl) ?_
  refine bm_callE (va_runS (As := [.int (nI j)]) (rest := []) ⟨hx, hb, hml, hown, hts⟩ (bc_B_isAccount l D ct base ad M sz (nI j)) (va_cwS 1 hts (bm_goodS bw_221 bw_222 bw_1 bw_223) rfl rfl rfl (by decide +kernel) (by rw [← hR]; exact ⟨Nat.le_of_ble_eq_true rfl, Nat.le_of_ble_eq_true rfl⟩)) (bm_preS hM hG hS hz) rfl rfl hl.1 rfl (lv_room (Nat.le_of_ble_eq_true rfl)) dB_withdraw_1 (by rw [← hR]; exact ⟨Nat.le_of_ble_eq_true rfl, Nat.le_of_ble_eq_true rfl⟩)) hS (fun H locs hz hM hS => ?_)
  refine lv_if_eq (tgt := 27) hx hb dB_withdraw_4 rfl (fun h4 => absurd h4 (by rw [show bm_bl (nI j) 4 = 1 from (bm_bl_nI (N := 4) hj (by decide))]; decide)) (fun h4 => ?_)
  refine lv_iload_n hx hb dB_withdraw_7 rfl (lv_at hl 2 rfl) ?_
  refine lv_i2l (v := lN d) hx hb dB_withdraw_8 (nI_l (by omega)) ?_
  refine bm_callE (va_runS (As := [.long (lN d)]) (rest := []) ⟨hx, hb, hml, hown, hts⟩ (bc_B_isDenomination l D ct base ad M sz (lN d)) (va_cwS 1 hts (bm_goodS bw_162 bw_163 bw_1 bw_164) rfl rfl rfl (by decide +kernel) (by rw [← hR]; exact ⟨Nat.le_of_ble_eq_true rfl, Nat.le_of_ble_eq_true rfl⟩)) (bm_preS hM hG hS hz) rfl rfl hl.1 rfl (lv_room (Nat.le_of_ble_eq_true rfl)) dB_withdraw_9 (by rw [← hR]; exact ⟨Nat.le_of_ble_eq_true rfl, Nat.le_of_ble_eq_true rfl⟩)) hS (fun H locs hz hM hS => ?_)
  refine lv_if_eq (tgt := 27) hx hb dB_withdraw_12 rfl (fun h12 => absurd h12 (by rw [bm_bL_d hd]; decide)) (fun h12 => ?_)
  refine lv_iload hx hb dB_withdraw_15 (lv_at hl 4 rfl) ?_
  refine lv_if_lt (tgt := 27) hx hb dB_withdraw_17 rfl (fun h17 => ?_) (fun h17 => ?_)
  · exact bm_throw hQ hx hb hlk hT hts hown hG hS hM ⟨rfl, by rw [hz]⟩ bm_kxA hl.1 hml dB_withdraw_27 dB_withdraw_30 dB_withdraw_31 dB_withdraw_34 (Nat.le_of_ble_eq_true rfl) (Nat.le_of_ble_eq_true rfl) (by rw [← hR]; exact ⟨Nat.le_of_ble_eq_true rfl, Nat.le_of_ble_eq_true rfl, Nat.le_of_ble_eq_true rfl, Nat.le_of_ble_eq_true rfl⟩)
  · refine lv_iload hx hb dB_withdraw_20 (lv_at hl 4 rfl) ?_
    refine lv_bipush (v := 63) hx hb dB_withdraw_22 (by decide) ?_
    refine lv_icmp_le (tgt := 35) hx hb dB_withdraw_24 rfl (fun h24 => absurd hc64 (by rw [bm_bl_o (fun q => q.elim h17 (fun z => bm_63 h24 z))]; decide)) (fun h24 => ?_)
    exact bm_throw hQ hx hb hlk hT hts hown hG hS hM ⟨rfl, by rw [hz]⟩ bm_kxA hl.1 hml dB_withdraw_27 dB_withdraw_30 dB_withdraw_31 dB_withdraw_34 (Nat.le_of_ble_eq_true rfl) (Nat.le_of_ble_eq_true rfl) (by rw [← hR]; exact ⟨Nat.le_of_ble_eq_true rfl, Nat.le_of_ble_eq_true rfl, Nat.le_of_ble_eq_true rfl, Nat.le_of_ble_eq_true rfl⟩)
set_option maxHeartbeats 4000000 in
set_option maxRecDepth 100000 in
theorem bc_B_withdraw_t4 (l : Launch) (hlt : l.stackTraces = false) (D : va_G) (ct : Nat → ClassId) (base : Nat) (ad : Nat → Nat) (M : bm_Map) (sz : Nat) (x : Nat) (pc lt wc dc fc rc : Int32) (lb : Int64) (lc : Value) (j d : Nat) (bal cc ch : Int32) (ac : Nat → Option Nat) (seed : Int64) (h0 : M x = some (.inr (6, [.ref (x + 1), .ref (x + 2), .ref (x + 11), .int pc, .ref (x + 12), lc, .int lt, .long lb, .int wc, .int dc, .int fc, .int rc]))) (g1 : M (x + 1) = some (.inl (ct 3, 4, .inr (.inr (.inr (.inr ac)))))) (g2 : M (x + (13 + 2 * j)) = some (.inr (0, [.int bal, .ref (x + (14 + 2 * j)), .int cc]))) (hac : ∀ a, a < 4 → ac a = some (x + (13 + 2 * a))) (hj : j < 4) (hd : d < 3) (hc64 : bm_bl ch 64 = 1) (hpoor : bal < bm_w d) : bm_MG l yB_withdraw (bm_ws yB_withdraw cB_withdraw 11 (some .int)) { frames := 6, cells := 1, slots := 6, locals := 157 } (bm_Pre D ct base ad M sz [.ref x, .int (nI j), .int (nI d), .long seed, .int ch]) (bm_PostT D base "java/lang/IllegalStateException" (fun M1 n => M1 = M ∧ n = sz + 1)) 1 6 (bm_A base) := by
  refine bm_ofT hlt (cc := cB_withdraw) (maxL := 11) (ret := (some .int)) (by decide +kernel) (Nat.le_of_ble_eq_true rfl) ?_
  intro vp ve s vm args below meth vc hx hb hr hlk hts hown hml hnm ls hl hz hM hG R Q hR hQ hT
  have hown : s.vm.findClass "BlindMint" = some vm.cls := hown
  have hK := hG.K
  have hS : va_S (bm_A base) s.heap s.heap [] := va_S.rf
  have hl : lv_has ls 11 [(0, .ref x), (1, .int (nI j)), (2, .int (nI d)), (3, .long seed), (5, .int ch)] := hl
  refine lv_iload_n hx hb dB_withdraw_0 rfl (lv_at hl 1 rfl) ?_
  refine bm_callE (va_runS (As := [.int (nI j)]) (rest := []) ⟨hx, hb, hml, hown, hts⟩ (bc_B_isAccount l D ct base ad M sz (nI j)) (va_cwS 1 hts (bm_goodS bw_221 bw_222 bw_1 bw_223) rfl rfl rfl (by decide +kernel) (by rw [← hR]; exact ⟨Nat.le_of_ble_eq_true rfl, Nat.le_of_ble_eq_true rfl⟩)) (bm_preS hM hG hS hz) rfl rfl hl.1 rfl (lv_room (Nat.le_of_ble_eq_true rfl)) dB_withdraw_1 (by rw [← hR]; exact ⟨Nat.le_of_ble_eq_true rfl, Nat.le_of_ble_eq_true rfl⟩)) hS (fun H locs hz hM hS => ?_)
  refine lv_if_eq (tgt := 27) hx hb dB_withdraw_4 rfl (fun h4 => absurd h4 (by rw [show bm_bl (nI j) 4 = 1 from (bm_bl_nI (N := 4) hj (by decide))]; decide)) (fun h4 => ?_)
  refine lv_iload_n hx hb dB_withdraw_7 rfl (lv_at hl 2 rfl) ?_
  refine lv_i2l (v := lN d) hx hb dB_withdraw_8 (nI_l (by omega)) ?_
  refine bm_callE (va_runS (As := [.long (lN d)]) (rest := []) ⟨hx, hb, hml, hown, hts⟩ (bc_B_isDenomination l D ct base ad M sz (lN d)) (va_cwS 1 hts (bm_goodS bw_162 bw_163 bw_1 bw_164) rfl rfl rfl (by decide +kernel) (by rw [← hR]; exact ⟨Nat.le_of_ble_eq_true rfl, Nat.le_of_ble_eq_true rfl⟩)) (bm_preS hM hG hS hz) rfl rfl hl.1 rfl (lv_room (Nat.le_of_ble_eq_true rfl)) dB_withdraw_9 (by rw [← hR]; exact ⟨Nat.le_of_ble_eq_true rfl, Nat.le_of_ble_eq_true rfl⟩)) hS (fun H locs hz hM hS => ?_)
  refine lv_if_eq (tgt := 27) hx hb dB_withdraw_12 rfl (fun h12 => absurd h12 (by rw [bm_bL_d hd]; decide)) (fun h12 => ?_)
  refine lv_iload hx hb dB_withdraw_15 (lv_at hl 4 rfl) ?_
  refine lv_if_lt (tgt := 27) hx hb dB_withdraw_17 rfl (fun h17 => absurd h17 (bm_bl_64 hc64).1) (fun h17 => ?_)
  refine lv_iload hx hb dB_withdraw_20 (lv_at hl 4 rfl) ?_
  refine lv_bipush (v := 63) hx hb dB_withdraw_22 (by decide) ?_
  refine lv_icmp_le (tgt := 35) hx hb dB_withdraw_24 rfl (fun h24 => ?_) (fun h24 => absurd (bm_bl_64 hc64).2 h24)
  refine lv_aload_n hx hb dB_withdraw_35 rfl (lv_at hl 0 rfl) ?_
  refine bm_get (ci := 6) (v := .ref (x + 1)) (C := "BlindMint") (T := bt_B) (N := 12) hx hb hts bu_B hown hK hM h0 rfl 0 (by decide) (hts _ bw_109) (fun _ h9 => h9) rfl dB_withdraw_36 ?_
  refine lv_iload_n hx hb dB_withdraw_39 rfl (lv_at hl 1 rfl) ?_
  refine bm_aald (v := .ref (x + (13 + 2 * j))) hx hb hK hM 3 g1 rfl j (bm_ix_nI (by omega)) (by omega) (by rw [hac j hj]; rfl) dB_withdraw_40 ?_
  refine lv_astore hx hb dB_withdraw_41 hl (by decide) rfl (fun ls hl => ?_)
  have hl : lv_has ls 11 [(6, .ref (x + (13 + 2 * j))), (0, .ref x), (1, .int (nI j)), (2, .int (nI d)), (3, .long seed), (5, .int ch)] := hl
  refine va_gets hx hb hG.2.2.2.1 hS hown (hts _ bw_165) (fun _ h9 => h9) dB_withdraw_43 ?_
  refine lv_iload_n hx hb dB_withdraw_46 rfl (lv_at hl 3 rfl) ?_
  refine bm_tq hx hb hG.2.2.2.2.1 hS d (bm_ix_nI (by omega)) (by omega) dB_withdraw_47 ?_
  refine va_getX (i := d) hx hb hG.2.2.2.2.2.2.1 (by omega) hS hown (hts _ bw_835) (fun _ h9 => h9) dB_withdraw_48 ?_
  refine lv_istore hx hb dB_withdraw_51 hl (by decide) rfl (fun ls hl => ?_)
  have hl : lv_has ls 11 [(7, .int (bm_w d)), (6, .ref (x + (13 + 2 * j))), (0, .ref x), (1, .int (nI j)), (2, .int (nI d)), (3, .long seed), (5, .int ch)] := hl
  refine lv_aload hx hb dB_withdraw_53 (lv_at hl 1 rfl) ?_
  refine bm_get (ci := 0) (v := .int bal) (C := "BlindMint$Account") (T := bt_A) (N := 3) hx hb hts bu_A hown hK hM g2 rfl 0 (by decide) (hts _ bw_96) (fun _ h9 => h9) rfl dB_withdraw_55 ?_
  refine lv_iload hx hb dB_withdraw_58 (lv_at hl 0 rfl) ?_
  refine lv_icmp_lt (tgt := 71) hx hb dB_withdraw_60 rfl (fun h60 => ?_) (fun h60 => absurd hpoor h60)
  exact bm_throw hQ hx hb hlk hT hts hown hG hS hM ⟨rfl, by rw [hz]⟩ bm_kxS hl.1 hml dB_withdraw_71 dB_withdraw_74 dB_withdraw_75 dB_withdraw_78 (Nat.le_of_ble_eq_true rfl) (Nat.le_of_ble_eq_true rfl) (by rw [← hR]; exact ⟨Nat.le_of_ble_eq_true rfl, Nat.le_of_ble_eq_true rfl, Nat.le_of_ble_eq_true rfl, Nat.le_of_ble_eq_true rfl⟩)
set_option maxHeartbeats 4000000 in
set_option maxRecDepth 100000 in
theorem bc_B_withdraw_t5 (l : Launch) (hlt : l.stackTraces = false) (D : va_G) (ct : Nat → ClassId) (base : Nat) (ad : Nat → Nat) (M : bm_Map) (sz : Nat) (x : Nat) (pc lt wc dc fc rc : Int32) (lb : Int64) (lc : Value) (j d : Nat) (bal ch : Int32) (ac : Nat → Option Nat) (seed : Int64) (h0 : M x = some (.inr (6, [.ref (x + 1), .ref (x + 2), .ref (x + 11), .int pc, .ref (x + 12), lc, .int lt, .long lb, .int wc, .int dc, .int fc, .int rc]))) (g1 : M (x + 1) = some (.inl (ct 3, 4, .inr (.inr (.inr (.inr ac)))))) (g2 : M (x + (13 + 2 * j)) = some (.inr (0, [.int bal, .ref (x + (14 + 2 * j)), .int (nI 8)]))) (hac : ∀ a, a < 4 → ac a = some (x + (13 + 2 * a))) (hj : j < 4) (hd : d < 3) (hc64 : bm_bl ch 64 = 1) (hrich : ¬ bal < bm_w d) : bm_MG l yB_withdraw (bm_ws yB_withdraw cB_withdraw 11 (some .int)) { frames := 6, cells := 1, slots := 6, locals := 157 } (bm_Pre D ct base ad M sz [.ref x, .int (nI j), .int (nI d), .long seed, .int ch]) (bm_PostT D base "java/lang/IllegalStateException" (fun M1 n => M1 = M ∧ n = sz + 1)) 1 6 (bm_A base) := by
  refine bm_ofT hlt (cc := cB_withdraw) (maxL := 11) (ret := (some .int)) (by decide +kernel) (Nat.le_of_ble_eq_true rfl) ?_
  intro vp ve s vm args below meth vc hx hb hr hlk hts hown hml hnm ls hl hz hM hG R Q hR hQ hT
  have hown : s.vm.findClass "BlindMint" = some vm.cls := hown
  have hK := hG.K
  have hS : va_S (bm_A base) s.heap s.heap [] := va_S.rf
  have hl : lv_has ls 11 [(0, .ref x), (1, .int (nI j)), (2, .int (nI d)), (3, .long seed), (5, .int ch)] := hl
  refine lv_iload_n hx hb dB_withdraw_0 rfl (lv_at hl 1 rfl) ?_
  refine bm_callE (va_runS (As := [.int (nI j)]) (rest := []) ⟨hx, hb, hml, hown, hts⟩ (bc_B_isAccount l D ct base ad M sz (nI j)) (va_cwS 1 hts (bm_goodS bw_221 bw_222 bw_1 bw_223) rfl rfl rfl (by decide +kernel) (by rw [← hR]; exact ⟨Nat.le_of_ble_eq_true rfl, Nat.le_of_ble_eq_true rfl⟩)) (bm_preS hM hG hS hz) rfl rfl hl.1 rfl (lv_room (Nat.le_of_ble_eq_true rfl)) dB_withdraw_1 (by rw [← hR]; exact ⟨Nat.le_of_ble_eq_true rfl, Nat.le_of_ble_eq_true rfl⟩)) hS (fun H locs hz hM hS => ?_)
  refine lv_if_eq (tgt := 27) hx hb dB_withdraw_4 rfl (fun h4 => absurd h4 (by rw [show bm_bl (nI j) 4 = 1 from (bm_bl_nI (N := 4) hj (by decide))]; decide)) (fun h4 => ?_)
  refine lv_iload_n hx hb dB_withdraw_7 rfl (lv_at hl 2 rfl) ?_
  refine lv_i2l (v := lN d) hx hb dB_withdraw_8 (nI_l (by omega)) ?_
  refine bm_callE (va_runS (As := [.long (lN d)]) (rest := []) ⟨hx, hb, hml, hown, hts⟩ (bc_B_isDenomination l D ct base ad M sz (lN d)) (va_cwS 1 hts (bm_goodS bw_162 bw_163 bw_1 bw_164) rfl rfl rfl (by decide +kernel) (by rw [← hR]; exact ⟨Nat.le_of_ble_eq_true rfl, Nat.le_of_ble_eq_true rfl⟩)) (bm_preS hM hG hS hz) rfl rfl hl.1 rfl (lv_room (Nat.le_of_ble_eq_true rfl)) dB_withdraw_9 (by rw [← hR]; exact ⟨Nat.le_of_ble_eq_true rfl, Nat.le_of_ble_eq_true rfl⟩)) hS (fun H locs hz hM hS => ?_)
  refine lv_if_eq (tgt := 27) hx hb dB_withdraw_12 rfl (fun h12 => absurd h12 (by rw [bm_bL_d hd]; decide)) (fun h12 => ?_)
  refine lv_iload hx hb dB_withdraw_15 (lv_at hl 4 rfl) ?_
  refine lv_if_lt (tgt := 27) hx hb dB_withdraw_17 rfl (fun h17 => absurd h17 (bm_bl_64 hc64).1) (fun h17 => ?_)
  refine lv_iload hx hb dB_withdraw_20 (lv_at hl 4 rfl) ?_
  refine lv_bipush (v := 63) hx hb dB_withdraw_22 (by decide) ?_
  refine lv_icmp_le (tgt := 35) hx hb dB_withdraw_24 rfl (fun h24 => ?_) (fun h24 => absurd (bm_bl_64 hc64).2 h24)
  refine lv_aload_n hx hb dB_withdraw_35 rfl (lv_at hl 0 rfl) ?_
  refine bm_get (ci := 6) (v := .ref (x + 1)) (C := "BlindMint") (T := bt_B) (N := 12) hx hb hts bu_B hown hK hM h0 rfl 0 (by decide) (hts _ bw_109) (fun _ h9 => h9) rfl dB_withdraw_36 ?_
  refine lv_iload_n hx hb dB_withdraw_39 rfl (lv_at hl 1 rfl) ?_
  refine bm_aald (v := .ref (x + (13 + 2 * j))) hx hb hK hM 3 g1 rfl j (bm_ix_nI (by omega)) (by omega) (by rw [hac j hj]; rfl) dB_withdraw_40 ?_
  refine lv_astore hx hb dB_withdraw_41 hl (by decide) rfl (fun ls hl => ?_)
  have hl : lv_has ls 11 [(6, .ref (x + (13 + 2 * j))), (0, .ref x), (1, .int (nI j)), (2, .int (nI d)), (3, .long seed), (5, .int ch)] := hl
  refine va_gets hx hb hG.2.2.2.1 hS hown (hts _ bw_165) (fun _ h9 => h9) dB_withdraw_43 ?_
  refine lv_iload_n hx hb dB_withdraw_46 rfl (lv_at hl 3 rfl) ?_
  refine bm_tq hx hb hG.2.2.2.2.1 hS d (bm_ix_nI (by omega)) (by omega) dB_withdraw_47 ?_
  refine va_getX (i := d) hx hb hG.2.2.2.2.2.2.1 (by omega) hS hown (hts _ bw_835) (fun _ h9 => h9) dB_withdraw_48 ?_
  refine lv_istore hx hb dB_withdraw_51 hl (by decide) rfl (fun ls hl => ?_)
  have hl : lv_has ls 11 [(7, .int (bm_w d)), (6, .ref (x + (13 + 2 * j))), (0, .ref x), (1, .int (nI j)), (2, .int (nI d)), (3, .long seed), (5, .int ch)] := hl
  refine lv_aload hx hb dB_withdraw_53 (lv_at hl 1 rfl) ?_
  refine bm_get (ci := 0) (v := .int bal) (C := "BlindMint$Account") (T := bt_A) (N := 3) hx hb hts bu_A hown hK hM g2 rfl 0 (by decide) (hts _ bw_96) (fun _ h9 => h9) rfl dB_withdraw_55 ?_
  refine lv_iload hx hb dB_withdraw_58 (lv_at hl 0 rfl) ?_
  refine lv_icmp_lt (tgt := 71) hx hb dB_withdraw_60 rfl (fun h60 => absurd h60 hrich) (fun h60 => ?_)
  refine lv_aload hx hb dB_withdraw_63 (lv_at hl 1 rfl) ?_
  refine bm_callE (va_runV (As := []) (rest := []) ⟨hx, hb, hml, hown, hts⟩ (bc_A_isWalletFull_y l D ct base ad M sz (x + (13 + 2 * j)) (x + (14 + 2 * j)) bal g2) (cwV 0 hts (bm_goodV bw_304 bw_305 bw_306 bw_4 bw_307) rfl rfl rfl (by decide +kernel) (by rw [← hR]; exact ⟨Nat.le_of_ble_eq_true rfl, Nat.le_of_ble_eq_true rfl⟩)) (bm_preV hM hG hS hz g2 rfl) rfl rfl hl.1 rfl (lv_room (Nat.le_of_ble_eq_true rfl)) dB_withdraw_65 (by rw [← hR]; exact ⟨Nat.le_of_ble_eq_true rfl, Nat.le_of_ble_eq_true rfl⟩)) hS (fun H locs hz hM hS => ?_)
  refine lv_if_eq (tgt := 79) hx hb dB_withdraw_68 rfl (fun h => absurd h (by decide)) (fun _ => ?_)
  exact bm_throw hQ hx hb hlk hT hts hown hG hS hM ⟨rfl, by rw [hz]⟩ bm_kxS hl.1 hml dB_withdraw_71 dB_withdraw_74 dB_withdraw_75 dB_withdraw_78 (Nat.le_of_ble_eq_true rfl) (Nat.le_of_ble_eq_true rfl) (by rw [← hR]; exact ⟨Nat.le_of_ble_eq_true rfl, Nat.le_of_ble_eq_true rfl, Nat.le_of_ble_eq_true rfl, Nat.le_of_ble_eq_true rfl⟩)
set_option maxHeartbeats 4000000 in
set_option maxRecDepth 100000 in
theorem bc_B_choose_t3 (l : Launch) (hlt : l.stackTraces = false) (D : va_G) (ct : Nat → ClassId) (base : Nat) (ad : Nat → Nat) (M : bm_Map) (sz : Nat) (x : Nat) (pc lt wc dc fc rc : Int32) (lb : Int64) (lc : Value) (j K : Nat) (w bal : Int32) (ac wf : Nat → Option Nat) (co t1 t0 : Nat → Nat) (f4 f7 : Nat → Int32) (nu sg : Nat → Int64) (h0 : M x = some (.inr (6, [.ref (x + 1), .ref (x + 2), .ref (x + 11), .int pc, .ref (x + 12), lc, .int lt, .long lb, .int wc, .int dc, .int fc, .int rc]))) (g1 : M (x + 1) = some (.inl (ct 3, 4, .inr (.inr (.inr (.inr ac)))))) (g2 : M (x + (13 + 2 * j)) = some (.inr (0, [.int bal, .ref (x + (14 + 2 * j)), .int (nI K)]))) (g3 : M (x + (14 + 2 * j)) = some (.inl (ct 6, 8, .inr (.inr (.inr (.inr wf)))))) (hac : ∀ a, a < 4 → ac a = some (x + (13 + 2 * a))) (hj : j < 4) (hw : 1 ≤ w) (hK8 : K ≤ 8) (hwf : ∀ i, i < K → wf i = some (co i)) (hco : ∀ i, i < K → M (co i) = some (.inr (2, [.int (f4 (8 * j + i)), .long (nu i), .long (sg i), .int (f7 (8 * j + i)), .ref (t1 i), .ref (t0 i)]))) (hend : ¬ (bm_cz f4 f7 j K w).2 = 0) : bm_MG l yB_choose (bm_ws yB_choose cB_choose 9 (some .int)) { frames := 6, cells := 1, slots := 6, locals := 81 } (bm_Pre D ct base ad M sz [.ref x, .int (nI j), .int w]) (bm_PostT D base "java/util/NoSuchElementException" (fun M1 n => M1 = M ∧ n = sz + 1)) 1 6 (bm_A base) := by
  refine bm_ofT hlt (cc := cB_choose) (maxL := 9) (ret := (some .int)) (by decide +kernel) (Nat.le_of_ble_eq_true rfl) ?_
  intro vp ve s vm args below meth vc hx hb hr hlk hts hown hml hnm ls hl hz hM hG R Q hR hQ hT
  have hown : s.vm.findClass "BlindMint" = some vm.cls := hown
  have hK := hG.K
  have hS : va_S (bm_A base) s.heap s.heap [] := va_S.rf
  have hl : lv_has ls 9 [(0, .ref x), (1, .int (nI j)), (2, .int w)] := hl
  refine lv_iload_n hx hb dB_choose_0 rfl (lv_at hl 1 rfl) ?_
  refine bm_callE (va_runS (As := [.int (nI j)]) (rest := []) ⟨hx, hb, hml, hown, hts⟩ (bc_B_isAccount l D ct base ad M sz (nI j)) (va_cwS 1 hts (bm_goodS bw_221 bw_222 bw_1 bw_223) rfl rfl rfl (by decide +kernel) (by rw [← hR]; exact ⟨Nat.le_of_ble_eq_true rfl, Nat.le_of_ble_eq_true rfl⟩)) (bm_preS hM hG hS hz) rfl rfl hl.1 rfl (lv_room (Nat.le_of_ble_eq_true rfl)) dB_choose_1 (by rw [← hR]; exact ⟨Nat.le_of_ble_eq_true rfl, Nat.le_of_ble_eq_true rfl⟩)) hS (fun H locs hz hM hS => ?_)
  refine lv_if_eq (tgt := 12) hx hb dB_choose_4 rfl (fun h4 => absurd h4 (by rw [show bm_bl (nI j) 4 = 1 from (bm_bl_nI (N := 4) hj (by decide))]; decide)) (fun h4 => ?_)
  refine lv_iload_n hx hb dB_choose_7 rfl (lv_at hl 2 rfl) ?_
  refine lv_iconst (v := 1) hx hb dB_choose_8 (by decide) ?_
  refine lv_icmp_ge (tgt := 20) hx hb dB_choose_9 rfl (fun h9 => ?_) (fun h9 => absurd hw h9)
  refine lv_aload_n hx hb dB_choose_20 rfl (lv_at hl 0 rfl) ?_
  refine bm_get (ci := 6) (v := .ref (x + 1)) (C := "BlindMint") (T := bt_B) (N := 12) hx hb hts bu_B hown hK hM h0 rfl 0 (by decide) (hts _ bw_109) (fun _ h9 => h9) rfl dB_choose_21 ?_
  refine lv_iload_n hx hb dB_choose_24 rfl (lv_at hl 1 rfl) ?_
  refine bm_aald (v := .ref (x + (13 + 2 * j))) hx hb hK hM 3 g1 rfl j (bm_ix_nI (by omega)) (by omega) (by rw [hac j hj]; rfl) dB_choose_25 ?_
  refine lv_astore_n hx hb dB_choose_26 rfl hl (by decide) rfl (fun ls hl => ?_)
  have hl : lv_has ls 9 [(3, .ref (x + (13 + 2 * j))), (0, .ref x), (1, .int (nI j)), (2, .int w)] := hl
  refine lv_iconst (v := 0) hx hb dB_choose_27 (by decide) ?_
  refine lv_istore hx hb dB_choose_28 hl (by decide) rfl (fun ls hl => ?_)
  have hl : lv_has ls 9 [(4, .int 0), (3, .ref (x + (13 + 2 * j))), (0, .ref x), (1, .int (nI j)), (2, .int w)] := hl
  refine lv_iload_n hx hb dB_choose_30 rfl (lv_at hl 4 rfl) ?_
  refine lv_istore hx hb dB_choose_31 hl (by decide) rfl (fun ls hl => ?_)
  have hl : lv_has ls 9 [(5, .int w), (4, .int 0), (3, .ref (x + (13 + 2 * j))), (0, .ref x), (1, .int (nI j)), (2, .int w)] := hl
  refine va_gets hx hb hG.2.2.2.1 hS hown (hts _ bw_165) (fun _ h9 => h9) dB_choose_33 ?_
  refine va_tlen (v := 3) hx hb hG.2.2.2.2.1 hS (by decide) dB_choose_36 ?_
  refine lv_iconst (v := 1) hx hb dB_choose_37 (by decide) ?_
  refine lv_isub hx hb dB_choose_38 ?_
  refine lv_topi (fun t1 e_t1 => ?_)
  have e_t1 : t1 = 2 := by rw [e_t1]; decide
  subst e_t1
  refine lv_istore hx hb dB_choose_39 hl (by decide) rfl (fun ls hl => ?_)
  have hl : lv_has ls 9 [(6, .int 2), (5, .int w), (4, .int 0), (3, .ref (x + (13 + 2 * j))), (0, .ref x), (1, .int (nI j)), (2, .int w)] := hl
  refine lv_iload hx hb dB_choose_41 (lv_at hl 0 rfl) ?_
  refine lv_if_lt (tgt := 115) hx hb dB_choose_43 rfl (fun h => absurd h (by decide)) (fun _ => ?_)
  refine va_gets hx hb hG.2.2.2.1 hS hown (hts _ bw_165) (fun _ h9 => h9) dB_choose_46 ?_
  refine lv_iload hx hb dB_choose_49 (lv_at hl 0 rfl) ?_
  refine bm_tq hx hb hG.2.2.2.2.1 hS 2 (bm_ix_nI (k := 2) (by decide)) (by decide) dB_choose_51 ?_
  refine va_getX (i := 2) hx hb hG.2.2.2.2.2.2.1 (by decide) hS hown (hts _ bw_835) (fun _ h9 => h9) dB_choose_52 ?_
  refine lv_istore hx hb dB_choose_55 hl (by decide) rfl (fun ls hl => ?_)
  have hl : lv_has ls 9 [(7, .int (bm_w 2)), (6, .int 2), (5, .int w), (4, .int 0), (3, .ref (x + (13 + 2 * j))), (0, .ref x), (1, .int (nI j)), (2, .int w)] := hl
  refine lv_iconst (v := 0) hx hb dB_choose_57 (by decide) ?_
  refine lv_istore hx hb dB_choose_58 hl (by decide) rfl (fun ls hl => ?_)
  have hl : lv_has ls 9 [(8, .int 0), (7, .int (bm_w 2)), (6, .int 2), (5, .int w), (4, .int 0), (3, .ref (x + (13 + 2 * j))), (0, .ref x), (1, .int (nI j)), (2, .int w)] := hl
  have hl : lv_has ls 9 [(0, .ref x), (3, .ref (x + (13 + 2 * j))), (4, .int 0), (5, .int w), (6, .int 2), (7, .int (bm_w 2)), (8, .int 0)] := lv_sub hl [6, 5, 4, 3, 2, 1, 0] rfl
  have loop : ∀ (n : Nat) (k : Nat) (ls : Array Slot) (H : Heap) (locs : List Loc), k + n = K → lv_has ls 9 [(0, .ref x), (3, .ref (x + (13 + 2 * j))), (4, .int ((bm_cs f4 f7 j 2 k (0, w)).1)), (5, .int ((bm_cs f4 f7 j 2 k (0, w)).2)), (6, .int 2), (7, .int (bm_w 2)), (8, .int (nI k))] → H.size = sz → bm_M D base M H → va_S (bm_A base) s.heap H locs → W vp l ve R s vm args below meth vc H locs 0 0 Q (F0 vm 60 ls []) := by
    intro n
    induction n with
    | zero =>
      intro k ls H locs hi hl hz hM hS
      obtain rfl : K = k := by omega
      have hl : lv_has ls 9 [(0, .ref x), (3, .ref (x + (13 + 2 * j))), (4, .int ((bm_cs f4 f7 j 2 K (0, w)).1)), (5, .int ((bm_cs f4 f7 j 2 K (0, w)).2)), (6, .int 2), (7, .int (bm_w 2)), (8, .int (nI K))] := hl
      refine lv_iload hx hb dB_choose_60 (lv_at hl 6 rfl) ?_
      refine lv_aload_n hx hb dB_choose_62 rfl (lv_at hl 1 rfl) ?_
      refine bm_get (ci := 0) (v := .int (nI K)) (C := "BlindMint$Account") (T := bt_A) (N := 3) hx hb hts bu_A hown hK hM g2 rfl 2 (by decide) (hts _ bw_100) (fun _ h9 => h9) rfl dB_choose_63 ?_
      refine lv_icmp_ge (tgt := 109) hx hb dB_choose_66 rfl (fun h66 => ?_) (fun h66 => absurd (Int32.le_refl _) h66)
      refine lv_iinc (v := 1) (k := 4) hx hb dB_choose_109 hl rfl (by decide) (by decide) rfl (fun ls hl => ?_)
      have hl : lv_has ls 9 [(6, .int 1), (0, .ref x), (3, .ref (x + (13 + 2 * j))), (4, .int ((bm_cs f4 f7 j 2 K (0, w)).1)), (5, .int ((bm_cs f4 f7 j 2 K (0, w)).2)), (7, .int (bm_w 2)), (8, .int (nI K))] := hl
      refine lv_goto (tgt := 41) hx hb dB_choose_112 rfl ?_
      refine lv_iload hx hb dB_choose_41 (lv_at hl 0 rfl) ?_
      refine lv_if_lt (tgt := 115) hx hb dB_choose_43 rfl (fun h => absurd h (by decide)) (fun _ => ?_)
      refine va_gets hx hb hG.2.2.2.1 hS hown (hts _ bw_165) (fun _ h9 => h9) dB_choose_46 ?_
      refine lv_iload hx hb dB_choose_49 (lv_at hl 0 rfl) ?_
      refine bm_tq hx hb hG.2.2.2.2.1 hS 1 (bm_ix_nI (k := 1) (by decide)) (by decide) dB_choose_51 ?_
      refine va_getX (i := 1) hx hb hG.2.2.2.2.2.2.1 (by decide) hS hown (hts _ bw_835) (fun _ h9 => h9) dB_choose_52 ?_
      refine lv_istore hx hb dB_choose_55 hl (by decide) rfl (fun ls hl => ?_)
      have hl : lv_has ls 9 [(7, .int (bm_w 1)), (6, .int 1), (0, .ref x), (3, .ref (x + (13 + 2 * j))), (4, .int ((bm_cs f4 f7 j 2 K (0, w)).1)), (5, .int ((bm_cs f4 f7 j 2 K (0, w)).2)), (8, .int (nI K))] := hl
      refine lv_iconst (v := 0) hx hb dB_choose_57 (by decide) ?_
      refine lv_istore hx hb dB_choose_58 hl (by decide) rfl (fun ls hl => ?_)
      have hl : lv_has ls 9 [(8, .int 0), (7, .int (bm_w 1)), (6, .int 1), (0, .ref x), (3, .ref (x + (13 + 2 * j))), (4, .int ((bm_cs f4 f7 j 2 K (0, w)).1)), (5, .int ((bm_cs f4 f7 j 2 K (0, w)).2))] := hl
      have hl : lv_has ls 9 [(0, .ref x), (3, .ref (x + (13 + 2 * j))), (4, .int ((bm_cs f4 f7 j 2 K (0, w)).1)), (5, .int ((bm_cs f4 f7 j 2 K (0, w)).2)), (6, .int 1), (7, .int (bm_w 1)), (8, .int 0)] := lv_sub hl [3, 4, 5, 6, 2, 1, 0] rfl
      have loop : ∀ (n : Nat) (k : Nat) (ls : Array Slot) (H : Heap) (locs : List Loc), k + n = K → lv_has ls 9 [(0, .ref x), (3, .ref (x + (13 + 2 * j))), (4, .int ((bm_cs f4 f7 j 1 k (bm_cs f4 f7 j 2 K (0, w))).1)), (5, .int ((bm_cs f4 f7 j 1 k (bm_cs f4 f7 j 2 K (0, w))).2)), (6, .int 1), (7, .int (bm_w 1)), (8, .int (nI k))] → H.size = sz → bm_M D base M H → va_S (bm_A base) s.heap H locs → W vp l ve R s vm args below meth vc H locs 0 0 Q (F0 vm 60 ls []) := by
        intro n
        induction n with
        | zero =>
          intro k ls H locs hi hl hz hM hS
          obtain rfl : K = k := by omega
          have hl : lv_has ls 9 [(0, .ref x), (3, .ref (x + (13 + 2 * j))), (4, .int ((bm_cs f4 f7 j 1 K (bm_cs f4 f7 j 2 K (0, w))).1)), (5, .int ((bm_cs f4 f7 j 1 K (bm_cs f4 f7 j 2 K (0, w))).2)), (6, .int 1), (7, .int (bm_w 1)), (8, .int (nI K))] := hl
          refine lv_iload hx hb dB_choose_60 (lv_at hl 6 rfl) ?_
          refine lv_aload_n hx hb dB_choose_62 rfl (lv_at hl 1 rfl) ?_
          refine bm_get (ci := 0) (v := .int (nI K)) (C := "BlindMint$Account") (T := bt_A) (N := 3) hx hb hts bu_A hown hK hM g2 rfl 2 (by decide) (hts _ bw_100) (fun _ h9 => h9) rfl dB_choose_63 ?_
          refine lv_icmp_ge (tgt := 109) hx hb dB_choose_66 rfl (fun h66 => ?_) (fun h66 => absurd (Int32.le_refl _) h66)
          refine lv_iinc (v := 0) (k := 4) hx hb dB_choose_109 hl rfl (by decide) (by decide) rfl (fun ls hl => ?_)
          have hl : lv_has ls 9 [(6, .int 0), (0, .ref x), (3, .ref (x + (13 + 2 * j))), (4, .int ((bm_cs f4 f7 j 1 K (bm_cs f4 f7 j 2 K (0, w))).1)), (5, .int ((bm_cs f4 f7 j 1 K (bm_cs f4 f7 j 2 K (0, w))).2)), (7, .int (bm_w 1)), (8, .int (nI K))] := hl
          refine lv_goto (tgt := 41) hx hb dB_choose_112 rfl ?_
          refine lv_iload hx hb dB_choose_41 (lv_at hl 0 rfl) ?_
          refine lv_if_lt (tgt := 115) hx hb dB_choose_43 rfl (fun h => absurd h (by decide)) (fun _ => ?_)
          refine va_gets hx hb hG.2.2.2.1 hS hown (hts _ bw_165) (fun _ h9 => h9) dB_choose_46 ?_
          refine lv_iload hx hb dB_choose_49 (lv_at hl 0 rfl) ?_
          refine bm_tq hx hb hG.2.2.2.2.1 hS 0 (bm_ix_nI (k := 0) (by decide)) (by decide) dB_choose_51 ?_
          refine va_getX (i := 0) hx hb hG.2.2.2.2.2.2.1 (by decide) hS hown (hts _ bw_835) (fun _ h9 => h9) dB_choose_52 ?_
          refine lv_istore hx hb dB_choose_55 hl (by decide) rfl (fun ls hl => ?_)
          have hl : lv_has ls 9 [(7, .int (bm_w 0)), (6, .int 0), (0, .ref x), (3, .ref (x + (13 + 2 * j))), (4, .int ((bm_cs f4 f7 j 1 K (bm_cs f4 f7 j 2 K (0, w))).1)), (5, .int ((bm_cs f4 f7 j 1 K (bm_cs f4 f7 j 2 K (0, w))).2)), (8, .int (nI K))] := hl
          refine lv_iconst (v := 0) hx hb dB_choose_57 (by decide) ?_
          refine lv_istore hx hb dB_choose_58 hl (by decide) rfl (fun ls hl => ?_)
          have hl : lv_has ls 9 [(8, .int 0), (7, .int (bm_w 0)), (6, .int 0), (0, .ref x), (3, .ref (x + (13 + 2 * j))), (4, .int ((bm_cs f4 f7 j 1 K (bm_cs f4 f7 j 2 K (0, w))).1)), (5, .int ((bm_cs f4 f7 j 1 K (bm_cs f4 f7 j 2 K (0, w))).2))] := hl
          have hl : lv_has ls 9 [(0, .ref x), (3, .ref (x + (13 + 2 * j))), (4, .int ((bm_cs f4 f7 j 1 K (bm_cs f4 f7 j 2 K (0, w))).1)), (5, .int ((bm_cs f4 f7 j 1 K (bm_cs f4 f7 j 2 K (0, w))).2)), (6, .int 0), (7, .int (bm_w 0)), (8, .int 0)] := lv_sub hl [3, 4, 5, 6, 2, 1, 0] rfl
          have loop : ∀ (n : Nat) (k : Nat) (ls : Array Slot) (H : Heap) (locs : List Loc), k + n = K → lv_has ls 9 [(0, .ref x), (3, .ref (x + (13 + 2 * j))), (4, .int ((bm_cs f4 f7 j 0 k (bm_cs f4 f7 j 1 K (bm_cs f4 f7 j 2 K (0, w)))).1)), (5, .int ((bm_cs f4 f7 j 0 k (bm_cs f4 f7 j 1 K (bm_cs f4 f7 j 2 K (0, w)))).2)), (6, .int 0), (7, .int (bm_w 0)), (8, .int (nI k))] → H.size = sz → bm_M D base M H → va_S (bm_A base) s.heap H locs → W vp l ve R s vm args below meth vc H locs 0 0 Q (F0 vm 60 ls []) := by
            intro n
            induction n with
            | zero =>
              intro k ls H locs hi hl hz hM hS
              obtain rfl : K = k := by omega
              have hl : lv_has ls 9 [(0, .ref x), (3, .ref (x + (13 + 2 * j))), (4, .int ((bm_cs f4 f7 j 0 K (bm_cs f4 f7 j 1 K (bm_cs f4 f7 j 2 K (0, w)))).1)), (5, .int ((bm_cs f4 f7 j 0 K (bm_cs f4 f7 j 1 K (bm_cs f4 f7 j 2 K (0, w)))).2)), (6, .int 0), (7, .int (bm_w 0)), (8, .int (nI K))] := hl
              refine lv_iload hx hb dB_choose_60 (lv_at hl 6 rfl) ?_
              refine lv_aload_n hx hb dB_choose_62 rfl (lv_at hl 1 rfl) ?_
              refine bm_get (ci := 0) (v := .int (nI K)) (C := "BlindMint$Account") (T := bt_A) (N := 3) hx hb hts bu_A hown hK hM g2 rfl 2 (by decide) (hts _ bw_100) (fun _ h9 => h9) rfl dB_choose_63 ?_
              refine lv_icmp_ge (tgt := 109) hx hb dB_choose_66 rfl (fun h66 => ?_) (fun h66 => absurd (Int32.le_refl _) h66)
              refine lv_iinc (v := (-1)) (k := 4) hx hb dB_choose_109 hl rfl (by decide) (by decide) rfl (fun ls hl => ?_)
              have hl : lv_has ls 9 [(6, .int (-1)), (0, .ref x), (3, .ref (x + (13 + 2 * j))), (4, .int ((bm_cs f4 f7 j 0 K (bm_cs f4 f7 j 1 K (bm_cs f4 f7 j 2 K (0, w)))).1)), (5, .int ((bm_cs f4 f7 j 0 K (bm_cs f4 f7 j 1 K (bm_cs f4 f7 j 2 K (0, w)))).2)), (7, .int (bm_w 0)), (8, .int (nI K))] := hl
              refine lv_goto (tgt := 41) hx hb dB_choose_112 rfl ?_
              refine lv_iload hx hb dB_choose_41 (lv_at hl 0 rfl) ?_
              refine lv_if_lt (tgt := 115) hx hb dB_choose_43 rfl (fun _ => ?_) (fun h => absurd h (by decide))
              refine lv_iload hx hb dB_choose_115 (lv_at hl 4 rfl) ?_
              refine lv_if_eq (tgt := 128) hx hb dB_choose_117 rfl (fun h117 => absurd h117 hend) (fun h117 => ?_)
              exact bm_throw hQ hx hb hlk hT hts hown hG hS hM ⟨rfl, by rw [hz]⟩ bm_kxN hl.1 hml dB_choose_120 dB_choose_123 dB_choose_124 dB_choose_127 (Nat.le_of_ble_eq_true rfl) (Nat.le_of_ble_eq_true rfl) (by rw [← hR]; exact ⟨Nat.le_of_ble_eq_true rfl, Nat.le_of_ble_eq_true rfl, Nat.le_of_ble_eq_true rfl, Nat.le_of_ble_eq_true rfl⟩)
            | succ n ih =>
              intro k ls H locs hi hl hz hM hS
              refine lv_iload hx hb dB_choose_60 (lv_at hl 6 rfl) ?_
              refine lv_aload_n hx hb dB_choose_62 rfl (lv_at hl 1 rfl) ?_
              refine bm_get (ci := 0) (v := .int (nI K)) (C := "BlindMint$Account") (T := bt_A) (N := 3) hx hb hts bu_A hown hK hM g2 rfl 2 (by decide) (hts _ bw_100) (fun _ h9 => h9) rfl dB_choose_63 ?_
              refine lv_icmp_ge (tgt := 109) hx hb dB_choose_66 rfl (fun h66 => absurd h66 (nI_ge (by omega) (by omega))) (fun h66 => ?_)
              refine lv_aload_n hx hb dB_choose_69 rfl (lv_at hl 1 rfl) ?_
              refine lv_iload hx hb dB_choose_70 (lv_at hl 6 rfl) ?_
              refine lv_iload hx hb dB_choose_72 (lv_at hl 4 rfl) ?_
              have hk9 : k < K := by omega
              refine bm_callE (va_runV (As := [.int (nI k), .int 0]) (rest := []) ⟨hx, hb, hml, hown, hts⟩ (bc_A_hasUnspent l D ct base ad M sz (x + (13 + 2 * j)) (x + (14 + 2 * j)) k (co k) (t1 k) (t0 k) 0 bal (nI K) (f4 (8 * j + k)) (f7 (8 * j + k)) 0 (nu k) (sg k) wf g2 g3 (hco k hk9) (by omega) (hwf k hk9)) (cwV 2 hts (bm_goodV bw_452 bw_453 bw_454 bw_4 bw_455) rfl rfl rfl (by decide +kernel) (by rw [← hR]; exact ⟨Nat.le_of_ble_eq_true rfl, Nat.le_of_ble_eq_true rfl⟩)) (bm_preV hM hG hS hz g2 rfl) rfl rfl hl.1 rfl (lv_room (Nat.le_of_ble_eq_true rfl)) dB_choose_74 (by rw [← hR]; exact ⟨Nat.le_of_ble_eq_true rfl, Nat.le_of_ble_eq_true rfl⟩)) hS (fun H locs hz hM hS => ?_)
              refine lv_if_eq (tgt := 103) hx hb dB_choose_77 rfl (fun h77 => ?_) (fun h77 => ?_)
              · have hl : lv_has ls 9 [(0, .ref x), (3, .ref (x + (13 + 2 * j))), (4, .int ((bm_cs f4 f7 j 0 (k + 1) (bm_cs f4 f7 j 1 K (bm_cs f4 f7 j 2 K (0, w)))).1)), (5, .int ((bm_cs f4 f7 j 0 (k + 1) (bm_cs f4 f7 j 1 K (bm_cs f4 f7 j 2 K (0, w)))).2)), (6, .int 0), (7, .int (bm_w 0)), (8, .int (nI k))] := by rw [show bm_cs f4 f7 j 0 (k + 1) (bm_cs f4 f7 j 1 K (bm_cs f4 f7 j 2 K (0, w))) = _ from bm_cs_n2 (fun q => bm_hu_z h77 ⟨q.1, q.2.1⟩)]; exact hl
                refine lv_iinc (v := nI (k + 1)) (k := 6) hx hb dB_choose_103 hl rfl (bm_inc k) (by decide) rfl (fun ls hl => ?_)
                have hl : lv_has ls 9 [(8, .int (nI (k + 1))), (0, .ref x), (3, .ref (x + (13 + 2 * j))), (4, .int ((bm_cs f4 f7 j 0 (k + 1) (bm_cs f4 f7 j 1 K (bm_cs f4 f7 j 2 K (0, w)))).1)), (5, .int ((bm_cs f4 f7 j 0 (k + 1) (bm_cs f4 f7 j 1 K (bm_cs f4 f7 j 2 K (0, w)))).2)), (6, .int 0), (7, .int (bm_w 0))] := hl
                refine lv_goto (tgt := 60) hx hb dB_choose_106 rfl ?_
                have hl : lv_has ls 9 [(0, .ref x), (3, .ref (x + (13 + 2 * j))), (4, .int ((bm_cs f4 f7 j 0 (k + 1) (bm_cs f4 f7 j 1 K (bm_cs f4 f7 j 2 K (0, w)))).1)), (5, .int ((bm_cs f4 f7 j 0 (k + 1) (bm_cs f4 f7 j 1 K (bm_cs f4 f7 j 2 K (0, w)))).2)), (6, .int 0), (7, .int (bm_w 0)), (8, .int (nI (k + 1)))] := lv_sub hl [1, 2, 3, 4, 5, 6, 0] rfl
                exact ih (k + 1) ls _ _ (by omega) hl hz hM hS
              · refine lv_iload hx hb dB_choose_80 (lv_at hl 5 rfl) ?_
                refine lv_iload hx hb dB_choose_82 (lv_at hl 3 rfl) ?_
                refine lv_icmp_gt (tgt := 103) hx hb dB_choose_84 rfl (fun h84 => ?_) (fun h84 => ?_)
                · have hl : lv_has ls 9 [(0, .ref x), (3, .ref (x + (13 + 2 * j))), (4, .int ((bm_cs f4 f7 j 0 (k + 1) (bm_cs f4 f7 j 1 K (bm_cs f4 f7 j 2 K (0, w)))).1)), (5, .int ((bm_cs f4 f7 j 0 (k + 1) (bm_cs f4 f7 j 1 K (bm_cs f4 f7 j 2 K (0, w)))).2)), (6, .int 0), (7, .int (bm_w 0)), (8, .int (nI k))] := by rw [show bm_cs f4 f7 j 0 (k + 1) (bm_cs f4 f7 j 1 K (bm_cs f4 f7 j 2 K (0, w))) = _ from bm_cs_n2 (fun q => q.2.2 h84)]; exact hl
                  refine lv_iinc (v := nI (k + 1)) (k := 6) hx hb dB_choose_103 hl rfl (bm_inc k) (by decide) rfl (fun ls hl => ?_)
                  have hl : lv_has ls 9 [(8, .int (nI (k + 1))), (0, .ref x), (3, .ref (x + (13 + 2 * j))), (4, .int ((bm_cs f4 f7 j 0 (k + 1) (bm_cs f4 f7 j 1 K (bm_cs f4 f7 j 2 K (0, w)))).1)), (5, .int ((bm_cs f4 f7 j 0 (k + 1) (bm_cs f4 f7 j 1 K (bm_cs f4 f7 j 2 K (0, w)))).2)), (6, .int 0), (7, .int (bm_w 0))] := hl
                  refine lv_goto (tgt := 60) hx hb dB_choose_106 rfl ?_
                  have hl : lv_has ls 9 [(0, .ref x), (3, .ref (x + (13 + 2 * j))), (4, .int ((bm_cs f4 f7 j 0 (k + 1) (bm_cs f4 f7 j 1 K (bm_cs f4 f7 j 2 K (0, w)))).1)), (5, .int ((bm_cs f4 f7 j 0 (k + 1) (bm_cs f4 f7 j 1 K (bm_cs f4 f7 j 2 K (0, w)))).2)), (6, .int 0), (7, .int (bm_w 0)), (8, .int (nI (k + 1)))] := lv_sub hl [1, 2, 3, 4, 5, 6, 0] rfl
                  exact ih (k + 1) ls _ _ (by omega) hl hz hM hS
                · refine lv_iload hx hb dB_choose_87 (lv_at hl 2 rfl) ?_
                  refine lv_iconst (v := 1) hx hb dB_choose_89 (by decide) ?_
                  refine lv_iload hx hb dB_choose_90 (lv_at hl 6 rfl) ?_
                  refine lv_ishl hx hb dB_choose_92 ?_
                  refine lv_ior hx hb dB_choose_93 ?_
                  refine lv_istore hx hb dB_choose_94 hl (by decide) rfl (fun ls hl => ?_)
                  have hl : lv_has ls 9 [(4, .int (((bm_cs f4 f7 j 0 k (bm_cs f4 f7 j 1 K (bm_cs f4 f7 j 2 K (0, w)))).1) ||| (1 <<< ((nI k) &&& 31)))), (0, .ref x), (3, .ref (x + (13 + 2 * j))), (5, .int ((bm_cs f4 f7 j 0 k (bm_cs f4 f7 j 1 K (bm_cs f4 f7 j 2 K (0, w)))).2)), (6, .int 0), (7, .int (bm_w 0)), (8, .int (nI k))] := hl
                  refine lv_iload hx hb dB_choose_96 (lv_at hl 3 rfl) ?_
                  refine lv_iload hx hb dB_choose_98 (lv_at hl 5 rfl) ?_
                  refine lv_isub hx hb dB_choose_100 ?_
                  refine lv_istore hx hb dB_choose_101 hl (by decide) rfl (fun ls hl => ?_)
                  have hl : lv_has ls 9 [(5, .int (((bm_cs f4 f7 j 0 k (bm_cs f4 f7 j 1 K (bm_cs f4 f7 j 2 K (0, w)))).2) - (bm_w 0))), (4, .int (((bm_cs f4 f7 j 0 k (bm_cs f4 f7 j 1 K (bm_cs f4 f7 j 2 K (0, w)))).1) ||| (1 <<< ((nI k) &&& 31)))), (0, .ref x), (3, .ref (x + (13 + 2 * j))), (6, .int 0), (7, .int (bm_w 0)), (8, .int (nI k))] := hl
                  have hl : lv_has ls 9 [(5, .int ((bm_cs f4 f7 j 0 (k + 1) (bm_cs f4 f7 j 1 K (bm_cs f4 f7 j 2 K (0, w)))).2)), (4, .int ((bm_cs f4 f7 j 0 (k + 1) (bm_cs f4 f7 j 1 K (bm_cs f4 f7 j 2 K (0, w)))).1)), (0, .ref x), (3, .ref (x + (13 + 2 * j))), (6, .int 0), (7, .int (bm_w 0)), (8, .int (nI k))] := by rw [show bm_cs f4 f7 j 0 (k + 1) (bm_cs f4 f7 j 1 K (bm_cs f4 f7 j 2 K (0, w))) = _ from bm_cs_y (bm_hu_nz h77).1 (bm_hu_nz h77).2 h84]; exact hl
                  refine lv_iinc (v := nI (k + 1)) (k := 6) hx hb dB_choose_103 hl rfl (bm_inc k) (by decide) rfl (fun ls hl => ?_)
                  have hl : lv_has ls 9 [(8, .int (nI (k + 1))), (5, .int ((bm_cs f4 f7 j 0 (k + 1) (bm_cs f4 f7 j 1 K (bm_cs f4 f7 j 2 K (0, w)))).2)), (4, .int ((bm_cs f4 f7 j 0 (k + 1) (bm_cs f4 f7 j 1 K (bm_cs f4 f7 j 2 K (0, w)))).1)), (0, .ref x), (3, .ref (x + (13 + 2 * j))), (6, .int 0), (7, .int (bm_w 0))] := hl
                  refine lv_goto (tgt := 60) hx hb dB_choose_106 rfl ?_
                  have hl : lv_has ls 9 [(0, .ref x), (3, .ref (x + (13 + 2 * j))), (4, .int ((bm_cs f4 f7 j 0 (k + 1) (bm_cs f4 f7 j 1 K (bm_cs f4 f7 j 2 K (0, w)))).1)), (5, .int ((bm_cs f4 f7 j 0 (k + 1) (bm_cs f4 f7 j 1 K (bm_cs f4 f7 j 2 K (0, w)))).2)), (6, .int 0), (7, .int (bm_w 0)), (8, .int (nI (k + 1)))] := lv_sub hl [3, 4, 2, 1, 5, 6, 0] rfl
                  exact ih (k + 1) ls _ _ (by omega) hl hz hM hS
          exact loop K 0 ls _ _ (by omega) hl hz hM hS
        | succ n ih =>
          intro k ls H locs hi hl hz hM hS
          refine lv_iload hx hb dB_choose_60 (lv_at hl 6 rfl) ?_
          refine lv_aload_n hx hb dB_choose_62 rfl (lv_at hl 1 rfl) ?_
          refine bm_get (ci := 0) (v := .int (nI K)) (C := "BlindMint$Account") (T := bt_A) (N := 3) hx hb hts bu_A hown hK hM g2 rfl 2 (by decide) (hts _ bw_100) (fun _ h9 => h9) rfl dB_choose_63 ?_
          refine lv_icmp_ge (tgt := 109) hx hb dB_choose_66 rfl (fun h66 => absurd h66 (nI_ge (by omega) (by omega))) (fun h66 => ?_)
          refine lv_aload_n hx hb dB_choose_69 rfl (lv_at hl 1 rfl) ?_
          refine lv_iload hx hb dB_choose_70 (lv_at hl 6 rfl) ?_
          refine lv_iload hx hb dB_choose_72 (lv_at hl 4 rfl) ?_
          have hk9 : k < K := by omega
          refine bm_callE (va_runV (As := [.int (nI k), .int 1]) (rest := []) ⟨hx, hb, hml, hown, hts⟩ (bc_A_hasUnspent l D ct base ad M sz (x + (13 + 2 * j)) (x + (14 + 2 * j)) k (co k) (t1 k) (t0 k) 0 bal (nI K) (f4 (8 * j + k)) (f7 (8 * j + k)) 1 (nu k) (sg k) wf g2 g3 (hco k hk9) (by omega) (hwf k hk9)) (cwV 2 hts (bm_goodV bw_452 bw_453 bw_454 bw_4 bw_455) rfl rfl rfl (by decide +kernel) (by rw [← hR]; exact ⟨Nat.le_of_ble_eq_true rfl, Nat.le_of_ble_eq_true rfl⟩)) (bm_preV hM hG hS hz g2 rfl) rfl rfl hl.1 rfl (lv_room (Nat.le_of_ble_eq_true rfl)) dB_choose_74 (by rw [← hR]; exact ⟨Nat.le_of_ble_eq_true rfl, Nat.le_of_ble_eq_true rfl⟩)) hS (fun H locs hz hM hS => ?_)
          refine lv_if_eq (tgt := 103) hx hb dB_choose_77 rfl (fun h77 => ?_) (fun h77 => ?_)
          · have hl : lv_has ls 9 [(0, .ref x), (3, .ref (x + (13 + 2 * j))), (4, .int ((bm_cs f4 f7 j 1 (k + 1) (bm_cs f4 f7 j 2 K (0, w))).1)), (5, .int ((bm_cs f4 f7 j 1 (k + 1) (bm_cs f4 f7 j 2 K (0, w))).2)), (6, .int 1), (7, .int (bm_w 1)), (8, .int (nI k))] := by rw [show bm_cs f4 f7 j 1 (k + 1) (bm_cs f4 f7 j 2 K (0, w)) = _ from bm_cs_n2 (fun q => bm_hu_z h77 ⟨q.1, q.2.1⟩)]; exact hl
            refine lv_iinc (v := nI (k + 1)) (k := 6) hx hb dB_choose_103 hl rfl (bm_inc k) (by decide) rfl (fun ls hl => ?_)
            have hl : lv_has ls 9 [(8, .int (nI (k + 1))), (0, .ref x), (3, .ref (x + (13 + 2 * j))), (4, .int ((bm_cs f4 f7 j 1 (k + 1) (bm_cs f4 f7 j 2 K (0, w))).1)), (5, .int ((bm_cs f4 f7 j 1 (k + 1) (bm_cs f4 f7 j 2 K (0, w))).2)), (6, .int 1), (7, .int (bm_w 1))] := hl
            refine lv_goto (tgt := 60) hx hb dB_choose_106 rfl ?_
            have hl : lv_has ls 9 [(0, .ref x), (3, .ref (x + (13 + 2 * j))), (4, .int ((bm_cs f4 f7 j 1 (k + 1) (bm_cs f4 f7 j 2 K (0, w))).1)), (5, .int ((bm_cs f4 f7 j 1 (k + 1) (bm_cs f4 f7 j 2 K (0, w))).2)), (6, .int 1), (7, .int (bm_w 1)), (8, .int (nI (k + 1)))] := lv_sub hl [1, 2, 3, 4, 5, 6, 0] rfl
            exact ih (k + 1) ls _ _ (by omega) hl hz hM hS
          · refine lv_iload hx hb dB_choose_80 (lv_at hl 5 rfl) ?_
            refine lv_iload hx hb dB_choose_82 (lv_at hl 3 rfl) ?_
            refine lv_icmp_gt (tgt := 103) hx hb dB_choose_84 rfl (fun h84 => ?_) (fun h84 => ?_)
            · have hl : lv_has ls 9 [(0, .ref x), (3, .ref (x + (13 + 2 * j))), (4, .int ((bm_cs f4 f7 j 1 (k + 1) (bm_cs f4 f7 j 2 K (0, w))).1)), (5, .int ((bm_cs f4 f7 j 1 (k + 1) (bm_cs f4 f7 j 2 K (0, w))).2)), (6, .int 1), (7, .int (bm_w 1)), (8, .int (nI k))] := by rw [show bm_cs f4 f7 j 1 (k + 1) (bm_cs f4 f7 j 2 K (0, w)) = _ from bm_cs_n2 (fun q => q.2.2 h84)]; exact hl
              refine lv_iinc (v := nI (k + 1)) (k := 6) hx hb dB_choose_103 hl rfl (bm_inc k) (by decide) rfl (fun ls hl => ?_)
              have hl : lv_has ls 9 [(8, .int (nI (k + 1))), (0, .ref x), (3, .ref (x + (13 + 2 * j))), (4, .int ((bm_cs f4 f7 j 1 (k + 1) (bm_cs f4 f7 j 2 K (0, w))).1)), (5, .int ((bm_cs f4 f7 j 1 (k + 1) (bm_cs f4 f7 j 2 K (0, w))).2)), (6, .int 1), (7, .int (bm_w 1))] := hl
              refine lv_goto (tgt := 60) hx hb dB_choose_106 rfl ?_
              have hl : lv_has ls 9 [(0, .ref x), (3, .ref (x + (13 + 2 * j))), (4, .int ((bm_cs f4 f7 j 1 (k + 1) (bm_cs f4 f7 j 2 K (0, w))).1)), (5, .int ((bm_cs f4 f7 j 1 (k + 1) (bm_cs f4 f7 j 2 K (0, w))).2)), (6, .int 1), (7, .int (bm_w 1)), (8, .int (nI (k + 1)))] := lv_sub hl [1, 2, 3, 4, 5, 6, 0] rfl
              exact ih (k + 1) ls _ _ (by omega) hl hz hM hS
            · refine lv_iload hx hb dB_choose_87 (lv_at hl 2 rfl) ?_
              refine lv_iconst (v := 1) hx hb dB_choose_89 (by decide) ?_
              refine lv_iload hx hb dB_choose_90 (lv_at hl 6 rfl) ?_
              refine lv_ishl hx hb dB_choose_92 ?_
              refine lv_ior hx hb dB_choose_93 ?_
              refine lv_istore hx hb dB_choose_94 hl (by decide) rfl (fun ls hl => ?_)
              have hl : lv_has ls 9 [(4, .int (((bm_cs f4 f7 j 1 k (bm_cs f4 f7 j 2 K (0, w))).1) ||| (1 <<< ((nI k) &&& 31)))), (0, .ref x), (3, .ref (x + (13 + 2 * j))), (5, .int ((bm_cs f4 f7 j 1 k (bm_cs f4 f7 j 2 K (0, w))).2)), (6, .int 1), (7, .int (bm_w 1)), (8, .int (nI k))] := hl
              refine lv_iload hx hb dB_choose_96 (lv_at hl 3 rfl) ?_
              refine lv_iload hx hb dB_choose_98 (lv_at hl 5 rfl) ?_
              refine lv_isub hx hb dB_choose_100 ?_
              refine lv_istore hx hb dB_choose_101 hl (by decide) rfl (fun ls hl => ?_)
              have hl : lv_has ls 9 [(5, .int (((bm_cs f4 f7 j 1 k (bm_cs f4 f7 j 2 K (0, w))).2) - (bm_w 1))), (4, .int (((bm_cs f4 f7 j 1 k (bm_cs f4 f7 j 2 K (0, w))).1) ||| (1 <<< ((nI k) &&& 31)))), (0, .ref x), (3, .ref (x + (13 + 2 * j))), (6, .int 1), (7, .int (bm_w 1)), (8, .int (nI k))] := hl
              have hl : lv_has ls 9 [(5, .int ((bm_cs f4 f7 j 1 (k + 1) (bm_cs f4 f7 j 2 K (0, w))).2)), (4, .int ((bm_cs f4 f7 j 1 (k + 1) (bm_cs f4 f7 j 2 K (0, w))).1)), (0, .ref x), (3, .ref (x + (13 + 2 * j))), (6, .int 1), (7, .int (bm_w 1)), (8, .int (nI k))] := by rw [show bm_cs f4 f7 j 1 (k + 1) (bm_cs f4 f7 j 2 K (0, w)) = _ from bm_cs_y (bm_hu_nz h77).1 (bm_hu_nz h77).2 h84]; exact hl
              refine lv_iinc (v := nI (k + 1)) (k := 6) hx hb dB_choose_103 hl rfl (bm_inc k) (by decide) rfl (fun ls hl => ?_)
              have hl : lv_has ls 9 [(8, .int (nI (k + 1))), (5, .int ((bm_cs f4 f7 j 1 (k + 1) (bm_cs f4 f7 j 2 K (0, w))).2)), (4, .int ((bm_cs f4 f7 j 1 (k + 1) (bm_cs f4 f7 j 2 K (0, w))).1)), (0, .ref x), (3, .ref (x + (13 + 2 * j))), (6, .int 1), (7, .int (bm_w 1))] := hl
              refine lv_goto (tgt := 60) hx hb dB_choose_106 rfl ?_
              have hl : lv_has ls 9 [(0, .ref x), (3, .ref (x + (13 + 2 * j))), (4, .int ((bm_cs f4 f7 j 1 (k + 1) (bm_cs f4 f7 j 2 K (0, w))).1)), (5, .int ((bm_cs f4 f7 j 1 (k + 1) (bm_cs f4 f7 j 2 K (0, w))).2)), (6, .int 1), (7, .int (bm_w 1)), (8, .int (nI (k + 1)))] := lv_sub hl [3, 4, 2, 1, 5, 6, 0] rfl
              exact ih (k + 1) ls _ _ (by omega) hl hz hM hS
      exact loop K 0 ls _ _ (by omega) hl hz hM hS
    | succ n ih =>
      intro k ls H locs hi hl hz hM hS
      refine lv_iload hx hb dB_choose_60 (lv_at hl 6 rfl) ?_
      refine lv_aload_n hx hb dB_choose_62 rfl (lv_at hl 1 rfl) ?_
      refine bm_get (ci := 0) (v := .int (nI K)) (C := "BlindMint$Account") (T := bt_A) (N := 3) hx hb hts bu_A hown hK hM g2 rfl 2 (by decide) (hts _ bw_100) (fun _ h9 => h9) rfl dB_choose_63 ?_
      refine lv_icmp_ge (tgt := 109) hx hb dB_choose_66 rfl (fun h66 => absurd h66 (nI_ge (by omega) (by omega))) (fun h66 => ?_)
      refine lv_aload_n hx hb dB_choose_69 rfl (lv_at hl 1 rfl) ?_
      refine lv_iload hx hb dB_choose_70 (lv_at hl 6 rfl) ?_
      refine lv_iload hx hb dB_choose_72 (lv_at hl 4 rfl) ?_
      have hk9 : k < K := by omega
      refine bm_callE (va_runV (As := [.int (nI k), .int 2]) (rest := []) ⟨hx, hb, hml, hown, hts⟩ (bc_A_hasUnspent l D ct base ad M sz (x + (13 + 2 * j)) (x + (14 + 2 * j)) k (co k) (t1 k) (t0 k) 0 bal (nI K) (f4 (8 * j + k)) (f7 (8 * j + k)) 2 (nu k) (sg k) wf g2 g3 (hco k hk9) (by omega) (hwf k hk9)) (cwV 2 hts (bm_goodV bw_452 bw_453 bw_454 bw_4 bw_455) rfl rfl rfl (by decide +kernel) (by rw [← hR]; exact ⟨Nat.le_of_ble_eq_true rfl, Nat.le_of_ble_eq_true rfl⟩)) (bm_preV hM hG hS hz g2 rfl) rfl rfl hl.1 rfl (lv_room (Nat.le_of_ble_eq_true rfl)) dB_choose_74 (by rw [← hR]; exact ⟨Nat.le_of_ble_eq_true rfl, Nat.le_of_ble_eq_true rfl⟩)) hS (fun H locs hz hM hS => ?_)
      refine lv_if_eq (tgt := 103) hx hb dB_choose_77 rfl (fun h77 => ?_) (fun h77 => ?_)
      · have hl : lv_has ls 9 [(0, .ref x), (3, .ref (x + (13 + 2 * j))), (4, .int ((bm_cs f4 f7 j 2 (k + 1) (0, w)).1)), (5, .int ((bm_cs f4 f7 j 2 (k + 1) (0, w)).2)), (6, .int 2), (7, .int (bm_w 2)), (8, .int (nI k))] := by rw [show bm_cs f4 f7 j 2 (k + 1) (0, w) = _ from bm_cs_n2 (fun q => bm_hu_z h77 ⟨q.1, q.2.1⟩)]; exact hl
        refine lv_iinc (v := nI (k + 1)) (k := 6) hx hb dB_choose_103 hl rfl (bm_inc k) (by decide) rfl (fun ls hl => ?_)
        have hl : lv_has ls 9 [(8, .int (nI (k + 1))), (0, .ref x), (3, .ref (x + (13 + 2 * j))), (4, .int ((bm_cs f4 f7 j 2 (k + 1) (0, w)).1)), (5, .int ((bm_cs f4 f7 j 2 (k + 1) (0, w)).2)), (6, .int 2), (7, .int (bm_w 2))] := hl
        refine lv_goto (tgt := 60) hx hb dB_choose_106 rfl ?_
        have hl : lv_has ls 9 [(0, .ref x), (3, .ref (x + (13 + 2 * j))), (4, .int ((bm_cs f4 f7 j 2 (k + 1) (0, w)).1)), (5, .int ((bm_cs f4 f7 j 2 (k + 1) (0, w)).2)), (6, .int 2), (7, .int (bm_w 2)), (8, .int (nI (k + 1)))] := lv_sub hl [1, 2, 3, 4, 5, 6, 0] rfl
        exact ih (k + 1) ls _ _ (by omega) hl hz hM hS
      · refine lv_iload hx hb dB_choose_80 (lv_at hl 5 rfl) ?_
        refine lv_iload hx hb dB_choose_82 (lv_at hl 3 rfl) ?_
        refine lv_icmp_gt (tgt := 103) hx hb dB_choose_84 rfl (fun h84 => ?_) (fun h84 => ?_)
        · have hl : lv_has ls 9 [(0, .ref x), (3, .ref (x + (13 + 2 * j))), (4, .int ((bm_cs f4 f7 j 2 (k + 1) (0, w)).1)), (5, .int ((bm_cs f4 f7 j 2 (k + 1) (0, w)).2)), (6, .int 2), (7, .int (bm_w 2)), (8, .int (nI k))] := by rw [show bm_cs f4 f7 j 2 (k + 1) (0, w) = _ from bm_cs_n2 (fun q => q.2.2 h84)]; exact hl
          refine lv_iinc (v := nI (k + 1)) (k := 6) hx hb dB_choose_103 hl rfl (bm_inc k) (by decide) rfl (fun ls hl => ?_)
          have hl : lv_has ls 9 [(8, .int (nI (k + 1))), (0, .ref x), (3, .ref (x + (13 + 2 * j))), (4, .int ((bm_cs f4 f7 j 2 (k + 1) (0, w)).1)), (5, .int ((bm_cs f4 f7 j 2 (k + 1) (0, w)).2)), (6, .int 2), (7, .int (bm_w 2))] := hl
          refine lv_goto (tgt := 60) hx hb dB_choose_106 rfl ?_
          have hl : lv_has ls 9 [(0, .ref x), (3, .ref (x + (13 + 2 * j))), (4, .int ((bm_cs f4 f7 j 2 (k + 1) (0, w)).1)), (5, .int ((bm_cs f4 f7 j 2 (k + 1) (0, w)).2)), (6, .int 2), (7, .int (bm_w 2)), (8, .int (nI (k + 1)))] := lv_sub hl [1, 2, 3, 4, 5, 6, 0] rfl
          exact ih (k + 1) ls _ _ (by omega) hl hz hM hS
        · refine lv_iload hx hb dB_choose_87 (lv_at hl 2 rfl) ?_
          refine lv_iconst (v := 1) hx hb dB_choose_89 (by decide) ?_
          refine lv_iload hx hb dB_choose_90 (lv_at hl 6 rfl) ?_
          refine lv_ishl hx hb dB_choose_92 ?_
          refine lv_ior hx hb dB_choose_93 ?_
          refine lv_istore hx hb dB_choose_94 hl (by decide) rfl (fun ls hl => ?_)
          have hl : lv_has ls 9 [(4, .int (((bm_cs f4 f7 j 2 k (0, w)).1) ||| (1 <<< ((nI k) &&& 31)))), (0, .ref x), (3, .ref (x + (13 + 2 * j))), (5, .int ((bm_cs f4 f7 j 2 k (0, w)).2)), (6, .int 2), (7, .int (bm_w 2)), (8, .int (nI k))] := hl
          refine lv_iload hx hb dB_choose_96 (lv_at hl 3 rfl) ?_
          refine lv_iload hx hb dB_choose_98 (lv_at hl 5 rfl) ?_
          refine lv_isub hx hb dB_choose_100 ?_
          refine lv_istore hx hb dB_choose_101 hl (by decide) rfl (fun ls hl => ?_)
          have hl : lv_has ls 9 [(5, .int (((bm_cs f4 f7 j 2 k (0, w)).2) - (bm_w 2))), (4, .int (((bm_cs f4 f7 j 2 k (0, w)).1) ||| (1 <<< ((nI k) &&& 31)))), (0, .ref x), (3, .ref (x + (13 + 2 * j))), (6, .int 2), (7, .int (bm_w 2)), (8, .int (nI k))] := hl
          have hl : lv_has ls 9 [(5, .int ((bm_cs f4 f7 j 2 (k + 1) (0, w)).2)), (4, .int ((bm_cs f4 f7 j 2 (k + 1) (0, w)).1)), (0, .ref x), (3, .ref (x + (13 + 2 * j))), (6, .int 2), (7, .int (bm_w 2)), (8, .int (nI k))] := by rw [show bm_cs f4 f7 j 2 (k + 1) (0, w) = _ from bm_cs_y (bm_hu_nz h77).1 (bm_hu_nz h77).2 h84]; exact hl
          refine lv_iinc (v := nI (k + 1)) (k := 6) hx hb dB_choose_103 hl rfl (bm_inc k) (by decide) rfl (fun ls hl => ?_)
          have hl : lv_has ls 9 [(8, .int (nI (k + 1))), (5, .int ((bm_cs f4 f7 j 2 (k + 1) (0, w)).2)), (4, .int ((bm_cs f4 f7 j 2 (k + 1) (0, w)).1)), (0, .ref x), (3, .ref (x + (13 + 2 * j))), (6, .int 2), (7, .int (bm_w 2))] := hl
          refine lv_goto (tgt := 60) hx hb dB_choose_106 rfl ?_
          have hl : lv_has ls 9 [(0, .ref x), (3, .ref (x + (13 + 2 * j))), (4, .int ((bm_cs f4 f7 j 2 (k + 1) (0, w)).1)), (5, .int ((bm_cs f4 f7 j 2 (k + 1) (0, w)).2)), (6, .int 2), (7, .int (bm_w 2)), (8, .int (nI (k + 1)))] := lv_sub hl [3, 4, 2, 1, 5, 6, 0] rfl
          exact ih (k + 1) ls _ _ (by omega) hl hz hM hS
  exact loop K 0 ls _ _ (by omega) hl hz hM hS
set_option maxHeartbeats 4000000 in
set_option maxRecDepth 100000 in
theorem bc_B_withdraw_t6 (l : Launch) (hlt : l.stackTraces = false) (D : va_G) (ct : Nat → ClassId) (base : Nat) (ad : Nat → Nat) (M : bm_Map) (sz : Nat) (x : Nat) (pc lt wc dc fc rc : Int32) (lb : Int64) (lc : Value) (j d k n : Nat) (bal ch fo so : Int32) (ac wf cf pt : Nat → Option Nat) (h : Nat → Int64) (seed : Int64) (vA vC vE vB vX vY vP : Nat → Int64) (h0 : M x = some (.inr (6, [.ref (x + 1), .ref (x + 2), .ref (x + 11), .int pc, .ref (x + 12), lc, .int lt, .long lb, .int wc, .int dc, .int fc, .int rc]))) (g1 : M (x + 1) = some (.inl (ct 3, 4, .inr (.inr (.inr (.inr ac)))))) (g2 : M (x + (13 + 2 * j)) = some (.inr (0, [.int bal, .ref (x + (14 + 2 * j)), .int (nI k)]))) (g3 : M (x + (14 + 2 * j)) = some (.inl (ct 6, 8, .inr (.inr (.inr (.inr wf)))))) (g4 : M (x + 12) = some (.inl (ct 1, 4, .inr (.inl h)))) (g5 : M (x + 2) = some (.inr (5, [.ref (x + 3), .ref (x + 4), .int fo, .int so]))) (g6 : M (x + 3) = some (.inl (ct 5, 6, .inr (.inr (.inr (.inr cf)))))) (g7 : M (x + 4) = some (.inl (ct 5, 4, .inr (.inr (.inr (.inr pt)))))) (hac : ∀ a, a < 4 → ac a = some (x + (13 + 2 * a))) (hxz : x + 21 ≤ sz) (hcM : ∀ j0, j0 < 6 → M (x + 2 + (3 + j0)) = some (.inr (1, [.long (vA j0), .long (vC j0), .long (vE j0), .long (vB j0), .long (vX j0), .long (vY j0), .long (vP j0)]))) (hcf : ∀ j0, j0 < 6 → cf j0 = some (x + 2 + (3 + j0))) (hj : j < 4) (hd : d < 3) (hc64 : bm_bl ch 64 = 1) (hk : k < 8) (hrich : ¬ bal < bm_w d) (ht : bm_tt (bm_zqp seed (lN (1000 + j)) ch) = lN n) (hn : n < 2 ^ 59) (hcaught : ¬ bm_nh (bm_hd (bm_ca seed (bm_o1 n)) (bm_zqb seed (lN (1000 + j)) ch (bm_o1 n)) (lN (1000 + j))) + bm_nh (bm_hd (bm_ca seed (bm_o2 n)) (bm_zqb seed (lN (1000 + j)) ch (bm_o2 n)) (lN (1000 + j))) ≤ 0) : bm_MG l yB_withdraw (bm_ws yB_withdraw cB_withdraw 11 (some .int)) { frames := 6, cells := 1, slots := 6, locals := 157 } (bm_Pre D ct base ad M sz [.ref x, .int (nI j), .int (nI d), .long seed, .int ch]) (bm_PostT D base "java/lang/IllegalStateException" (fun M1 n9 => n9 = sz + 1 ∧ ∃ wp : Nat → Option Nat, M1 x = some (.inr (6, [.ref (x + 1), .ref (x + 2), .ref (x + 11), .int pc, .ref (x + 12), lc, .int lt, .long lb, .int wc, .int dc, .int (fc + (bm_nh (bm_hd (bm_ca seed (bm_o1 n)) (bm_zqb seed (lN (1000 + j)) ch (bm_o1 n)) (lN (1000 + j))) + bm_nh (bm_hd (bm_ca seed (bm_o2 n)) (bm_zqb seed (lN (1000 + j)) ch (bm_o2 n)) (lN (1000 + j))))), .int rc])) ∧ M1 (x + 2) = some (.inr (5, [.ref (x + 3), .ref (x + 4), .int (nI (bm_o1 n)), .int (nI (bm_o2 n))])) ∧ M1 (x + 4) = some (.inl (ct 5, 4, .inr (.inr (.inr (.inr wp))))) ∧ (∀ j0, j0 < 6 → M1 (x + 2 + (3 + j0)) = some (.inr (1, [.long (bm_ca seed j0), .long (bm_cc seed j0), .long (bm_ce seed j0), .long (bm_zqb seed (lN (1000 + j)) ch j0), .long (bm_zqx seed j0), .long (bm_zqy seed (lN (1000 + j)) ch j0), .long (bm_zqp seed (lN (1000 + j)) ch j0)]))) ∧ M1 (x + (13 + 2 * j)) = some (.inr (0, [.int (bal - 1), .ref (x + (14 + 2 * j)), .int (nI k)])) ∧ M1 (x + (14 + 2 * j)) = some (.inl (ct 6, 8, .inr (.inr (.inr (.inr wf))))) ∧ M1 (x + 12) = some (.inl (ct 1, 4, .inr (.inl h))) ∧ ∀ b, b ≠ x → b ≠ x + 12 → b ≠ x + (13 + 2 * j) → b ≠ x + (14 + 2 * j) → (b < x + 2 ∨ x + 11 ≤ b ∨ b = x + 3) → b < sz → M1 b = M b)) 1 6 (bm_A base) := by
  refine bm_ofT hlt (cc := cB_withdraw) (maxL := 11) (ret := (some .int)) (by decide +kernel) (Nat.le_of_ble_eq_true rfl) ?_
  intro vp ve s vm args below meth vc hx hb hr hlk hts hown hml hnm ls hl hz hM hG R Q hR hQ hT
  have hown : s.vm.findClass "BlindMint" = some vm.cls := hown
  have hK := hG.K
  have hS : va_S (bm_A base) s.heap s.heap [] := va_S.rf
  have hl : lv_has ls 11 [(0, .ref x), (1, .int (nI j)), (2, .int (nI d)), (3, .long seed), (5, .int ch)] := hl
  have hF : ∀ b, b ≠ x → b ≠ x + 12 → b ≠ x + (13 + 2 * j) → b ≠ x + (14 + 2 * j) → (b < x + 2 ∨ x + 11 ≤ b ∨ b = x + 3) → b < sz → M b = M b := fun _ _ _ _ _ _ _ => rfl
  refine lv_iload_n hx hb dB_withdraw_0 rfl (lv_at hl 1 rfl) ?_
  refine bm_callE (va_runS (As := [.int (nI j)]) (rest := []) ⟨hx, hb, hml, hown, hts⟩ (bc_B_isAccount l D ct base ad M sz (nI j)) (va_cwS 1 hts (bm_goodS bw_221 bw_222 bw_1 bw_223) rfl rfl rfl (by decide +kernel) (by rw [← hR]; exact ⟨Nat.le_of_ble_eq_true rfl, Nat.le_of_ble_eq_true rfl⟩)) (bm_preS hM hG hS hz) rfl rfl hl.1 rfl (lv_room (Nat.le_of_ble_eq_true rfl)) dB_withdraw_1 (by rw [← hR]; exact ⟨Nat.le_of_ble_eq_true rfl, Nat.le_of_ble_eq_true rfl⟩)) hS (fun H locs hz hM hS => ?_)
  refine lv_if_eq (tgt := 27) hx hb dB_withdraw_4 rfl (fun h4 => absurd h4 (by rw [show bm_bl (nI j) 4 = 1 from (bm_bl_nI (N := 4) hj (by decide))]; decide)) (fun h4 => ?_)
  refine lv_iload_n hx hb dB_withdraw_7 rfl (lv_at hl 2 rfl) ?_
  refine lv_i2l (v := lN d) hx hb dB_withdraw_8 (nI_l (by omega)) ?_
  refine bm_callE (va_runS (As := [.long (lN d)]) (rest := []) ⟨hx, hb, hml, hown, hts⟩ (bc_B_isDenomination l D ct base ad M sz (lN d)) (va_cwS 1 hts (bm_goodS bw_162 bw_163 bw_1 bw_164) rfl rfl rfl (by decide +kernel) (by rw [← hR]; exact ⟨Nat.le_of_ble_eq_true rfl, Nat.le_of_ble_eq_true rfl⟩)) (bm_preS hM hG hS hz) rfl rfl hl.1 rfl (lv_room (Nat.le_of_ble_eq_true rfl)) dB_withdraw_9 (by rw [← hR]; exact ⟨Nat.le_of_ble_eq_true rfl, Nat.le_of_ble_eq_true rfl⟩)) hS (fun H locs hz hM hS => ?_)
  refine lv_if_eq (tgt := 27) hx hb dB_withdraw_12 rfl (fun h12 => absurd h12 (by rw [bm_bL_d hd]; decide)) (fun h12 => ?_)
  refine lv_iload hx hb dB_withdraw_15 (lv_at hl 4 rfl) ?_
  refine lv_if_lt (tgt := 27) hx hb dB_withdraw_17 rfl (fun h17 => absurd h17 (bm_bl_64 hc64).1) (fun h17 => ?_)
  refine lv_iload hx hb dB_withdraw_20 (lv_at hl 4 rfl) ?_
  refine lv_bipush (v := 63) hx hb dB_withdraw_22 (by decide) ?_
  refine lv_icmp_le (tgt := 35) hx hb dB_withdraw_24 rfl (fun h24 => ?_) (fun h24 => absurd (bm_bl_64 hc64).2 h24)
  refine lv_aload_n hx hb dB_withdraw_35 rfl (lv_at hl 0 rfl) ?_
  refine bm_get (ci := 6) (v := .ref (x + 1)) (C := "BlindMint") (T := bt_B) (N := 12) hx hb hts bu_B hown hK hM h0 rfl 0 (by decide) (hts _ bw_109) (fun _ h9 => h9) rfl dB_withdraw_36 ?_
  refine lv_iload_n hx hb dB_withdraw_39 rfl (lv_at hl 1 rfl) ?_
  refine bm_aald (v := .ref (x + (13 + 2 * j))) hx hb hK hM 3 g1 rfl j (bm_ix_nI (by omega)) (by omega) (by rw [hac j hj]; rfl) dB_withdraw_40 ?_
  refine lv_astore hx hb dB_withdraw_41 hl (by decide) rfl (fun ls hl => ?_)
  have hl : lv_has ls 11 [(6, .ref (x + (13 + 2 * j))), (0, .ref x), (1, .int (nI j)), (2, .int (nI d)), (3, .long seed), (5, .int ch)] := hl
  refine va_gets hx hb hG.2.2.2.1 hS hown (hts _ bw_165) (fun _ h9 => h9) dB_withdraw_43 ?_
  refine lv_iload_n hx hb dB_withdraw_46 rfl (lv_at hl 3 rfl) ?_
  refine bm_tq hx hb hG.2.2.2.2.1 hS d (bm_ix_nI (by omega)) (by omega) dB_withdraw_47 ?_
  refine va_getX (i := d) hx hb hG.2.2.2.2.2.2.1 (by omega) hS hown (hts _ bw_835) (fun _ h9 => h9) dB_withdraw_48 ?_
  refine lv_istore hx hb dB_withdraw_51 hl (by decide) rfl (fun ls hl => ?_)
  have hl : lv_has ls 11 [(7, .int (bm_w d)), (6, .ref (x + (13 + 2 * j))), (0, .ref x), (1, .int (nI j)), (2, .int (nI d)), (3, .long seed), (5, .int ch)] := hl
  refine lv_aload hx hb dB_withdraw_53 (lv_at hl 1 rfl) ?_
  refine bm_get (ci := 0) (v := .int bal) (C := "BlindMint$Account") (T := bt_A) (N := 3) hx hb hts bu_A hown hK hM g2 rfl 0 (by decide) (hts _ bw_96) (fun _ h9 => h9) rfl dB_withdraw_55 ?_
  refine lv_iload hx hb dB_withdraw_58 (lv_at hl 0 rfl) ?_
  refine lv_icmp_lt (tgt := 71) hx hb dB_withdraw_60 rfl (fun h60 => absurd h60 hrich) (fun h60 => ?_)
  refine lv_aload hx hb dB_withdraw_63 (lv_at hl 1 rfl) ?_
  refine bm_callE (va_runV (As := []) (rest := []) ⟨hx, hb, hml, hown, hts⟩ (bc_A_isWalletFull_n l D ct base ad M sz (x + (13 + 2 * j)) (x + (14 + 2 * j)) k bal g2 hk) (cwV 0 hts (bm_goodV bw_304 bw_305 bw_306 bw_4 bw_307) rfl rfl rfl (by decide +kernel) (by rw [← hR]; exact ⟨Nat.le_of_ble_eq_true rfl, Nat.le_of_ble_eq_true rfl⟩)) (bm_preV hM hG hS hz g2 rfl) rfl rfl hl.1 rfl (lv_room (Nat.le_of_ble_eq_true rfl)) dB_withdraw_65 (by rw [← hR]; exact ⟨Nat.le_of_ble_eq_true rfl, Nat.le_of_ble_eq_true rfl⟩)) hS (fun H locs hz hM hS => ?_)
  refine lv_if_eq (tgt := 79) hx hb dB_withdraw_68 rfl (fun _ => ?_) (fun h => absurd h (by decide))
  refine lv_sipush (v := 1000) hx hb dB_withdraw_79 (by decide) ?_
  refine lv_iload_n hx hb dB_withdraw_82 rfl (lv_at hl 3 rfl) ?_
  refine lv_iadd hx hb dB_withdraw_83 ?_
  refine lv_topi (fun t1 e_t1 => ?_)
  have e_t1 : t1 = nI (1000 + j) := by rw [e_t1]; exact nI_add 1000 j
  subst e_t1
  refine lv_i2l (v := lN (1000 + j)) hx hb dB_withdraw_84 (nI_l (by omega)) ?_
  refine lv_lstore hx hb dB_withdraw_85 hl (by decide) rfl (fun ls hl => ?_)
  have hl : lv_has ls 11 [(8, .long (lN (1000 + j))), (7, .int (bm_w d)), (6, .ref (x + (13 + 2 * j))), (0, .ref x), (1, .int (nI j)), (2, .int (nI d)), (3, .long seed), (5, .int ch)] := hl
  refine lv_aload_n hx hb dB_withdraw_87 rfl (lv_at hl 3 rfl) ?_
  refine bm_get (ci := 6) (v := .ref (x + 2)) (C := "BlindMint") (T := bt_B) (N := 12) hx hb hts bu_B hown hK hM h0 rfl 1 (by decide) (hts _ bw_110) (fun _ h9 => h9) rfl dB_withdraw_88 ?_
  refine lv_lload_n hx hb dB_withdraw_91 rfl (lv_at hl 6 rfl) ?_
  refine lv_lload hx hb dB_withdraw_92 (lv_at hl 0 rfl) ?_
  refine lv_iload hx hb dB_withdraw_94 (lv_at hl 7 rfl) ?_
  have hc0 : ∀ j0, j0 < 6 → M (x + 2 + (3 + j0)) = some (.inr (1, [.long (vA j0), .long (vC j0), .long (vE j0), .long (vB j0), .long (vX j0), .long (vY j0), .long (vP j0)])) := hcM
  refine bm_call (va_runV (As := [.long seed, .long (lN (1000 + j)), .int ch]) (rest := []) ⟨hx, hb, hml, hown, hts⟩ (bc_Q_make l D ct base ad M sz (x + 2) n seed (lN (1000 + j)) ch fo so cf pt vA vC vE vB vX vY vP g5 g6 g7 (hc0 0 (by decide)) (hc0 1 (by decide)) (hc0 2 (by decide)) (hc0 3 (by decide)) (hc0 4 (by decide)) (hc0 5 (by decide)) hcf ht hn) (cwV 3 hts (bm_goodV bw_323 bw_324 bw_325 bw_2 bw_326) rfl rfl rfl (by decide +kernel) (by rw [← hR]; exact ⟨Nat.le_of_ble_eq_true rfl, Nat.le_of_ble_eq_true rfl⟩)) (bm_preV hM hG hS hz g5 rfl) rfl rfl hl.1 rfl (lv_room (Nat.le_of_ble_eq_true rfl)) dB_withdraw_96 (by rw [← hR]; exact ⟨Nat.le_of_ble_eq_true rfl, Nat.le_of_ble_eq_true rfl⟩)) hS (fun v9 M2 H locs hq hM hS _ => ?_)
  obtain ⟨rfl, hz, wp, o, f0, f2, f3, p1, p2, p3, p4, hfr⟩ := hq
  replace h0 : M2 x = some (.inr (6, [.ref (x + 1), .ref (x + 2), .ref (x + 11), .int pc, .ref (x + 12), lc, .int lt, .long lb, .int wc, .int dc, .int fc, .int rc])) := by rw [hfr x (by omega)]; exact h0
  replace g1 : M2 (x + 1) = some (.inl (ct 3, 4, .inr (.inr (.inr (.inr ac))))) := by rw [hfr (x + 1) (by omega)]; exact g1
  replace g2 : M2 (x + (13 + 2 * j)) = some (.inr (0, [.int bal, .ref (x + (14 + 2 * j)), .int (nI k)])) := by rw [hfr (x + (13 + 2 * j)) (by omega)]; exact g2
  replace g3 : M2 (x + (14 + 2 * j)) = some (.inl (ct 6, 8, .inr (.inr (.inr (.inr wf))))) := by rw [hfr (x + (14 + 2 * j)) (by omega)]; exact g3
  replace g4 : M2 (x + 12) = some (.inl (ct 1, 4, .inr (.inl h))) := by rw [hfr (x + 12) (by omega)]; exact g4
  replace g6 : M2 (x + 3) = some (.inl (ct 5, 6, .inr (.inr (.inr (.inr cf))))) := by rw [hfr (x + 3) (by omega)]; exact g6
  replace f0 : M2 (x + 2) = some (.inr (5, [.ref (x + 3), .ref (x + 4), .int (nI (bm_o1 n)), .int (nI (bm_o2 n))])) := f0
  replace f2 : M2 (x + 4) = some (.inl (ct 5, 4, .inr (.inr (.inr (.inr wp))))) := f2
  replace hF : ∀ b, b ≠ x → b ≠ x + 12 → b ≠ x + (13 + 2 * j) → b ≠ x + (14 + 2 * j) → (b < x + 2 ∨ x + 11 ≤ b ∨ b = x + 3) → b < sz → M2 b = M b := fun b q1 q2 q3 q4 q5 q6 => (hfr b (by omega)).trans (hF b q1 q2 q3 q4 q5 q6)
  clear hfr
  refine lv_aload_n hx hb dB_withdraw_99 rfl (lv_at hl 3 rfl) ?_
  refine bm_get (ci := 6) (v := .ref (x + 2)) (C := "BlindMint") (T := bt_B) (N := 12) hx hb hts bu_B hown hK hM h0 rfl 1 (by decide) (hts _ bw_110) (fun _ h9 => h9) rfl dB_withdraw_100 ?_
  refine lv_lload hx hb dB_withdraw_103 (lv_at hl 0 rfl) ?_
  refine bm_callE (va_runV (As := [.long (lN (1000 + j))]) (rest := []) ⟨hx, hb, hml, hown, hts⟩ (bc_Q_openedCheats l D ct base ad M2 sz (x + 2) (bm_o1 n) (bm_o2 n) cf wp (bm_ca seed) (bm_cc seed) (bm_ce seed) (bm_zqb seed (lN (1000 + j)) ch) (bm_zqx seed) (bm_zqy seed (lN (1000 + j)) ch) (bm_zqp seed (lN (1000 + j)) ch) (lN (1000 + j)) f0 g6 hcf (Nat.mod_lt _ (by decide)) (Nat.mod_lt _ (by decide)) f3) (cwV 1 hts (bm_goodV bw_349 bw_350 bw_351 bw_2 bw_352) rfl rfl rfl (by decide +kernel) (by rw [← hR]; exact ⟨Nat.le_of_ble_eq_true rfl, Nat.le_of_ble_eq_true rfl⟩)) (bm_preV hM hG hS hz f0 rfl) rfl rfl hl.1 rfl (lv_room (Nat.le_of_ble_eq_true rfl)) dB_withdraw_105 (by rw [← hR]; exact ⟨Nat.le_of_ble_eq_true rfl, Nat.le_of_ble_eq_true rfl⟩)) hS (fun H locs hz hM hS => ?_)
  refine lv_istore hx hb dB_withdraw_108 hl (by decide) rfl (fun ls hl => ?_)
  have hl : lv_has ls 11 [(10, .int (bm_nh (bm_hd (bm_ca seed (bm_o1 n)) (bm_zqb seed (lN (1000 + j)) ch (bm_o1 n)) (lN (1000 + j))) + bm_nh (bm_hd (bm_ca seed (bm_o2 n)) (bm_zqb seed (lN (1000 + j)) ch (bm_o2 n)) (lN (1000 + j))))), (8, .long (lN (1000 + j))), (7, .int (bm_w d)), (6, .ref (x + (13 + 2 * j))), (0, .ref x), (1, .int (nI j)), (2, .int (nI d)), (3, .long seed), (5, .int ch)] := hl
  refine lv_iload hx hb dB_withdraw_110 (lv_at hl 0 rfl) ?_
  refine lv_if_le (tgt := 145) hx hb dB_withdraw_112 rfl (fun h112 => absurd h112 hcaught) (fun h112 => ?_)
  refine lv_aload hx hb dB_withdraw_115 (lv_at hl 3 rfl) ?_
  refine lv_dup hx hb dB_withdraw_117 rfl ?_
  refine bm_get (ci := 0) (v := .int bal) (C := "BlindMint$Account") (T := bt_A) (N := 3) hx hb hts bu_A hown hK hM g2 rfl 0 (by decide) (hts _ bw_96) (fun _ h9 => h9) rfl dB_withdraw_118 ?_
  refine lv_iconst (v := 1) hx hb dB_withdraw_121 (by decide) ?_
  refine lv_isub hx hb dB_withdraw_122 ?_
  refine bm_put (ci := 0) (v := .int (bal - 1)) (ty := .int) (C := "BlindMint$Account") (T := bt_A) (N := 3) hx hb hts bu_A by_A bo_A bn_A hown hK hM hS g2 rfl 0 (by decide) (hts _ bw_96) (fun _ h9 => h9) rfl (by decide +kernel) rfl rfl (Nat.le_of_ble_eq_true rfl) dB_withdraw_123 (fun H locs hz1 hM hS => ?_)
  replace hz := hz1.trans hz
  replace hM : bm_M D base (bm_up M2 (x + (13 + 2 * j)) (.inr (0, [.int (bal - 1), .ref (x + (14 + 2 * j)), .int (nI k)]))) H := hM
  obtain ⟨M3, eM3⟩ : ∃ X, X = bm_up M2 (x + (13 + 2 * j)) (.inr (0, [.int (bal - 1), .ref (x + (14 + 2 * j)), .int (nI k)])) := ⟨_, rfl⟩
  rw [← eM3] at hM
  replace h0 : M3 x = some (.inr (6, [.ref (x + 1), .ref (x + 2), .ref (x + 11), .int pc, .ref (x + 12), lc, .int lt, .long lb, .int wc, .int dc, .int fc, .int rc])) := by rw [eM3, bm_up_ne (by omega)]; exact h0
  replace g1 : M3 (x + 1) = some (.inl (ct 3, 4, .inr (.inr (.inr (.inr ac))))) := by rw [eM3, bm_up_ne (by omega)]; exact g1
  replace g3 : M3 (x + (14 + 2 * j)) = some (.inl (ct 6, 8, .inr (.inr (.inr (.inr wf))))) := by rw [eM3, bm_up_ne (by omega)]; exact g3
  replace g4 : M3 (x + 12) = some (.inl (ct 1, 4, .inr (.inl h))) := by rw [eM3, bm_up_ne (by omega)]; exact g4
  replace f0 : M3 (x + 2) = some (.inr (5, [.ref (x + 3), .ref (x + 4), .int (nI (bm_o1 n)), .int (nI (bm_o2 n))])) := by rw [eM3, bm_up_ne (by omega)]; exact f0
  replace g6 : M3 (x + 3) = some (.inl (ct 5, 6, .inr (.inr (.inr (.inr cf))))) := by rw [eM3, bm_up_ne (by omega)]; exact g6
  replace f2 : M3 (x + 4) = some (.inl (ct 5, 4, .inr (.inr (.inr (.inr wp))))) := by rw [eM3, bm_up_ne (by omega)]; exact f2
  replace g2 : M3 (x + (13 + 2 * j)) = some (.inr (0, [.int (bal - 1), .ref (x + (14 + 2 * j)), .int (nI k)])) := by rw [eM3]; exact bm_up_self _ _ _
  replace hF : ∀ b, b ≠ x → b ≠ x + 12 → b ≠ x + (13 + 2 * j) → b ≠ x + (14 + 2 * j) → (b < x + 2 ∨ x + 11 ≤ b ∨ b = x + 3) → b < sz → M3 b = M b := fun b q1 q2 q3 q4 q5 q6 => by rw [eM3]; exact (bm_up_ne (by omega)).trans (hF b q1 q2 q3 q4 q5 q6)
  replace f3 : ∀ j0, j0 < 6 → M3 (x + 2 + (3 + j0)) = some (.inr (1, [.long (bm_ca seed j0), .long (bm_cc seed j0), .long (bm_ce seed j0), .long (bm_zqb seed (lN (1000 + j)) ch j0), .long (bm_zqx seed j0), .long (bm_zqy seed (lN (1000 + j)) ch j0), .long (bm_zqp seed (lN (1000 + j)) ch j0)])) := fun j0 hj0 => by rw [eM3, bm_up_ne (by omega)]; exact f3 j0 hj0
  clear eM3
  refine lv_aload_n hx hb dB_withdraw_126 rfl (lv_at hl 4 rfl) ?_
  refine lv_dup hx hb dB_withdraw_127 rfl ?_
  refine bm_get (ci := 6) (v := .int fc) (C := "BlindMint") (T := bt_B) (N := 12) hx hb hts bu_B hown hK hM h0 rfl 10 (by decide) (hts _ bw_119) (fun _ h9 => h9) rfl dB_withdraw_128 ?_
  refine lv_iload hx hb dB_withdraw_131 (lv_at hl 0 rfl) ?_
  refine lv_iadd hx hb dB_withdraw_133 ?_
  refine bm_put (ci := 6) (v := .int (fc + (bm_nh (bm_hd (bm_ca seed (bm_o1 n)) (bm_zqb seed (lN (1000 + j)) ch (bm_o1 n)) (lN (1000 + j))) + bm_nh (bm_hd (bm_ca seed (bm_o2 n)) (bm_zqb seed (lN (1000 + j)) ch (bm_o2 n)) (lN (1000 + j)))))) (ty := .int) (C := "BlindMint") (T := bt_B) (N := 12) hx hb hts bu_B by_B bo_B bn_B hown hK hM hS h0 rfl 10 (by decide) (hts _ bw_119) (fun _ h9 => h9) rfl (by decide +kernel) rfl rfl (Nat.le_of_ble_eq_true rfl) dB_withdraw_134 (fun H locs hz1 hM hS => ?_)
  replace hz := hz1.trans hz
  replace hM : bm_M D base (bm_up M3 x (.inr (6, [.ref (x + 1), .ref (x + 2), .ref (x + 11), .int pc, .ref (x + 12), lc, .int lt, .long lb, .int wc, .int dc, .int (fc + (bm_nh (bm_hd (bm_ca seed (bm_o1 n)) (bm_zqb seed (lN (1000 + j)) ch (bm_o1 n)) (lN (1000 + j))) + bm_nh (bm_hd (bm_ca seed (bm_o2 n)) (bm_zqb seed (lN (1000 + j)) ch (bm_o2 n)) (lN (1000 + j))))), .int rc]))) H := hM
  obtain ⟨M4, eM4⟩ : ∃ X, X = bm_up M3 x (.inr (6, [.ref (x + 1), .ref (x + 2), .ref (x + 11), .int pc, .ref (x + 12), lc, .int lt, .long lb, .int wc, .int dc, .int (fc + (bm_nh (bm_hd (bm_ca seed (bm_o1 n)) (bm_zqb seed (lN (1000 + j)) ch (bm_o1 n)) (lN (1000 + j))) + bm_nh (bm_hd (bm_ca seed (bm_o2 n)) (bm_zqb seed (lN (1000 + j)) ch (bm_o2 n)) (lN (1000 + j))))), .int rc])) := ⟨_, rfl⟩
  rw [← eM4] at hM
  replace g1 : M4 (x + 1) = some (.inl (ct 3, 4, .inr (.inr (.inr (.inr ac))))) := by rw [eM4, bm_up_ne (by omega)]; exact g1
  replace g2 : M4 (x + (13 + 2 * j)) = some (.inr (0, [.int (bal - 1), .ref (x + (14 + 2 * j)), .int (nI k)])) := by rw [eM4, bm_up_ne (by omega)]; exact g2
  replace g3 : M4 (x + (14 + 2 * j)) = some (.inl (ct 6, 8, .inr (.inr (.inr (.inr wf))))) := by rw [eM4, bm_up_ne (by omega)]; exact g3
  replace g4 : M4 (x + 12) = some (.inl (ct 1, 4, .inr (.inl h))) := by rw [eM4, bm_up_ne (by omega)]; exact g4
  replace f0 : M4 (x + 2) = some (.inr (5, [.ref (x + 3), .ref (x + 4), .int (nI (bm_o1 n)), .int (nI (bm_o2 n))])) := by rw [eM4, bm_up_ne (by omega)]; exact f0
  replace g6 : M4 (x + 3) = some (.inl (ct 5, 6, .inr (.inr (.inr (.inr cf))))) := by rw [eM4, bm_up_ne (by omega)]; exact g6
  replace f2 : M4 (x + 4) = some (.inl (ct 5, 4, .inr (.inr (.inr (.inr wp))))) := by rw [eM4, bm_up_ne (by omega)]; exact f2
  replace h0 : M4 x = some (.inr (6, [.ref (x + 1), .ref (x + 2), .ref (x + 11), .int pc, .ref (x + 12), lc, .int lt, .long lb, .int wc, .int dc, .int (fc + (bm_nh (bm_hd (bm_ca seed (bm_o1 n)) (bm_zqb seed (lN (1000 + j)) ch (bm_o1 n)) (lN (1000 + j))) + bm_nh (bm_hd (bm_ca seed (bm_o2 n)) (bm_zqb seed (lN (1000 + j)) ch (bm_o2 n)) (lN (1000 + j))))), .int rc])) := by rw [eM4]; exact bm_up_self _ _ _
  replace hF : ∀ b, b ≠ x → b ≠ x + 12 → b ≠ x + (13 + 2 * j) → b ≠ x + (14 + 2 * j) → (b < x + 2 ∨ x + 11 ≤ b ∨ b = x + 3) → b < sz → M4 b = M b := fun b q1 q2 q3 q4 q5 q6 => by rw [eM4]; exact (bm_up_ne (by omega)).trans (hF b q1 q2 q3 q4 q5 q6)
  replace f3 : ∀ j0, j0 < 6 → M4 (x + 2 + (3 + j0)) = some (.inr (1, [.long (bm_ca seed j0), .long (bm_cc seed j0), .long (bm_ce seed j0), .long (bm_zqb seed (lN (1000 + j)) ch j0), .long (bm_zqx seed j0), .long (bm_zqy seed (lN (1000 + j)) ch j0), .long (bm_zqp seed (lN (1000 + j)) ch j0)])) := fun j0 hj0 => by rw [eM4, bm_up_ne (by omega)]; exact f3 j0 hj0
  clear eM4
  exact bm_throw hQ hx hb hlk hT hts hown hG hS hM ⟨by rw [hz], wp, h0, f0, f2, f3, g2, g3, g4, hF⟩ bm_kxS hl.1 hml dB_withdraw_137 dB_withdraw_140 dB_withdraw_141 dB_withdraw_144 (Nat.le_of_ble_eq_true rfl) (Nat.le_of_ble_eq_true rfl) (by rw [← hR]; exact ⟨Nat.le_of_ble_eq_true rfl, Nat.le_of_ble_eq_true rfl, Nat.le_of_ble_eq_true rfl, Nat.le_of_ble_eq_true rfl⟩)
set_option maxHeartbeats 4000000 in
set_option maxRecDepth 100000 in
theorem bc_B_deposit_t1 (l : Launch) (hlt : l.stackTraces = false) (D : va_G) (ct : Nat → ClassId) (base : Nat) (ad : Nat → Nat) (M : bm_Map) (sz : Nat) (x : Nat) (pc lt wc dc fc rc : Int32) (lb : Int64) (lc : Value) (v w : Int32) (h0 : M x = some (.inr (6, [.ref (x + 1), .ref (x + 2), .ref (x + 11), .int pc, .ref (x + 12), lc, .int lt, .long lb, .int wc, .int dc, .int fc, .int rc]))) (hv : bm_bl v pc = 0) : bm_MG l yB_deposit (bm_ws yB_deposit cB_deposit 6 (some .int)) { frames := 6, cells := 1, slots := 6, locals := 100 } (bm_Pre D ct base ad M sz [.ref x, .int v, .int w]) (bm_PostT D base "java/lang/IllegalArgumentException" (fun M1 n => M1 = M ∧ n = sz + 1)) 1 6 (bm_A base) := by
  refine bm_ofT hlt (cc := cB_deposit) (maxL := 6) (ret := (some .int)) (by decide +kernel) (Nat.le_of_ble_eq_true rfl) ?_
  intro vp ve s vm args below meth vc hx hb hr hlk hts hown hml hnm ls hl hz hM hG R Q hR hQ hT
  have hown : s.vm.findClass "BlindMint" = some vm.cls := hown
  have hK := hG.K
  have hS : va_S (bm_A base) s.heap s.heap [] := va_S.rf
  have hl : lv_has ls 6 [(0, .ref x), (1, .int v), (2, .int w)] := hl
  refine lv_aload_n hx hb dB_deposit_0 rfl (lv_at hl 0 rfl) ?_
  refine lv_iload_n hx hb dB_deposit_1 rfl (lv_at hl 1 rfl) ?_
  refine bm_callE (va_runV (As := [.int v]) (rest := []) ⟨hx, hb, hml, hown, hts⟩ (bc_B_findPayment_n l D ct base ad M sz x pc lt wc dc fc rc lb lc v h0 hv) (cwV 1 hts (bm_goodV bw_150 bw_152 bs_0 bw_1 bw_153) rfl rfl rfl (by decide +kernel) (by rw [← hR]; exact ⟨Nat.le_of_ble_eq_true rfl, Nat.le_of_ble_eq_true rfl⟩)) (bm_preV hM hG hS hz h0 rfl) rfl rfl hl.1 rfl (lv_room (Nat.le_of_ble_eq_true rfl)) dB_deposit_2 (by rw [← hR]; exact ⟨Nat.le_of_ble_eq_true rfl, Nat.le_of_ble_eq_true rfl⟩)) hS (fun H locs hz hM hS => ?_)
  refine lv_astore_nN hx hb dB_deposit_5 rfl hl (by decide) rfl (fun ls hl => ?_)
  have hl : lv_has ls 6 [(3, .null), (0, .ref x), (1, .int v), (2, .int w)] := hl
  refine lv_iload_n hx hb dB_deposit_6 rfl (lv_at hl 3 rfl) ?_
  refine bm_callE (va_runS (As := [.int w]) (rest := []) ⟨hx, hb, hml, hown, hts⟩ (bc_B_isAccount l D ct base ad M sz w) (va_cwS 1 hts (bm_goodS bw_221 bw_222 bw_1 bw_223) rfl rfl rfl (by decide +kernel) (by rw [← hR]; exact ⟨Nat.le_of_ble_eq_true rfl, Nat.le_of_ble_eq_true rfl⟩)) (bm_preS hM hG hS hz) rfl rfl hl.1 rfl (lv_room (Nat.le_of_ble_eq_true rfl)) dB_deposit_7 (by rw [← hR]; exact ⟨Nat.le_of_ble_eq_true rfl, Nat.le_of_ble_eq_true rfl⟩)) hS (fun H locs hz hM hS => ?_)
  refine lv_if_eq (tgt := 25) hx hb dB_deposit_10 rfl (fun h10 => ?_) (fun h10 => ?_)
  · exact bm_throw hQ hx hb hlk hT hts hown hG hS hM ⟨rfl, by rw [hz]⟩ bm_kxA hl.1 hml dB_deposit_25 dB_deposit_28 dB_deposit_29 dB_deposit_32 (Nat.le_of_ble_eq_true rfl) (Nat.le_of_ble_eq_true rfl) (by rw [← hR]; exact ⟨Nat.le_of_ble_eq_true rfl, Nat.le_of_ble_eq_true rfl, Nat.le_of_ble_eq_true rfl, Nat.le_of_ble_eq_true rfl⟩)
  · refine lv_aload_nN hx hb dB_deposit_13 rfl (lv_at hl 0 rfl) ?_
    refine lv_ifnullN (tgt := 25) hx hb dB_deposit_14 rfl ?_
    exact bm_throw hQ hx hb hlk hT hts hown hG hS hM ⟨rfl, by rw [hz]⟩ bm_kxA hl.1 hml dB_deposit_25 dB_deposit_28 dB_deposit_29 dB_deposit_32 (Nat.le_of_ble_eq_true rfl) (Nat.le_of_ble_eq_true rfl) (by rw [← hR]; exact ⟨Nat.le_of_ble_eq_true rfl, Nat.le_of_ble_eq_true rfl, Nat.le_of_ble_eq_true rfl, Nat.le_of_ble_eq_true rfl⟩)
set_option maxHeartbeats 4000000 in
set_option maxRecDepth 100000 in
theorem bc_B_deposit_t2 (l : Launch) (hlt : l.stackTraces = false) (D : va_G) (ct : Nat → ClassId) (base : Nat) (ad : Nat → Nat) (M : bm_Map) (sz : Nat) (x : Nat) (pc lt wc dc fc rc : Int32) (lb : Int64) (lc : Value) (k0 e : Nat) (w : Int32) (pa : Nat → Option Nat) (h0 : M x = some (.inr (6, [.ref (x + 1), .ref (x + 2), .ref (x + 11), .int pc, .ref (x + 12), lc, .int lt, .long lb, .int wc, .int dc, .int fc, .int rc]))) (g1 : M (x + 11) = some (.inl (ct 4, 20, .inr (.inr (.inr (.inr pa)))))) (hk : k0 < 20) (hv : bm_bl (nI k0) pc = 1) (hpa : pa k0 = some e) (hw : bm_bl w 4 = 0) : bm_MG l yB_deposit (bm_ws yB_deposit cB_deposit 6 (some .int)) { frames := 6, cells := 1, slots := 6, locals := 100 } (bm_Pre D ct base ad M sz [.ref x, .int (nI k0), .int w]) (bm_PostT D base "java/lang/IllegalArgumentException" (fun M1 n => M1 = M ∧ n = sz + 1)) 1 6 (bm_A base) := by
  refine bm_ofT hlt (cc := cB_deposit) (maxL := 6) (ret := (some .int)) (by decide +kernel) (Nat.le_of_ble_eq_true rfl) ?_
  intro vp ve s vm args below meth vc hx hb hr hlk hts hown hml hnm ls hl hz hM hG R Q hR hQ hT
  have hown : s.vm.findClass "BlindMint" = some vm.cls := hown
  have hK := hG.K
  have hS : va_S (bm_A base) s.heap s.heap [] := va_S.rf
  have hl : lv_has ls 6 [(0, .ref x), (1, .int (nI k0)), (2, .int w)] := hl
  refine lv_aload_n hx hb dB_deposit_0 rfl (lv_at hl 0 rfl) ?_
  refine lv_iload_n hx hb dB_deposit_1 rfl (lv_at hl 1 rfl) ?_
  refine bm_callE (va_runV (As := [.int (nI k0)]) (rest := []) ⟨hx, hb, hml, hown, hts⟩ (bc_B_findPayment_ok l D ct base ad M sz x pc lt wc dc fc rc lb lc k0 e pa h0 g1 hk hv hpa) (cwV 1 hts (bm_goodV bw_150 bw_152 bs_0 bw_1 bw_153) rfl rfl rfl (by decide +kernel) (by rw [← hR]; exact ⟨Nat.le_of_ble_eq_true rfl, Nat.le_of_ble_eq_true rfl⟩)) (bm_preV hM hG hS hz h0 rfl) rfl rfl hl.1 rfl (lv_room (Nat.le_of_ble_eq_true rfl)) dB_deposit_2 (by rw [← hR]; exact ⟨Nat.le_of_ble_eq_true rfl, Nat.le_of_ble_eq_true rfl⟩)) hS (fun H locs hz hM hS => ?_)
  refine lv_astore_n hx hb dB_deposit_5 rfl hl (by decide) rfl (fun ls hl => ?_)
  have hl : lv_has ls 6 [(3, .ref e), (0, .ref x), (1, .int (nI k0)), (2, .int w)] := hl
  refine lv_iload_n hx hb dB_deposit_6 rfl (lv_at hl 3 rfl) ?_
  refine bm_callE (va_runS (As := [.int w]) (rest := []) ⟨hx, hb, hml, hown, hts⟩ (bc_B_isAccount l D ct base ad M sz w) (va_cwS 1 hts (bm_goodS bw_221 bw_222 bw_1 bw_223) rfl rfl rfl (by decide +kernel) (by rw [← hR]; exact ⟨Nat.le_of_ble_eq_true rfl, Nat.le_of_ble_eq_true rfl⟩)) (bm_preS hM hG hS hz) rfl rfl hl.1 rfl (lv_room (Nat.le_of_ble_eq_true rfl)) dB_deposit_7 (by rw [← hR]; exact ⟨Nat.le_of_ble_eq_true rfl, Nat.le_of_ble_eq_true rfl⟩)) hS (fun H locs hz hM hS => ?_)
  refine lv_if_eq (tgt := 25) hx hb dB_deposit_10 rfl (fun h10 => ?_) (fun h10 => absurd hw h10)
  exact bm_throw hQ hx hb hlk hT hts hown hG hS hM ⟨rfl, by rw [hz]⟩ bm_kxA hl.1 hml dB_deposit_25 dB_deposit_28 dB_deposit_29 dB_deposit_32 (Nat.le_of_ble_eq_true rfl) (Nat.le_of_ble_eq_true rfl) (by rw [← hR]; exact ⟨Nat.le_of_ble_eq_true rfl, Nat.le_of_ble_eq_true rfl, Nat.le_of_ble_eq_true rfl, Nat.le_of_ble_eq_true rfl⟩)
set_option maxHeartbeats 4000000 in
set_option maxRecDepth 100000 in
theorem bc_B_deposit_t3 (l : Launch) (hlt : l.stackTraces = false) (D : va_G) (ct : Nat → ClassId) (base : Nat) (ad : Nat → Nat) (M : bm_Map) (sz : Nat) (x : Nat) (pc lt wc dc fc rc : Int32) (lb : Int64) (lc : Value) (k0 e b j : Nat) (pa : Nat → Option Nat) (f h : Nat → Int64) (h0 : M x = some (.inr (6, [.ref (x + 1), .ref (x + 2), .ref (x + 11), .int pc, .ref (x + 12), lc, .int lt, .long lb, .int wc, .int dc, .int fc, .int rc]))) (g1 : M (x + 11) = some (.inl (ct 4, 20, .inr (.inr (.inr (.inr pa)))))) (g2 : M (x + 12) = some (.inl (ct 1, 4, .inr (.inl h)))) (g3 : M e = some (.inr (4, [.ref b]))) (g4 : M b = some (.inl (ct 1, 16, .inr (.inl f)))) (hk : k0 < 20) (hv : bm_bl (nI k0) pc = 1) (hpa : pa k0 = some e) (hj : j < 4) (hbd : bm_bL (f 0) 3 = 0) : bm_MG l yB_deposit (bm_ws yB_deposit cB_deposit 6 (some .int)) { frames := 6, cells := 1, slots := 6, locals := 100 } (bm_Pre D ct base ad M sz [.ref x, .int (nI k0), .int (nI j)]) (bm_PostT D base "java/lang/IllegalArgumentException" (fun M1 n => M1 = M ∧ n = sz + 1)) 1 6 (bm_A base) := by
  refine bm_ofT hlt (cc := cB_deposit) (maxL := 6) (ret := (some .int)) (by decide +kernel) (Nat.le_of_ble_eq_true rfl) ?_
  intro vp ve s vm args below meth vc hx hb hr hlk hts hown hml hnm ls hl hz hM hG R Q hR hQ hT
  have hown : s.vm.findClass "BlindMint" = some vm.cls := hown
  have hK := hG.K
  have hS : va_S (bm_A base) s.heap s.heap [] := va_S.rf
  have hl : lv_has ls 6 [(0, .ref x), (1, .int (nI k0)), (2, .int (nI j))] := hl
  refine lv_aload_n hx hb dB_deposit_0 rfl (lv_at hl 0 rfl) ?_
  refine lv_iload_n hx hb dB_deposit_1 rfl (lv_at hl 1 rfl) ?_
  refine bm_callE (va_runV (As := [.int (nI k0)]) (rest := []) ⟨hx, hb, hml, hown, hts⟩ (bc_B_findPayment_ok l D ct base ad M sz x pc lt wc dc fc rc lb lc k0 e pa h0 g1 hk hv hpa) (cwV 1 hts (bm_goodV bw_150 bw_152 bs_0 bw_1 bw_153) rfl rfl rfl (by decide +kernel) (by rw [← hR]; exact ⟨Nat.le_of_ble_eq_true rfl, Nat.le_of_ble_eq_true rfl⟩)) (bm_preV hM hG hS hz h0 rfl) rfl rfl hl.1 rfl (lv_room (Nat.le_of_ble_eq_true rfl)) dB_deposit_2 (by rw [← hR]; exact ⟨Nat.le_of_ble_eq_true rfl, Nat.le_of_ble_eq_true rfl⟩)) hS (fun H locs hz hM hS => ?_)
  refine lv_astore_n hx hb dB_deposit_5 rfl hl (by decide) rfl (fun ls hl => ?_)
  have hl : lv_has ls 6 [(3, .ref e), (0, .ref x), (1, .int (nI k0)), (2, .int (nI j))] := hl
  refine lv_iload_n hx hb dB_deposit_6 rfl (lv_at hl 3 rfl) ?_
  refine bm_callE (va_runS (As := [.int (nI j)]) (rest := []) ⟨hx, hb, hml, hown, hts⟩ (bc_B_isAccount l D ct base ad M sz (nI j)) (va_cwS 1 hts (bm_goodS bw_221 bw_222 bw_1 bw_223) rfl rfl rfl (by decide +kernel) (by rw [← hR]; exact ⟨Nat.le_of_ble_eq_true rfl, Nat.le_of_ble_eq_true rfl⟩)) (bm_preS hM hG hS hz) rfl rfl hl.1 rfl (lv_room (Nat.le_of_ble_eq_true rfl)) dB_deposit_7 (by rw [← hR]; exact ⟨Nat.le_of_ble_eq_true rfl, Nat.le_of_ble_eq_true rfl⟩)) hS (fun H locs hz hM hS => ?_)
  refine lv_if_eq (tgt := 25) hx hb dB_deposit_10 rfl (fun h10 => absurd h10 (by rw [show bm_bl (nI j) 4 = 1 from (bm_bl_nI (N := 4) hj (by decide))]; decide)) (fun h10 => ?_)
  refine lv_aload_n hx hb dB_deposit_13 rfl (lv_at hl 0 rfl) ?_
  refine lv_ifnull hx hb dB_deposit_14 ?_
  refine lv_aload_n hx hb dB_deposit_17 rfl (lv_at hl 1 rfl) ?_
  refine lv_aload_n hx hb dB_deposit_18 rfl (lv_at hl 0 rfl) ?_
  refine bm_callE (va_runV (As := [.ref e]) (rest := []) ⟨hx, hb, hml, hown, hts⟩ (bc_B_isGood_n l D ct base ad M sz x pc lt wc dc fc rc lb lc e b f h h0 g2 g3 g4 hbd) (cwV 1 hts (bm_goodV bw_154 bw_156 bs_1 bw_1 bw_157) rfl rfl rfl (by decide +kernel) (by rw [← hR]; exact ⟨Nat.le_of_ble_eq_true rfl, Nat.le_of_ble_eq_true rfl⟩)) (bm_preV hM hG hS hz h0 rfl) rfl rfl hl.1 rfl (lv_room (Nat.le_of_ble_eq_true rfl)) dB_deposit_19 (by rw [← hR]; exact ⟨Nat.le_of_ble_eq_true rfl, Nat.le_of_ble_eq_true rfl⟩)) hS (fun H locs hz hM hS => ?_)
  refine lv_if_ne (tgt := 33) hx hb dB_deposit_22 rfl (fun h => absurd h (by decide)) (fun _ => ?_)
  exact bm_throw hQ hx hb hlk hT hts hown hG hS hM ⟨rfl, by rw [hz]⟩ bm_kxA hl.1 hml dB_deposit_25 dB_deposit_28 dB_deposit_29 dB_deposit_32 (Nat.le_of_ble_eq_true rfl) (Nat.le_of_ble_eq_true rfl) (by rw [← hR]; exact ⟨Nat.le_of_ble_eq_true rfl, Nat.le_of_ble_eq_true rfl, Nat.le_of_ble_eq_true rfl, Nat.le_of_ble_eq_true rfl⟩)
set_option maxHeartbeats 4000000 in
set_option maxRecDepth 100000 in
theorem bc_B_deposit_t4 (l : Launch) (hlt : l.stackTraces = false) (D : va_G) (ct : Nat → ClassId) (base : Nat) (ad : Nat → Nat) (M : bm_Map) (sz : Nat) (x : Nat) (pc lt wc dc fc rc : Int32) (lb : Int64) (lc : Value) (k0 e b j : Nat) (pa : Nat → Option Nat) (f h : Nat → Int64) (d k : Nat) (h0 : M x = some (.inr (6, [.ref (x + 1), .ref (x + 2), .ref (x + 11), .int pc, .ref (x + 12), lc, .int lt, .long lb, .int wc, .int dc, .int fc, .int rc]))) (g1 : M (x + 11) = some (.inl (ct 4, 20, .inr (.inr (.inr (.inr pa)))))) (g2 : M (x + 12) = some (.inl (ct 1, 4, .inr (.inl h)))) (g3 : M e = some (.inr (4, [.ref b]))) (g4 : M b = some (.inl (ct 1, 16, .inr (.inl f)))) (hk : k0 < 20) (hv : bm_bl (nI k0) pc = 1) (hpa : pa k0 = some e) (hj : j < 4) (hbx : x + 12 ≠ b) (hex : e ≠ x + 12) (hex2 : x ≠ b) (hbd : bm_bL (f 0) 3 = 1) (hd0 : f 0 = lN d) (hd : d < 3) (hnum : bm_hc (lN d) (bm_pf f (bm_h3 (f 2) (f 3) (f 1))) = lN k) (hk1 : k < 2 ^ 59) (hbad : bm_gd (bm_gw (bm_pf f (bm_h3 (f 2) (f 3) (f 1))) 4) (bm_is d (f 1) k) = 0) : bm_MG l yB_deposit (bm_ws yB_deposit cB_deposit 6 (some .int)) { frames := 6, cells := 1, slots := 6, locals := 100 } (bm_Pre D ct base ad M sz [.ref x, .int (nI k0), .int (nI j)]) (bm_PostT D base "java/lang/IllegalArgumentException" (fun M1 n => M1 = bm_up M (x + 12) (.inl (ct 1, 4, .inr (.inl (bm_hs (bm_pf f (bm_h3 (f 2) (f 3) (f 1))) h 4)))) ∧ n = sz + 1)) 1 6 (bm_A base) := by
  refine bm_ofT hlt (cc := cB_deposit) (maxL := 6) (ret := (some .int)) (by decide +kernel) (Nat.le_of_ble_eq_true rfl) ?_
  intro vp ve s vm args below meth vc hx hb hr hlk hts hown hml hnm ls hl hz hM hG R Q hR hQ hT
  have hown : s.vm.findClass "BlindMint" = some vm.cls := hown
  have hK := hG.K
  have hS : va_S (bm_A base) s.heap s.heap [] := va_S.rf
  have hl : lv_has ls 6 [(0, .ref x), (1, .int (nI k0)), (2, .int (nI j))] := hl
  refine lv_aload_n hx hb dB_deposit_0 rfl (lv_at hl 0 rfl) ?_
  refine lv_iload_n hx hb dB_deposit_1 rfl (lv_at hl 1 rfl) ?_
  refine bm_callE (va_runV (As := [.int (nI k0)]) (rest := []) ⟨hx, hb, hml, hown, hts⟩ (bc_B_findPayment_ok l D ct base ad M sz x pc lt wc dc fc rc lb lc k0 e pa h0 g1 hk hv hpa) (cwV 1 hts (bm_goodV bw_150 bw_152 bs_0 bw_1 bw_153) rfl rfl rfl (by decide +kernel) (by rw [← hR]; exact ⟨Nat.le_of_ble_eq_true rfl, Nat.le_of_ble_eq_true rfl⟩)) (bm_preV hM hG hS hz h0 rfl) rfl rfl hl.1 rfl (lv_room (Nat.le_of_ble_eq_true rfl)) dB_deposit_2 (by rw [← hR]; exact ⟨Nat.le_of_ble_eq_true rfl, Nat.le_of_ble_eq_true rfl⟩)) hS (fun H locs hz hM hS => ?_)
  refine lv_astore_n hx hb dB_deposit_5 rfl hl (by decide) rfl (fun ls hl => ?_)
  have hl : lv_has ls 6 [(3, .ref e), (0, .ref x), (1, .int (nI k0)), (2, .int (nI j))] := hl
  refine lv_iload_n hx hb dB_deposit_6 rfl (lv_at hl 3 rfl) ?_
  refine bm_callE (va_runS (As := [.int (nI j)]) (rest := []) ⟨hx, hb, hml, hown, hts⟩ (bc_B_isAccount l D ct base ad M sz (nI j)) (va_cwS 1 hts (bm_goodS bw_221 bw_222 bw_1 bw_223) rfl rfl rfl (by decide +kernel) (by rw [← hR]; exact ⟨Nat.le_of_ble_eq_true rfl, Nat.le_of_ble_eq_true rfl⟩)) (bm_preS hM hG hS hz) rfl rfl hl.1 rfl (lv_room (Nat.le_of_ble_eq_true rfl)) dB_deposit_7 (by rw [← hR]; exact ⟨Nat.le_of_ble_eq_true rfl, Nat.le_of_ble_eq_true rfl⟩)) hS (fun H locs hz hM hS => ?_)
  refine lv_if_eq (tgt := 25) hx hb dB_deposit_10 rfl (fun h10 => absurd h10 (by rw [show bm_bl (nI j) 4 = 1 from (bm_bl_nI (N := 4) hj (by decide))]; decide)) (fun h10 => ?_)
  refine lv_aload_n hx hb dB_deposit_13 rfl (lv_at hl 0 rfl) ?_
  refine lv_ifnull hx hb dB_deposit_14 ?_
  refine lv_aload_n hx hb dB_deposit_17 rfl (lv_at hl 1 rfl) ?_
  refine lv_aload_n hx hb dB_deposit_18 rfl (lv_at hl 0 rfl) ?_
  refine bm_callE (va_runV (As := [.ref e]) (rest := []) ⟨hx, hb, hml, hown, hts⟩ (bc_B_isGood_ok l D ct base ad M sz x pc lt wc dc fc rc lb lc e b f h d k h0 g2 g3 g4 hbx hex hex2 hbd hd0 hd hnum hk1) (cwV 1 hts (bm_goodV bw_154 bw_156 bs_1 bw_1 bw_157) rfl rfl rfl (by decide +kernel) (by rw [← hR]; exact ⟨Nat.le_of_ble_eq_true rfl, Nat.le_of_ble_eq_true rfl⟩)) (bm_preV hM hG hS hz h0 rfl) rfl rfl hl.1 rfl (lv_room (Nat.le_of_ble_eq_true rfl)) dB_deposit_19 (by rw [← hR]; exact ⟨Nat.le_of_ble_eq_true rfl, Nat.le_of_ble_eq_true rfl⟩)) hS (fun H locs hz hM hS => ?_)
  refine lv_if_ne (tgt := 33) hx hb dB_deposit_22 rfl (fun h22 => absurd hbad h22) (fun h22 => ?_)
  exact bm_throw hQ hx hb hlk hT hts hown hG hS hM ⟨rfl, by rw [hz]⟩ bm_kxA hl.1 hml dB_deposit_25 dB_deposit_28 dB_deposit_29 dB_deposit_32 (Nat.le_of_ble_eq_true rfl) (Nat.le_of_ble_eq_true rfl) (by rw [← hR]; exact ⟨Nat.le_of_ble_eq_true rfl, Nat.le_of_ble_eq_true rfl, Nat.le_of_ble_eq_true rfl, Nat.le_of_ble_eq_true rfl⟩)
