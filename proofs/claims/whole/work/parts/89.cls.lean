set_option maxHeartbeats 4000000 in
set_option maxRecDepth 100000 in
theorem bc_B_traced (l : Launch) (D : va_G) (ct : Nat → ClassId) (base : Nat) (ad : Nat → Nat) (M : bm_Map) (sz : Nat) (x : Nat) (pc lt wc dc fc rc : Int32) (lb : Int64) (lc : Value) (h0 : M x = some (.inr (6, [.ref (x + 1), .ref (x + 2), .ref (x + 11), .int pc, .ref (x + 12), lc, .int lt, .long lb, .int wc, .int dc, .int fc, .int rc]))) : Met l yB_traced (bm_ws yB_traced cB_traced 1 (some .int)) { frames := 0, cells := 0, slots := 0, locals := 0 } (bm_Pre D ct base ad M sz [.ref x]) (bm_Post D base (bm_Is (some (.int lt)) M sz)) 0 0 (bm_A base) := by
  refine bm_ofB (cc := cB_traced) (maxL := 1) (ret := (some .int)) (by decide +kernel) (Nat.le_of_ble_eq_true rfl) ?_
  intro vp ve s vm args below meth vc hx hb hr hlk hts hown hml hnm ls hl hz hM hG R Q hR hQ
  have hown : s.vm.findClass "BlindMint" = some vm.cls := hown
  have hK := hG.K
  have hS : va_S (bm_A base) s.heap s.heap [] := va_S.rf
  have hl : lv_has ls 1 [(0, .ref x)] := hl
  refine lv_aload_n hx hb dB_traced_0 rfl (lv_at hl 0 rfl) ?_
  refine bm_get (ci := 6) (v := .int lt) (C := "BlindMint") (T := bt_B) (N := 12) hx hb hts bu_B hown hK hM h0 rfl 6 (by decide) (hts _ bw_115) (fun _ h9 => h9) rfl dB_traced_1 ?_
  exact bm_iret hQ hx hb hr hlk hM hS ⟨rfl, rfl, hz⟩ (Nat.le_refl _) (Nat.le_refl _) dB_traced_4
set_option maxHeartbeats 4000000 in
set_option maxRecDepth 100000 in
theorem bc_B_blinded (l : Launch) (D : va_G) (ct : Nat → ClassId) (base : Nat) (ad : Nat → Nat) (M : bm_Map) (sz : Nat) (x : Nat) (pc lt wc dc fc rc : Int32) (lb : Int64) (lc : Value) (h0 : M x = some (.inr (6, [.ref (x + 1), .ref (x + 2), .ref (x + 11), .int pc, .ref (x + 12), lc, .int lt, .long lb, .int wc, .int dc, .int fc, .int rc]))) : Met l yB_blinded (bm_ws yB_blinded cB_blinded 1 (some .long)) { frames := 0, cells := 0, slots := 0, locals := 0 } (bm_Pre D ct base ad M sz [.ref x]) (bm_Post D base (bm_Is (some (.long lb)) M sz)) 0 0 (bm_A base) := by
  refine bm_ofB (cc := cB_blinded) (maxL := 1) (ret := (some .long)) (by decide +kernel) (Nat.le_of_ble_eq_true rfl) ?_
  intro vp ve s vm args below meth vc hx hb hr hlk hts hown hml hnm ls hl hz hM hG R Q hR hQ
  have hown : s.vm.findClass "BlindMint" = some vm.cls := hown
  have hK := hG.K
  have hS : va_S (bm_A base) s.heap s.heap [] := va_S.rf
  have hl : lv_has ls 1 [(0, .ref x)] := hl
  refine lv_aload_n hx hb dB_blinded_0 rfl (lv_at hl 0 rfl) ?_
  refine bm_get (ci := 6) (v := .long lb) (C := "BlindMint") (T := bt_B) (N := 12) hx hb hts bu_B hown hK hM h0 rfl 7 (by decide) (hts _ bw_116) (fun _ h9 => h9) rfl dB_blinded_1 ?_
  exact bm_lret hQ hx hb hr hlk hM hS ⟨rfl, rfl, hz⟩ (Nat.le_refl _) (Nat.le_refl _) dB_blinded_4
set_option maxHeartbeats 4000000 in
set_option maxRecDepth 100000 in
theorem bc_B_findPayment_n (l : Launch) (D : va_G) (ct : Nat → ClassId) (base : Nat) (ad : Nat → Nat) (M : bm_Map) (sz : Nat) (x : Nat) (pc lt wc dc fc rc : Int32) (lb : Int64) (lc : Value) (v : Int32) (h0 : M x = some (.inr (6, [.ref (x + 1), .ref (x + 2), .ref (x + 11), .int pc, .ref (x + 12), lc, .int lt, .long lb, .int wc, .int dc, .int fc, .int rc]))) (hv : bm_bl v pc = 0) : Met l yB_findPayment (bm_ws yB_findPayment cB_findPayment 2 (some (.object "BlindMint$Payment"))) { frames := 0, cells := 0, slots := 0, locals := 0 } (bm_Pre D ct base ad M sz [.ref x, .int v]) (bm_Post D base (bm_Is (some (.null)) M sz)) 0 0 (bm_A base) := by
  refine bm_ofB (cc := cB_findPayment) (maxL := 2) (ret := (some (.object "BlindMint$Payment"))) (by decide +kernel) (Nat.le_of_ble_eq_true rfl) ?_
  intro vp ve s vm args below meth vc hx hb hr hlk hts hown hml hnm ls hl hz hM hG R Q hR hQ
  have hown : s.vm.findClass "BlindMint" = some vm.cls := hown
  have hK := hG.K
  have hS : va_S (bm_A base) s.heap s.heap [] := va_S.rf
  have hl : lv_has ls 2 [(0, .ref x), (1, .int v)] := hl
  refine lv_iload_n hx hb dB_findPayment_0 rfl (lv_at hl 1 rfl) ?_
  refine lv_if_lt (tgt := 21) hx hb dB_findPayment_1 rfl (fun h1 => ?_) (fun h1 => ?_)
  · refine lv_null hx hb dB_findPayment_21 ?_
    exact bm_aret hQ hx hb hr hlk (Or.inl ⟨_, rfl⟩) (Or.inl rfl) hM hS ⟨rfl, rfl, hz⟩ (Nat.le_refl _) (Nat.le_refl _) dB_findPayment_22
  · refine lv_iload_n hx hb dB_findPayment_4 rfl (lv_at hl 1 rfl) ?_
    refine lv_aload_n hx hb dB_findPayment_5 rfl (lv_at hl 0 rfl) ?_
    refine bm_get (ci := 6) (v := .int pc) (C := "BlindMint") (T := bt_B) (N := 12) hx hb hts bu_B hown hK hM h0 rfl 3 (by decide) (hts _ bw_112) (fun _ h9 => h9) rfl dB_findPayment_6 ?_
    refine lv_icmp_ge (tgt := 21) hx hb dB_findPayment_9 rfl (fun h9 => ?_) (fun h9 => absurd hv (by rw [bm_bl_o (fun q => q.elim h1 h9)]; decide))
    refine lv_null hx hb dB_findPayment_21 ?_
    exact bm_aret hQ hx hb hr hlk (Or.inl ⟨_, rfl⟩) (Or.inl rfl) hM hS ⟨rfl, rfl, hz⟩ (Nat.le_refl _) (Nat.le_refl _) dB_findPayment_22
set_option maxHeartbeats 4000000 in
set_option maxRecDepth 100000 in
theorem bc_B_findPayment_ok (l : Launch) (D : va_G) (ct : Nat → ClassId) (base : Nat) (ad : Nat → Nat) (M : bm_Map) (sz : Nat) (x : Nat) (pc lt wc dc fc rc : Int32) (lb : Int64) (lc : Value) (k e : Nat) (pa : Nat → Option Nat) (h0 : M x = some (.inr (6, [.ref (x + 1), .ref (x + 2), .ref (x + 11), .int pc, .ref (x + 12), lc, .int lt, .long lb, .int wc, .int dc, .int fc, .int rc]))) (gp : M (x + 11) = some (.inl (ct 4, 20, .inr (.inr (.inr (.inr pa)))))) (hk : k < 20) (hv : bm_bl (nI k) pc = 1) (hpa : pa k = some e) : Met l yB_findPayment (bm_ws yB_findPayment cB_findPayment 2 (some (.object "BlindMint$Payment"))) { frames := 0, cells := 0, slots := 0, locals := 0 } (bm_Pre D ct base ad M sz [.ref x, .int (nI k)]) (bm_Post D base (bm_Is (some (.ref e)) M sz)) 0 0 (bm_A base) := by
  refine bm_ofB (cc := cB_findPayment) (maxL := 2) (ret := (some (.object "BlindMint$Payment"))) (by decide +kernel) (Nat.le_of_ble_eq_true rfl) ?_
  intro vp ve s vm args below meth vc hx hb hr hlk hts hown hml hnm ls hl hz hM hG R Q hR hQ
  have hown : s.vm.findClass "BlindMint" = some vm.cls := hown
  have hK := hG.K
  have hS : va_S (bm_A base) s.heap s.heap [] := va_S.rf
  have hl : lv_has ls 2 [(0, .ref x), (1, .int (nI k))] := hl
  refine lv_iload_n hx hb dB_findPayment_0 rfl (lv_at hl 1 rfl) ?_
  refine lv_if_lt (tgt := 21) hx hb dB_findPayment_1 rfl (fun h1 => absurd h1 (nI_pos (by omega))) (fun h1 => ?_)
  refine lv_iload_n hx hb dB_findPayment_4 rfl (lv_at hl 1 rfl) ?_
  refine lv_aload_n hx hb dB_findPayment_5 rfl (lv_at hl 0 rfl) ?_
  refine bm_get (ci := 6) (v := .int pc) (C := "BlindMint") (T := bt_B) (N := 12) hx hb hts bu_B hown hK hM h0 rfl 3 (by decide) (hts _ bw_112) (fun _ h9 => h9) rfl dB_findPayment_6 ?_
  refine lv_icmp_ge (tgt := 21) hx hb dB_findPayment_9 rfl (fun h9 => absurd hv (by rw [bm_bl_z (Or.inr h9)]; decide)) (fun h9 => ?_)
  refine lv_aload_n hx hb dB_findPayment_12 rfl (lv_at hl 0 rfl) ?_
  refine bm_get (ci := 6) (v := .ref (x + 11)) (C := "BlindMint") (T := bt_B) (N := 12) hx hb hts bu_B hown hK hM h0 rfl 2 (by decide) (hts _ bw_111) (fun _ h9 => h9) rfl dB_findPayment_13 ?_
  refine lv_iload_n hx hb dB_findPayment_16 rfl (lv_at hl 1 rfl) ?_
  refine bm_aald (v := .ref e) hx hb hK hM 4 gp rfl k (bm_ix_nI (by omega)) (by omega) (by rw [hpa]; rfl) dB_findPayment_17 ?_
  refine lv_goto (tgt := 22) hx hb dB_findPayment_18 rfl ?_
  exact bm_aret hQ hx hb hr hlk (Or.inl ⟨_, rfl⟩) (Or.inr ⟨_, rfl⟩) hM hS ⟨rfl, rfl, hz⟩ (Nat.le_refl _) (Nat.le_refl _) dB_findPayment_22
set_option maxHeartbeats 4000000 in
set_option maxRecDepth 100000 in
theorem bc_B_findCoin_n1 (l : Launch) (D : va_G) (ct : Nat → ClassId) (base : Nat) (ad : Nat → Nat) (M : bm_Map) (sz : Nat) (x : Nat) (pc lt wc dc fc rc : Int32) (lb : Int64) (lc : Value) (v w : Int32) (h0 : M x = some (.inr (6, [.ref (x + 1), .ref (x + 2), .ref (x + 11), .int pc, .ref (x + 12), lc, .int lt, .long lb, .int wc, .int dc, .int fc, .int rc]))) (hv : bm_bl v 4 = 0) : Met l yB_findCoin (bm_ws yB_findCoin cB_findCoin 3 (some (.object "BlindMint$Coin"))) { frames := 1, cells := 0, slots := 0, locals := 20 } (bm_Pre D ct base ad M sz [.ref x, .int v, .int w]) (bm_Post D base (bm_Is (some (.null)) M sz)) 0 0 (bm_A base) := by
  refine bm_ofB (cc := cB_findCoin) (maxL := 3) (ret := (some (.object "BlindMint$Coin"))) (by decide +kernel) (Nat.le_of_ble_eq_true rfl) ?_
  intro vp ve s vm args below meth vc hx hb hr hlk hts hown hml hnm ls hl hz hM hG R Q hR hQ
  have hown : s.vm.findClass "BlindMint" = some vm.cls := hown
  have hK := hG.K
  have hS : va_S (bm_A base) s.heap s.heap [] := va_S.rf
  have hl : lv_has ls 3 [(0, .ref x), (1, .int v), (2, .int w)] := hl
  refine lv_iload_n hx hb dB_findCoin_0 rfl (lv_at hl 1 rfl) ?_
  refine bm_callE (va_runS (As := [.int v]) (rest := []) ⟨hx, hb, hml, hown, hts⟩ (bc_B_isAccount l D ct base ad M sz v) (va_cwS 1 hts (bm_goodS bw_221 bw_222 bw_1 bw_223) rfl rfl rfl (by decide +kernel) (by rw [← hR]; exact ⟨Nat.le_of_ble_eq_true rfl, Nat.le_of_ble_eq_true rfl⟩)) (bm_preS hM hG hS hz) rfl rfl hl.1 rfl (lv_room (Nat.le_of_ble_eq_true rfl)) dB_findCoin_1 (by rw [← hR]; exact ⟨Nat.le_of_ble_eq_true rfl, Nat.le_of_ble_eq_true rfl⟩)) hS (fun H locs hz hM hS => ?_)
  refine lv_if_eq (tgt := 24) hx hb dB_findCoin_4 rfl (fun h4 => ?_) (fun h4 => absurd hv h4)
  refine lv_null hx hb dB_findCoin_24 ?_
  exact bm_aret hQ hx hb hr hlk (Or.inl ⟨_, rfl⟩) (Or.inl rfl) hM hS ⟨rfl, rfl, hz⟩ (Nat.le_refl _) (Nat.le_refl _) dB_findCoin_25
set_option maxHeartbeats 4000000 in
set_option maxRecDepth 100000 in
theorem bc_B_findCoin_n2 (l : Launch) (D : va_G) (ct : Nat → ClassId) (base : Nat) (ad : Nat → Nat) (M : bm_Map) (sz : Nat) (x : Nat) (pc lt wc dc fc rc : Int32) (lb : Int64) (lc : Value) (j : Nat) (w bal cc : Int32) (ac : Nat → Option Nat) (h0 : M x = some (.inr (6, [.ref (x + 1), .ref (x + 2), .ref (x + 11), .int pc, .ref (x + 12), lc, .int lt, .long lb, .int wc, .int dc, .int fc, .int rc]))) (h1 : M (x + 1) = some (.inl (ct 3, 4, .inr (.inr (.inr (.inr ac)))))) (h2 : M (x + (13 + 2 * j)) = some (.inr (0, [.int bal, .ref (x + (14 + 2 * j)), .int cc]))) (hac : ∀ a, a < 4 → ac a = some (x + (13 + 2 * a))) (hj : j < 4) (hw : bm_bl w cc = 0) : Met l yB_findCoin (bm_ws yB_findCoin cB_findCoin 3 (some (.object "BlindMint$Coin"))) { frames := 1, cells := 0, slots := 0, locals := 20 } (bm_Pre D ct base ad M sz [.ref x, .int (nI j), .int w]) (bm_Post D base (bm_Is (some (.null)) M sz)) 0 0 (bm_A base) := by
  refine bm_ofB (cc := cB_findCoin) (maxL := 3) (ret := (some (.object "BlindMint$Coin"))) (by decide +kernel) (Nat.le_of_ble_eq_true rfl) ?_
  intro vp ve s vm args below meth vc hx hb hr hlk hts hown hml hnm ls hl hz hM hG R Q hR hQ
  have hown : s.vm.findClass "BlindMint" = some vm.cls := hown
  have hK := hG.K
  have hS : va_S (bm_A base) s.heap s.heap [] := va_S.rf
  have hl : lv_has ls 3 [(0, .ref x), (1, .int (nI j)), (2, .int w)] := hl
  refine lv_iload_n hx hb dB_findCoin_0 rfl (lv_at hl 1 rfl) ?_
  refine bm_callE (va_runS (As := [.int (nI j)]) (rest := []) ⟨hx, hb, hml, hown, hts⟩ (bc_B_isAccount l D ct base ad M sz (nI j)) (va_cwS 1 hts (bm_goodS bw_221 bw_222 bw_1 bw_223) rfl rfl rfl (by decide +kernel) (by rw [← hR]; exact ⟨Nat.le_of_ble_eq_true rfl, Nat.le_of_ble_eq_true rfl⟩)) (bm_preS hM hG hS hz) rfl rfl hl.1 rfl (lv_room (Nat.le_of_ble_eq_true rfl)) dB_findCoin_1 (by rw [← hR]; exact ⟨Nat.le_of_ble_eq_true rfl, Nat.le_of_ble_eq_true rfl⟩)) hS (fun H locs hz hM hS => ?_)
  refine lv_if_eq (tgt := 24) hx hb dB_findCoin_4 rfl (fun h4 => absurd h4 (by rw [show bm_bl (nI j) 4 = 1 from (bm_bl_nI (N := 4) hj (by decide))]; decide)) (fun h4 => ?_)
  refine lv_iload_n hx hb dB_findCoin_7 rfl (lv_at hl 2 rfl) ?_
  refine lv_if_lt (tgt := 24) hx hb dB_findCoin_8 rfl (fun h8 => ?_) (fun h8 => ?_)
  · refine lv_null hx hb dB_findCoin_24 ?_
    exact bm_aret hQ hx hb hr hlk (Or.inl ⟨_, rfl⟩) (Or.inl rfl) hM hS ⟨rfl, rfl, hz⟩ (Nat.le_refl _) (Nat.le_refl _) dB_findCoin_25
  · refine lv_iload_n hx hb dB_findCoin_11 rfl (lv_at hl 2 rfl) ?_
    refine lv_aload_n hx hb dB_findCoin_12 rfl (lv_at hl 0 rfl) ?_
    refine bm_get (ci := 6) (v := .ref (x + 1)) (C := "BlindMint") (T := bt_B) (N := 12) hx hb hts bu_B hown hK hM h0 rfl 0 (by decide) (hts _ bw_109) (fun _ h9 => h9) rfl dB_findCoin_13 ?_
    refine lv_iload_n hx hb dB_findCoin_16 rfl (lv_at hl 1 rfl) ?_
    refine bm_aald (v := .ref (x + (13 + 2 * j))) hx hb hK hM 3 h1 rfl j (bm_ix_nI (by omega)) (by omega) (by rw [hac j hj]; rfl) dB_findCoin_17 ?_
    refine bm_get (ci := 0) (v := .int cc) (C := "BlindMint$Account") (T := bt_A) (N := 3) hx hb hts bu_A hown hK hM h2 rfl 2 (by decide) (hts _ bw_100) (fun _ h9 => h9) rfl dB_findCoin_18 ?_
    refine lv_icmp_lt (tgt := 26) hx hb dB_findCoin_21 rfl (fun h21 => absurd hw (by rw [bm_bl_o (fun q => q.elim h8 (Int32.not_le.mpr h21))]; decide)) (fun h21 => ?_)
    refine lv_null hx hb dB_findCoin_24 ?_
    exact bm_aret hQ hx hb hr hlk (Or.inl ⟨_, rfl⟩) (Or.inl rfl) hM hS ⟨rfl, rfl, hz⟩ (Nat.le_refl _) (Nat.le_refl _) dB_findCoin_25
set_option maxHeartbeats 4000000 in
set_option maxRecDepth 100000 in
theorem bc_B_findCoin_ok (l : Launch) (D : va_G) (ct : Nat → ClassId) (base : Nat) (ad : Nat → Nat) (M : bm_Map) (sz : Nat) (x : Nat) (pc lt wc dc fc rc : Int32) (lb : Int64) (lc : Value) (j i e : Nat) (bal cc : Int32) (ac wf : Nat → Option Nat) (h0 : M x = some (.inr (6, [.ref (x + 1), .ref (x + 2), .ref (x + 11), .int pc, .ref (x + 12), lc, .int lt, .long lb, .int wc, .int dc, .int fc, .int rc]))) (h1 : M (x + 1) = some (.inl (ct 3, 4, .inr (.inr (.inr (.inr ac)))))) (h2 : M (x + (13 + 2 * j)) = some (.inr (0, [.int bal, .ref (x + (14 + 2 * j)), .int cc]))) (h3 : M (x + (14 + 2 * j)) = some (.inl (ct 6, 8, .inr (.inr (.inr (.inr wf)))))) (hac : ∀ a, a < 4 → ac a = some (x + (13 + 2 * a))) (hj : j < 4) (hi : i < 8) (hw : bm_bl (nI i) cc = 1) (hwf : wf i = some e) : Met l yB_findCoin (bm_ws yB_findCoin cB_findCoin 3 (some (.object "BlindMint$Coin"))) { frames := 1, cells := 0, slots := 0, locals := 20 } (bm_Pre D ct base ad M sz [.ref x, .int (nI j), .int (nI i)]) (bm_Post D base (bm_Is (some (.ref e)) M sz)) 0 0 (bm_A base) := by
  refine bm_ofB (cc := cB_findCoin) (maxL := 3) (ret := (some (.object "BlindMint$Coin"))) (by decide +kernel) (Nat.le_of_ble_eq_true rfl) ?_
  intro vp ve s vm args below meth vc hx hb hr hlk hts hown hml hnm ls hl hz hM hG R Q hR hQ
  have hown : s.vm.findClass "BlindMint" = some vm.cls := hown
  have hK := hG.K
  have hS : va_S (bm_A base) s.heap s.heap [] := va_S.rf
  have hl : lv_has ls 3 [(0, .ref x), (1, .int (nI j)), (2, .int (nI i))] := hl
  refine lv_iload_n hx hb dB_findCoin_0 rfl (lv_at hl 1 rfl) ?_
  refine bm_callE (va_runS (As := [.int (nI j)]) (rest := []) ⟨hx, hb, hml, hown, hts⟩ (bc_B_isAccount l D ct base ad M sz (nI j)) (va_cwS 1 hts (bm_goodS bw_221 bw_222 bw_1 bw_223) rfl rfl rfl (by decide +kernel) (by rw [← hR]; exact ⟨Nat.le_of_ble_eq_true rfl, Nat.le_of_ble_eq_true rfl⟩)) (bm_preS hM hG hS hz) rfl rfl hl.1 rfl (lv_room (Nat.le_of_ble_eq_true rfl)) dB_findCoin_1 (by rw [← hR]; exact ⟨Nat.le_of_ble_eq_true rfl, Nat.le_of_ble_eq_true rfl⟩)) hS (fun H locs hz hM hS => ?_)
  refine lv_if_eq (tgt := 24) hx hb dB_findCoin_4 rfl (fun h4 => absurd h4 (by rw [show bm_bl (nI j) 4 = 1 from (bm_bl_nI (N := 4) hj (by decide))]; decide)) (fun h4 => ?_)
  refine lv_iload_n hx hb dB_findCoin_7 rfl (lv_at hl 2 rfl) ?_
  refine lv_if_lt (tgt := 24) hx hb dB_findCoin_8 rfl (fun h8 => absurd h8 (nI_pos (by omega))) (fun h8 => ?_)
  refine lv_iload_n hx hb dB_findCoin_11 rfl (lv_at hl 2 rfl) ?_
  refine lv_aload_n hx hb dB_findCoin_12 rfl (lv_at hl 0 rfl) ?_
  refine bm_get (ci := 6) (v := .ref (x + 1)) (C := "BlindMint") (T := bt_B) (N := 12) hx hb hts bu_B hown hK hM h0 rfl 0 (by decide) (hts _ bw_109) (fun _ h9 => h9) rfl dB_findCoin_13 ?_
  refine lv_iload_n hx hb dB_findCoin_16 rfl (lv_at hl 1 rfl) ?_
  refine bm_aald (v := .ref (x + (13 + 2 * j))) hx hb hK hM 3 h1 rfl j (bm_ix_nI (by omega)) (by omega) (by rw [hac j hj]; rfl) dB_findCoin_17 ?_
  refine bm_get (ci := 0) (v := .int cc) (C := "BlindMint$Account") (T := bt_A) (N := 3) hx hb hts bu_A hown hK hM h2 rfl 2 (by decide) (hts _ bw_100) (fun _ h9 => h9) rfl dB_findCoin_18 ?_
  refine lv_icmp_lt (tgt := 26) hx hb dB_findCoin_21 rfl (fun h21 => ?_) (fun h21 => absurd hw (by rw [bm_bl_z (Or.inr (Int32.not_lt.mp h21))]; decide))
  refine lv_aload_n hx hb dB_findCoin_26 rfl (lv_at hl 0 rfl) ?_
  refine bm_get (ci := 6) (v := .ref (x + 1)) (C := "BlindMint") (T := bt_B) (N := 12) hx hb hts bu_B hown hK hM h0 rfl 0 (by decide) (hts _ bw_109) (fun _ h9 => h9) rfl dB_findCoin_27 ?_
  refine lv_iload_n hx hb dB_findCoin_30 rfl (lv_at hl 1 rfl) ?_
  refine bm_aald (v := .ref (x + (13 + 2 * j))) hx hb hK hM 3 h1 rfl j (bm_ix_nI (by omega)) (by omega) (by rw [hac j hj]; rfl) dB_findCoin_31 ?_
  refine bm_get (ci := 0) (v := .ref (x + (14 + 2 * j))) (C := "BlindMint$Account") (T := bt_A) (N := 3) hx hb hts bu_A hown hK hM h2 rfl 1 (by decide) (hts _ bw_98) (fun _ h9 => h9) rfl dB_findCoin_32 ?_
  refine lv_iload_n hx hb dB_findCoin_35 rfl (lv_at hl 2 rfl) ?_
  refine bm_aald (v := .ref e) hx hb hK hM 6 h3 rfl i (bm_ix_nI (by omega)) (by omega) (by rw [hwf]; rfl) dB_findCoin_36 ?_
  exact bm_aret hQ hx hb hr hlk (Or.inl ⟨_, rfl⟩) (Or.inr ⟨_, rfl⟩) hM hS ⟨rfl, rfl, hz⟩ (Nat.le_refl _) (Nat.le_refl _) dB_findCoin_37
set_option maxHeartbeats 4000000 in
set_option maxRecDepth 100000 in
theorem bc_B_isGood_n (l : Launch) (D : va_G) (ct : Nat → ClassId) (base : Nat) (ad : Nat → Nat) (M : bm_Map) (sz : Nat) (x : Nat) (pc lt wc dc fc rc : Int32) (lb : Int64) (lc : Value) (e b : Nat) (f h : Nat → Int64) (h0 : M x = some (.inr (6, [.ref (x + 1), .ref (x + 2), .ref (x + 11), .int pc, .ref (x + 12), lc, .int lt, .long lb, .int wc, .int dc, .int fc, .int rc]))) (h1 : M (x + 12) = some (.inl (ct 1, 4, .inr (.inl h)))) (h2 : M e = some (.inr (4, [.ref b]))) (h3 : M b = some (.inl (ct 1, 16, .inr (.inl f)))) (hbd : bm_bL (f 0) 3 = 0) : Met l yB_isGood (bm_ws yB_isGood cB_isGood 4 (some .boolean)) { frames := 3, cells := 0, slots := 0, locals := 77 } (bm_Pre D ct base ad M sz [.ref x, .ref e]) (bm_Post D base (bm_Is (some (.int 0)) M sz)) 0 0 (bm_A base) := by
  refine bm_ofB (cc := cB_isGood) (maxL := 4) (ret := (some .boolean)) (by decide +kernel) (Nat.le_of_ble_eq_true rfl) ?_
  intro vp ve s vm args below meth vc hx hb hr hlk hts hown hml hnm ls hl hz hM hG R Q hR hQ
  have hown : s.vm.findClass "BlindMint" = some vm.cls := hown
  have hK := hG.K
  have hS : va_S (bm_A base) s.heap s.heap [] := va_S.rf
  have hl : lv_has ls 4 [(0, .ref x), (1, .ref e)] := hl
  refine lv_aload_n hx hb dB_isGood_0 rfl (lv_at hl 1 rfl) ?_
  refine bm_callE (va_runV (As := []) (rest := []) ⟨hx, hb, hml, hown, hts⟩ (bc_P_denomination l D ct base ad M sz e b f h2 h3) (cwV 0 hts (bm_goodV bw_158 bw_159 bw_160 bw_16 bw_161) rfl rfl rfl (by decide +kernel) (by rw [← hR]; exact ⟨Nat.le_of_ble_eq_true rfl, Nat.le_of_ble_eq_true rfl⟩)) (bm_preV hM hG hS hz h2 rfl) rfl rfl hl.1 rfl (lv_room (Nat.le_of_ble_eq_true rfl)) dB_isGood_1 (by rw [← hR]; exact ⟨Nat.le_of_ble_eq_true rfl, Nat.le_of_ble_eq_true rfl⟩)) hS (fun H locs hz hM hS => ?_)
  refine bm_callE (va_runS (As := [.long (f 0)]) (rest := []) ⟨hx, hb, hml, hown, hts⟩ (bc_B_isDenomination l D ct base ad M sz (f 0)) (va_cwS 1 hts (bm_goodS bw_162 bw_163 bw_1 bw_164) rfl rfl rfl (by decide +kernel) (by rw [← hR]; exact ⟨Nat.le_of_ble_eq_true rfl, Nat.le_of_ble_eq_true rfl⟩)) (bm_preS hM hG hS hz) rfl rfl hl.1 rfl (lv_room (Nat.le_of_ble_eq_true rfl)) dB_isGood_4 (by rw [← hR]; exact ⟨Nat.le_of_ble_eq_true rfl, Nat.le_of_ble_eq_true rfl⟩)) hS (fun H locs hz hM hS => ?_)
  refine lv_if_ne (tgt := 12) hx hb dB_isGood_7 rfl (fun h7 => absurd hbd h7) (fun h7 => ?_)
  refine lv_iconst (v := 0) hx hb dB_isGood_10 (by decide) ?_
  exact bm_zret hQ hx hb hr hlk (by decide) hM hS ⟨rfl, rfl, hz⟩ (Nat.le_refl _) (Nat.le_refl _) dB_isGood_11
set_option maxHeartbeats 4000000 in
set_option maxRecDepth 100000 in
theorem bc_B_isGood_ok (l : Launch) (D : va_G) (ct : Nat → ClassId) (base : Nat) (ad : Nat → Nat) (M : bm_Map) (sz : Nat) (x : Nat) (pc lt wc dc fc rc : Int32) (lb : Int64) (lc : Value) (e b : Nat) (f h : Nat → Int64) (d k : Nat) (h0 : M x = some (.inr (6, [.ref (x + 1), .ref (x + 2), .ref (x + 11), .int pc, .ref (x + 12), lc, .int lt, .long lb, .int wc, .int dc, .int fc, .int rc]))) (h1 : M (x + 12) = some (.inl (ct 1, 4, .inr (.inl h)))) (h2 : M e = some (.inr (4, [.ref b]))) (h3 : M b = some (.inl (ct 1, 16, .inr (.inl f)))) (hbx : x + 12 ≠ b) (hex : e ≠ x + 12) (hex2 : x ≠ b) (hbd : bm_bL (f 0) 3 = 1) (hd0 : f 0 = lN d) (hd : d < 3) (hnum : bm_hc (lN d) (bm_pf f (bm_h3 (f 2) (f 3) (f 1))) = lN k) (hk : k < 2 ^ 59) : Met l yB_isGood (bm_ws yB_isGood cB_isGood 4 (some .boolean)) { frames := 3, cells := 0, slots := 0, locals := 77 } (bm_Pre D ct base ad M sz [.ref x, .ref e]) (bm_Post D base (bm_Is (some (.int (bm_gd (bm_gw (bm_pf f (bm_h3 (f 2) (f 3) (f 1))) 4) (bm_is d (f 1) k)))) (bm_up M (x + 12) (.inl (ct 1, 4, .inr (.inl (bm_hs (bm_pf f (bm_h3 (f 2) (f 3) (f 1))) h 4))))) sz)) 0 0 (bm_A base) := by
  refine bm_ofB (cc := cB_isGood) (maxL := 4) (ret := (some .boolean)) (by decide +kernel) (Nat.le_of_ble_eq_true rfl) ?_
  intro vp ve s vm args below meth vc hx hb hr hlk hts hown hml hnm ls hl hz hM hG R Q hR hQ
  have hown : s.vm.findClass "BlindMint" = some vm.cls := hown
  have hK := hG.K
  have hS : va_S (bm_A base) s.heap s.heap [] := va_S.rf
  have hl : lv_has ls 4 [(0, .ref x), (1, .ref e)] := hl
  refine lv_aload_n hx hb dB_isGood_0 rfl (lv_at hl 1 rfl) ?_
  refine bm_callE (va_runV (As := []) (rest := []) ⟨hx, hb, hml, hown, hts⟩ (bc_P_denomination l D ct base ad M sz e b f h2 h3) (cwV 0 hts (bm_goodV bw_158 bw_159 bw_160 bw_16 bw_161) rfl rfl rfl (by decide +kernel) (by rw [← hR]; exact ⟨Nat.le_of_ble_eq_true rfl, Nat.le_of_ble_eq_true rfl⟩)) (bm_preV hM hG hS hz h2 rfl) rfl rfl hl.1 rfl (lv_room (Nat.le_of_ble_eq_true rfl)) dB_isGood_1 (by rw [← hR]; exact ⟨Nat.le_of_ble_eq_true rfl, Nat.le_of_ble_eq_true rfl⟩)) hS (fun H locs hz hM hS => ?_)
  refine bm_callE (va_runS (As := [.long (f 0)]) (rest := []) ⟨hx, hb, hml, hown, hts⟩ (bc_B_isDenomination l D ct base ad M sz (f 0)) (va_cwS 1 hts (bm_goodS bw_162 bw_163 bw_1 bw_164) rfl rfl rfl (by decide +kernel) (by rw [← hR]; exact ⟨Nat.le_of_ble_eq_true rfl, Nat.le_of_ble_eq_true rfl⟩)) (bm_preS hM hG hS hz) rfl rfl hl.1 rfl (lv_room (Nat.le_of_ble_eq_true rfl)) dB_isGood_4 (by rw [← hR]; exact ⟨Nat.le_of_ble_eq_true rfl, Nat.le_of_ble_eq_true rfl⟩)) hS (fun H locs hz hM hS => ?_)
  refine lv_if_ne (tgt := 12) hx hb dB_isGood_7 rfl (fun h7 => ?_) (fun h7 => absurd h7 (by rw [hbd]; decide))
  refine lv_aload_n hx hb dB_isGood_12 rfl (lv_at hl 1 rfl) ?_
  refine lv_aload_n hx hb dB_isGood_13 rfl (lv_at hl 0 rfl) ?_
  refine bm_get (ci := 6) (v := .ref (x + 12)) (C := "BlindMint") (T := bt_B) (N := 12) hx hb hts bu_B hown hK hM h0 rfl 4 (by decide) (hts _ bw_113) (fun _ h9 => h9) rfl dB_isGood_14 ?_
  refine bm_callU (va_runV (As := [.ref (x + 12)]) (rest := []) ⟨hx, hb, hml, hown, hts⟩ (bc_P_readPairHashes l D ct base ad M sz e b f (x + 12) h h2 h3 h1) (cwV 1 hts (bm_goodV bw_167 bw_168 bw_169 bw_16 bw_170) rfl rfl rfl (by decide +kernel) (by rw [← hR]; exact ⟨Nat.le_of_ble_eq_true rfl, Nat.le_of_ble_eq_true rfl⟩)) (bm_preV hM hG hS hz h2 rfl) rfl rfl hl.1 rfl (lv_room (Nat.le_of_ble_eq_true rfl)) dB_isGood_17 (by rw [← hR]; exact ⟨Nat.le_of_ble_eq_true rfl, Nat.le_of_ble_eq_true rfl⟩)) hS (fun H locs hz hM hS => ?_)
  obtain ⟨M1, eM1⟩ : ∃ X, X = bm_up M (x + 12) (.inl (ct 1, 4, .inr (.inl (bm_hs (bm_pf f (bm_h3 (f 2) (f 3) (f 1))) h 4)))) := ⟨_, rfl⟩
  replace hM : bm_M D base M1 H := by rw [eM1]; exact hM
  replace h0 : M1 x = some (.inr (6, [.ref (x + 1), .ref (x + 2), .ref (x + 11), .int pc, .ref (x + 12), lc, .int lt, .long lb, .int wc, .int dc, .int fc, .int rc])) := by rw [eM1, bm_up_ne (by omega)]; exact h0
  replace h2 : M1 e = some (.inr (4, [.ref b])) := by rw [eM1, bm_up_ne (by omega)]; exact h2
  replace h3 : M1 b = some (.inl (ct 1, 16, .inr (.inl f))) := by rw [eM1, bm_up_ne (by omega)]; exact h3
  replace h1 : M1 (x + 12) = some (.inl (ct 1, 4, .inr (.inl (bm_hs (bm_pf f (bm_h3 (f 2) (f 3) (f 1))) h 4)))) := by rw [eM1]; exact bm_up_self _ _ _
  refine lv_iconst (v := 1) hx hb dB_isGood_20 (by decide) ?_
  refine lv_istore_n hx hb dB_isGood_21 rfl hl (by decide) rfl (fun ls hl => ?_)
  have hl : lv_has ls 4 [(2, .int 1), (0, .ref x), (1, .ref e)] := hl
  refine lv_iload_n hx hb dB_isGood_22 rfl (lv_at hl 0 rfl) ?_
  refine lv_iconst (v := 4) hx hb dB_isGood_23 (by decide) ?_
  refine lv_icmp_ge (tgt := 53) hx hb dB_isGood_24 rfl (fun h => absurd h (by decide)) (fun _ => ?_)
  refine lv_aload_n hx hb dB_isGood_27 rfl (lv_at hl 1 rfl) ?_
  refine bm_get (ci := 6) (v := .ref (x + 12)) (C := "BlindMint") (T := bt_B) (N := 12) hx hb hts bu_B hown hK hM h0 rfl 4 (by decide) (hts _ bw_113) (fun _ h9 => h9) rfl dB_isGood_28 ?_
  refine lv_iload_n hx hb dB_isGood_31 rfl (lv_at hl 0 rfl) ?_
  refine bm_lald hx hb hK hM 1 h1 rfl 1 (bm_ix_nI (k := 1) (by decide)) (by decide) dB_isGood_32 ?_
  refine lv_topl (fun t2 e_t2 => ?_)
  have e_t2 : t2 = bm_pf f (bm_h3 (f 2) (f 3) (f 1)) 1 := by rw [e_t2]; exact bm_hs_at (by decide)
  subst e_t2
  refine lv_aload_n hx hb dB_isGood_33 rfl (lv_at hl 1 rfl) ?_
  refine bm_get (ci := 6) (v := .ref (x + 12)) (C := "BlindMint") (T := bt_B) (N := 12) hx hb hts bu_B hown hK hM h0 rfl 4 (by decide) (hts _ bw_113) (fun _ h9 => h9) rfl dB_isGood_34 ?_
  refine lv_iload_n hx hb dB_isGood_37 rfl (lv_at hl 0 rfl) ?_
  refine lv_iconst (v := 1) hx hb dB_isGood_38 (by decide) ?_
  refine lv_isub hx hb dB_isGood_39 ?_
  refine lv_topi (fun t3 e_t3 => ?_)
  have e_t3 : t3 = 0 := by rw [e_t3]; decide
  subst e_t3
  refine bm_lald hx hb hK hM 1 h1 rfl 0 (bm_ix_nI (k := 0) (by decide)) (by decide) dB_isGood_40 ?_
  refine lv_topl (fun t4 e_t4 => ?_)
  have e_t4 : t4 = bm_pf f (bm_h3 (f 2) (f 3) (f 1)) 0 := by rw [e_t4]; exact bm_hs_at (by decide)
  subst e_t4
  refine W.lcmp hx hb dB_isGood_41 ?_
  refine lv_if_ge (tgt := 47) hx hb dB_isGood_42 rfl (fun h42 => ?_) (fun h42 => ?_)
  · have hr1 : ¬ bm_pf f (bm_h3 (f 2) (f 3) (f 1)) 1 < bm_pf f (bm_h3 (f 2) (f 3) (f 1)) 0 := Int64.not_lt.mpr ((lg_cmp_ge _ _).mp h42)
    refine lv_iinc (v := 2) (k := 0) hx hb dB_isGood_47 hl rfl (by decide) (by decide) rfl (fun ls hl => ?_)
    have hl : lv_has ls 4 [(2, .int 2), (0, .ref x), (1, .ref e)] := hl
    refine lv_goto (tgt := 22) hx hb dB_isGood_50 rfl ?_
    refine lv_iload_n hx hb dB_isGood_22 rfl (lv_at hl 0 rfl) ?_
    refine lv_iconst (v := 4) hx hb dB_isGood_23 (by decide) ?_
    refine lv_icmp_ge (tgt := 53) hx hb dB_isGood_24 rfl (fun h => absurd h (by decide)) (fun _ => ?_)
    refine lv_aload_n hx hb dB_isGood_27 rfl (lv_at hl 1 rfl) ?_
    refine bm_get (ci := 6) (v := .ref (x + 12)) (C := "BlindMint") (T := bt_B) (N := 12) hx hb hts bu_B hown hK hM h0 rfl 4 (by decide) (hts _ bw_113) (fun _ h9 => h9) rfl dB_isGood_28 ?_
    refine lv_iload_n hx hb dB_isGood_31 rfl (lv_at hl 0 rfl) ?_
    refine bm_lald hx hb hK hM 1 h1 rfl 2 (bm_ix_nI (k := 2) (by decide)) (by decide) dB_isGood_32 ?_
    refine lv_topl (fun t5 e_t5 => ?_)
    have e_t5 : t5 = bm_pf f (bm_h3 (f 2) (f 3) (f 1)) 2 := by rw [e_t5]; exact bm_hs_at (by decide)
    subst e_t5
    refine lv_aload_n hx hb dB_isGood_33 rfl (lv_at hl 1 rfl) ?_
    refine bm_get (ci := 6) (v := .ref (x + 12)) (C := "BlindMint") (T := bt_B) (N := 12) hx hb hts bu_B hown hK hM h0 rfl 4 (by decide) (hts _ bw_113) (fun _ h9 => h9) rfl dB_isGood_34 ?_
    refine lv_iload_n hx hb dB_isGood_37 rfl (lv_at hl 0 rfl) ?_
    refine lv_iconst (v := 1) hx hb dB_isGood_38 (by decide) ?_
    refine lv_isub hx hb dB_isGood_39 ?_
    refine lv_topi (fun t6 e_t6 => ?_)
    have e_t6 : t6 = 1 := by rw [e_t6]; decide
    subst e_t6
    refine bm_lald hx hb hK hM 1 h1 rfl 1 (bm_ix_nI (k := 1) (by decide)) (by decide) dB_isGood_40 ?_
    refine lv_topl (fun t7 e_t7 => ?_)
    have e_t7 : t7 = bm_pf f (bm_h3 (f 2) (f 3) (f 1)) 1 := by rw [e_t7]; exact bm_hs_at (by decide)
    subst e_t7
    refine W.lcmp hx hb dB_isGood_41 ?_
    refine lv_if_ge (tgt := 47) hx hb dB_isGood_42 rfl (fun h42 => ?_) (fun h42 => ?_)
    · have hr2 : ¬ bm_pf f (bm_h3 (f 2) (f 3) (f 1)) 2 < bm_pf f (bm_h3 (f 2) (f 3) (f 1)) 1 := Int64.not_lt.mpr ((lg_cmp_ge _ _).mp h42)
      refine lv_iinc (v := 3) (k := 0) hx hb dB_isGood_47 hl rfl (by decide) (by decide) rfl (fun ls hl => ?_)
      have hl : lv_has ls 4 [(2, .int 3), (0, .ref x), (1, .ref e)] := hl
      refine lv_goto (tgt := 22) hx hb dB_isGood_50 rfl ?_
      refine lv_iload_n hx hb dB_isGood_22 rfl (lv_at hl 0 rfl) ?_
      refine lv_iconst (v := 4) hx hb dB_isGood_23 (by decide) ?_
      refine lv_icmp_ge (tgt := 53) hx hb dB_isGood_24 rfl (fun h => absurd h (by decide)) (fun _ => ?_)
      refine lv_aload_n hx hb dB_isGood_27 rfl (lv_at hl 1 rfl) ?_
      refine bm_get (ci := 6) (v := .ref (x + 12)) (C := "BlindMint") (T := bt_B) (N := 12) hx hb hts bu_B hown hK hM h0 rfl 4 (by decide) (hts _ bw_113) (fun _ h9 => h9) rfl dB_isGood_28 ?_
      refine lv_iload_n hx hb dB_isGood_31 rfl (lv_at hl 0 rfl) ?_
      refine bm_lald hx hb hK hM 1 h1 rfl 3 (bm_ix_nI (k := 3) (by decide)) (by decide) dB_isGood_32 ?_
      refine lv_topl (fun t8 e_t8 => ?_)
      have e_t8 : t8 = bm_pf f (bm_h3 (f 2) (f 3) (f 1)) 3 := by rw [e_t8]; exact bm_hs_at (by decide)
      subst e_t8
      refine lv_aload_n hx hb dB_isGood_33 rfl (lv_at hl 1 rfl) ?_
      refine bm_get (ci := 6) (v := .ref (x + 12)) (C := "BlindMint") (T := bt_B) (N := 12) hx hb hts bu_B hown hK hM h0 rfl 4 (by decide) (hts _ bw_113) (fun _ h9 => h9) rfl dB_isGood_34 ?_
      refine lv_iload_n hx hb dB_isGood_37 rfl (lv_at hl 0 rfl) ?_
      refine lv_iconst (v := 1) hx hb dB_isGood_38 (by decide) ?_
      refine lv_isub hx hb dB_isGood_39 ?_
      refine lv_topi (fun t9 e_t9 => ?_)
      have e_t9 : t9 = 2 := by rw [e_t9]; decide
      subst e_t9
      refine bm_lald hx hb hK hM 1 h1 rfl 2 (bm_ix_nI (k := 2) (by decide)) (by decide) dB_isGood_40 ?_
      refine lv_topl (fun t10 e_t10 => ?_)
      have e_t10 : t10 = bm_pf f (bm_h3 (f 2) (f 3) (f 1)) 2 := by rw [e_t10]; exact bm_hs_at (by decide)
      subst e_t10
      refine W.lcmp hx hb dB_isGood_41 ?_
      refine lv_if_ge (tgt := 47) hx hb dB_isGood_42 rfl (fun h42 => ?_) (fun h42 => ?_)
      · have hr3 : ¬ bm_pf f (bm_h3 (f 2) (f 3) (f 1)) 3 < bm_pf f (bm_h3 (f 2) (f 3) (f 1)) 2 := Int64.not_lt.mpr ((lg_cmp_ge _ _).mp h42)
        refine lv_iinc (v := 4) (k := 0) hx hb dB_isGood_47 hl rfl (by decide) (by decide) rfl (fun ls hl => ?_)
        have hl : lv_has ls 4 [(2, .int 4), (0, .ref x), (1, .ref e)] := hl
        refine lv_goto (tgt := 22) hx hb dB_isGood_50 rfl ?_
        refine lv_iload_n hx hb dB_isGood_22 rfl (lv_at hl 0 rfl) ?_
        refine lv_iconst (v := 4) hx hb dB_isGood_23 (by decide) ?_
        refine lv_icmp_ge (tgt := 53) hx hb dB_isGood_24 rfl (fun _ => ?_) (fun h => absurd h (by decide))
        refine lv_aload_n hx hb dB_isGood_53 rfl (lv_at hl 2 rfl) ?_
        refine bm_callE (va_runV (As := []) (rest := []) ⟨hx, hb, hml, hown, hts⟩ (bc_P_denomination l D ct base ad M1 sz e b f h2 h3) (cwV 0 hts (bm_goodV bw_158 bw_159 bw_160 bw_16 bw_161) rfl rfl rfl (by decide +kernel) (by rw [← hR]; exact ⟨Nat.le_of_ble_eq_true rfl, Nat.le_of_ble_eq_true rfl⟩)) (bm_preV hM hG hS hz h2 rfl) rfl rfl hl.1 rfl (lv_room (Nat.le_of_ble_eq_true rfl)) dB_isGood_54 (by rw [← hR]; exact ⟨Nat.le_of_ble_eq_true rfl, Nat.le_of_ble_eq_true rfl⟩)) hS (fun H locs hz hM hS => ?_)
        refine lv_aload_n hx hb dB_isGood_57 rfl (lv_at hl 1 rfl) ?_
        refine bm_get (ci := 6) (v := .ref (x + 12)) (C := "BlindMint") (T := bt_B) (N := 12) hx hb hts bu_B hown hK hM h0 rfl 4 (by decide) (hts _ bw_113) (fun _ h9 => h9) rfl dB_isGood_58 ?_
        refine bm_callE (va_runS (As := [.long (f 0), .ref (x + 12)]) (rest := []) ⟨hx, hb, hml, hown, hts⟩ (bc_H_ofCoin l D ct base ad M1 sz (f 0) (x + 12) (bm_hs (bm_pf f (bm_h3 (f 2) (f 3) (f 1))) h 4) h1) (va_cwS 2 hts (bm_goodS bw_197 bw_198 bw_11 bw_199) rfl rfl rfl (by decide +kernel) (by rw [← hR]; exact ⟨Nat.le_of_ble_eq_true rfl, Nat.le_of_ble_eq_true rfl⟩)) (bm_preS hM hG hS hz) rfl rfl hl.1 rfl (lv_room (Nat.le_of_ble_eq_true rfl)) dB_isGood_61 (by rw [← hR]; exact ⟨Nat.le_of_ble_eq_true rfl, Nat.le_of_ble_eq_true rfl⟩)) hS (fun H locs hz hM hS => ?_)
        refine lv_topl (fun t11 e_t11 => ?_)
        have e_t11 : t11 = lN k := by rw [e_t11]; rw [hd0]; exact (bm_hc_eq (fun t ht => bm_hs_at ht)).trans hnum
        subst e_t11
        refine lv_lstore_n hx hb dB_isGood_64 rfl hl (by decide) rfl (fun ls hl => ?_)
        have hl : lv_has ls 4 [(2, .long (lN k)), (0, .ref x), (1, .ref e)] := hl
        refine va_gets hx hb hG.2.2.2.1 hS hown (hts _ bw_165) (fun _ h9 => h9) dB_isGood_65 ?_
        refine lv_aload_n hx hb dB_isGood_68 rfl (lv_at hl 2 rfl) ?_
        refine bm_callE (va_runV (As := []) (rest := [.ref (ad 3)]) ⟨hx, hb, hml, hown, hts⟩ (bc_P_denomination l D ct base ad M1 sz e b f h2 h3) (cwV 0 hts (bm_goodV bw_158 bw_159 bw_160 bw_16 bw_161) rfl rfl rfl (by decide +kernel) (by rw [← hR]; exact ⟨Nat.le_of_ble_eq_true rfl, Nat.le_of_ble_eq_true rfl⟩)) (bm_preV hM hG hS hz h2 rfl) rfl rfl hl.1 rfl (lv_room (Nat.le_of_ble_eq_true rfl)) dB_isGood_69 (by rw [← hR]; exact ⟨Nat.le_of_ble_eq_true rfl, Nat.le_of_ble_eq_true rfl⟩)) hS (fun H locs hz hM hS => ?_)
        refine lv_topl (fun t12 e_t12 => ?_)
        have e_t12 : t12 = lN d := by rw [e_t12]; exact hd0
        subst e_t12
        refine lv_l2i (v := nI d) hx hb dB_isGood_72 (lN_i _) ?_
        refine bm_tq hx hb hG.2.2.2.2.1 hS d (bm_ix_nI (by omega)) (by omega) dB_isGood_73 ?_
        refine lv_aload_n hx hb dB_isGood_74 rfl (lv_at hl 2 rfl) ?_
        refine bm_callE (va_runV (As := []) (rest := [.ref (ad d)]) ⟨hx, hb, hml, hown, hts⟩ (bc_P_signatureNumber l D ct base ad M1 sz e b f h2 h3) (cwV 0 hts (bm_goodV bw_200 bw_201 bw_202 bw_16 bw_203) rfl rfl rfl (by decide +kernel) (by rw [← hR]; exact ⟨Nat.le_of_ble_eq_true rfl, Nat.le_of_ble_eq_true rfl⟩)) (bm_preV hM hG hS hz h2 rfl) rfl rfl hl.1 rfl (lv_room (Nat.le_of_ble_eq_true rfl)) dB_isGood_75 (by rw [← hR]; exact ⟨Nat.le_of_ble_eq_true rfl, Nat.le_of_ble_eq_true rfl⟩)) hS (fun H locs hz hM hS => ?_)
        refine lv_lload_n hx hb dB_isGood_78 rfl (lv_at hl 0 rfl) ?_
        refine bm_callE (bm_runVG (C := "BlindMint$Denomination") (n := 2) (As := [.long (f 1), .long (lN k)]) (rest := []) ⟨hx, hb, hml, hown, hts⟩ (bc_D_isSignature l D ct base ad M1 sz d (f 1) k hd (by omega)) bm_Post.ret bw_204 bw_205 bw_206 bw_207 rfl rfl (by decide +kernel) (by rw [← hR]; exact ⟨Nat.le_of_ble_eq_true rfl, Nat.le_of_ble_eq_true rfl⟩) (bm_preE hM hG hS hz hd) rfl rfl hl.1 rfl (lv_room (Nat.le_of_ble_eq_true rfl)) dB_isGood_79 (by rw [← hR]; exact ⟨Nat.le_of_ble_eq_true rfl, Nat.le_of_ble_eq_true rfl⟩)) hS (fun H locs hz hM hS => ?_)
        exact bm_zret hQ hx hb hr hlk bm_is_z hM hS ⟨congrArg (fun z => some (Value.int z)) (bm_gd_n (bm_gw_ok hr1 hr2 hr3)).symm, by rw [eM1], hz⟩ (Nat.le_refl _) (Nat.le_refl _) dB_isGood_82
      · refine lv_iconst (v := 0) hx hb dB_isGood_45 (by decide) ?_
        exact bm_zret hQ hx hb hr hlk (by decide) hM hS ⟨congrArg (fun z => some (Value.int z)) (bm_gd_0 (bm_gw_fall (j := 3) (by decide) (by decide) (Int64.not_le.mp (fun z => h42 ((lg_cmp_ge _ _).mpr z))))), by rw [eM1], hz⟩ (Nat.le_refl _) (Nat.le_refl _) dB_isGood_46
    · refine lv_iconst (v := 0) hx hb dB_isGood_45 (by decide) ?_
      exact bm_zret hQ hx hb hr hlk (by decide) hM hS ⟨congrArg (fun z => some (Value.int z)) (bm_gd_0 (bm_gw_fall (j := 2) (by decide) (by decide) (Int64.not_le.mp (fun z => h42 ((lg_cmp_ge _ _).mpr z))))), by rw [eM1], hz⟩ (Nat.le_refl _) (Nat.le_refl _) dB_isGood_46
  · refine lv_iconst (v := 0) hx hb dB_isGood_45 (by decide) ?_
    exact bm_zret hQ hx hb hr hlk (by decide) hM hS ⟨congrArg (fun z => some (Value.int z)) (bm_gd_0 (bm_gw_fall (j := 1) (by decide) (by decide) (Int64.not_le.mp (fun z => h42 ((lg_cmp_ge _ _).mpr z))))), by rw [eM1], hz⟩ (Nat.le_refl _) (Nat.le_refl _) dB_isGood_46
