set_option maxHeartbeats 4000000 in
set_option maxRecDepth 100000 in
theorem bc_B_number_ok (l : Launch) (D : va_G) (ct : Nat → ClassId) (base : Nat) (ad : Nat → Nat) (M : bm_Map) (sz : Nat) (x : Nat) (pc lt wc dc fc rc : Int32) (lb : Int64) (lc : Value) (k0 e b i : Nat) (pa : Nat → Option Nat) (f : Nat → Int64) (h0 : M x = some (.inr (6, [.ref (x + 1), .ref (x + 2), .ref (x + 11), .int pc, .ref (x + 12), lc, .int lt, .long lb, .int wc, .int dc, .int fc, .int rc]))) (g1 : M (x + 11) = some (.inl (ct 4, 20, .inr (.inr (.inr (.inr pa)))))) (g3 : M e = some (.inr (4, [.ref b]))) (g4 : M b = some (.inl (ct 1, 16, .inr (.inl f)))) (hk : k0 < 20) (hv : bm_bl (nI k0) pc = 1) (hpa : pa k0 = some e) (hi : i < 16) : Met l yB_number (bm_ws yB_number cB_number 4 (some .long)) { frames := 1, cells := 0, slots := 0, locals := 21 } (bm_Pre D ct base ad M sz [.ref x, .int (nI k0), .int (nI i)]) (bm_Post D base (bm_Is (some (.long (f i))) M sz)) 0 0 (bm_A base) := by
  refine bm_ofB (cc := cB_number) (maxL := 4) (ret := (some .long)) (by decide +kernel) (Nat.le_of_ble_eq_true rfl) ?_
  intro vp ve s vm args below meth vc hx hb hr hlk hts hown hml hnm ls hl hz hM hG R Q hR hQ
  have hown : s.vm.findClass "BlindMint" = some vm.cls := hown
  have hK := hG.K
  have hS : va_S (bm_A base) s.heap s.heap [] := va_S.rf
  have hl : lv_has ls 4 [(0, .ref x), (1, .int (nI k0)), (2, .int (nI i))] := hl
  refine lv_aload_n hx hb dB_number_0 rfl (lv_at hl 0 rfl) ?_
  refine lv_iload_n hx hb dB_number_1 rfl (lv_at hl 1 rfl) ?_
  refine bm_callE (va_runV (As := [.int (nI k0)]) (rest := []) ⟨hx, hb, hml, hown, hts⟩ (bc_B_findPayment_ok l D ct base ad M sz x pc lt wc dc fc rc lb lc k0 e pa h0 g1 hk hv hpa) (cwV 1 hts (bm_goodV bw_150 bw_152 bs_0 bw_1 bw_153) rfl rfl rfl (by decide +kernel) (by rw [← hR]; exact ⟨Nat.le_of_ble_eq_true rfl, Nat.le_of_ble_eq_true rfl⟩)) (bm_preV hM hG hS hz h0 rfl) rfl rfl hl.1 rfl (lv_room (Nat.le_of_ble_eq_true rfl)) dB_number_2 (by rw [← hR]; exact ⟨Nat.le_of_ble_eq_true rfl, Nat.le_of_ble_eq_true rfl⟩)) hS (fun H locs hz hM hS => ?_)
  refine lv_astore_n hx hb dB_number_5 rfl hl (by decide) rfl (fun ls hl => ?_)
  have hl : lv_has ls 4 [(3, .ref e), (0, .ref x), (1, .int (nI k0)), (2, .int (nI i))] := hl
  refine lv_aload_n hx hb dB_number_6 rfl (lv_at hl 0 rfl) ?_
  refine lv_ifnull hx hb dB_number_7 ?_
  refine lv_iload_n hx hb dB_number_10 rfl (lv_at hl 3 rfl) ?_
  refine bm_callE (va_runS (As := [.int (nI i)]) (rest := []) ⟨hx, hb, hml, hown, hts⟩ (bc_P_hasNumber l D ct base ad M sz (nI i)) (va_cwS 1 hts (bm_goodS bw_502 bw_503 bw_16 bw_504) rfl rfl rfl (by decide +kernel) (by rw [← hR]; exact ⟨Nat.le_of_ble_eq_true rfl, Nat.le_of_ble_eq_true rfl⟩)) (bm_preS hM hG hS hz) rfl rfl hl.1 rfl (lv_room (Nat.le_of_ble_eq_true rfl)) dB_number_11 (by rw [← hR]; exact ⟨Nat.le_of_ble_eq_true rfl, Nat.le_of_ble_eq_true rfl⟩)) hS (fun H locs hz hM hS => ?_)
  refine lv_if_ne (tgt := 25) hx hb dB_number_14 rfl (fun h14 => ?_) (fun h14 => absurd h14 (by rw [show bm_bl (nI i) 16 = 1 from bm_bl_nI (N := 16) hi (by decide)]; decide))
  refine lv_aload_n hx hb dB_number_25 rfl (lv_at hl 0 rfl) ?_
  refine bm_get (ci := 4) (v := .ref b) (C := "BlindMint$Payment") (T := bt_P) (N := 1) hx hb hts bu_P hown hK hM g3 rfl 0 (by decide) (hts _ bw_491) (fun _ h9 => h9) rfl dB_number_26 ?_
  refine lv_iload_n hx hb dB_number_29 rfl (lv_at hl 3 rfl) ?_
  refine bm_lald hx hb hK hM 1 g4 rfl i (bm_ix_nI (by omega)) (by omega) dB_number_30 ?_
  exact bm_lret hQ hx hb hr hlk hM hS ⟨rfl, rfl, hz⟩ (Nat.le_refl _) (Nat.le_refl _) dB_number_31
set_option maxHeartbeats 4000000 in
set_option maxRecDepth 100000 in
theorem bc_B_tamper_ok (l : Launch) (D : va_G) (ct : Nat → ClassId) (base : Nat) (ad : Nat → Nat) (M : bm_Map) (sz : Nat) (x : Nat) (pc lt wc dc fc rc : Int32) (lb : Int64) (lc : Value) (k0 e b i : Nat) (pa : Nat → Option Nat) (f : Nat → Int64) (w : Int64) (h0 : M x = some (.inr (6, [.ref (x + 1), .ref (x + 2), .ref (x + 11), .int pc, .ref (x + 12), lc, .int lt, .long lb, .int wc, .int dc, .int fc, .int rc]))) (g1 : M (x + 11) = some (.inl (ct 4, 20, .inr (.inr (.inr (.inr pa)))))) (g3 : M e = some (.inr (4, [.ref b]))) (g4 : M b = some (.inl (ct 1, 16, .inr (.inl f)))) (hk : k0 < 20) (hv : bm_bl (nI k0) pc = 1) (hpa : pa k0 = some e) (hi : i < 16) (hbx : x ≠ b) (hbp : x + 11 ≠ b) (hbe : e ≠ b) : Met l yB_tamper (bm_ws yB_tamper cB_tamper 6 (some .long)) { frames := 1, cells := 0, slots := 0, locals := 21 } (bm_Pre D ct base ad M sz [.ref x, .int (nI k0), .int (nI i), .long w]) (bm_Post D base (bm_Is (some (.long (f i ^^^ w))) (bm_up M b (.inl (ct 1, 16, .inr (.inl (vp_updL f i (f i ^^^ w)))))) sz)) 0 0 (bm_A base) := by
  refine bm_ofB (cc := cB_tamper) (maxL := 6) (ret := (some .long)) (by decide +kernel) (Nat.le_of_ble_eq_true rfl) ?_
  intro vp ve s vm args below meth vc hx hb hr hlk hts hown hml hnm ls hl hz hM hG R Q hR hQ
  have hown : s.vm.findClass "BlindMint" = some vm.cls := hown
  have hK := hG.K
  have hS : va_S (bm_A base) s.heap s.heap [] := va_S.rf
  have hl : lv_has ls 6 [(0, .ref x), (1, .int (nI k0)), (2, .int (nI i)), (3, .long w)] := hl
  refine lv_aload_n hx hb dB_tamper_0 rfl (lv_at hl 0 rfl) ?_
  refine lv_iload_n hx hb dB_tamper_1 rfl (lv_at hl 1 rfl) ?_
  refine bm_callE (va_runV (As := [.int (nI k0)]) (rest := []) ⟨hx, hb, hml, hown, hts⟩ (bc_B_findPayment_ok l D ct base ad M sz x pc lt wc dc fc rc lb lc k0 e pa h0 g1 hk hv hpa) (cwV 1 hts (bm_goodV bw_150 bw_152 bs_0 bw_1 bw_153) rfl rfl rfl (by decide +kernel) (by rw [← hR]; exact ⟨Nat.le_of_ble_eq_true rfl, Nat.le_of_ble_eq_true rfl⟩)) (bm_preV hM hG hS hz h0 rfl) rfl rfl hl.1 rfl (lv_room (Nat.le_of_ble_eq_true rfl)) dB_tamper_2 (by rw [← hR]; exact ⟨Nat.le_of_ble_eq_true rfl, Nat.le_of_ble_eq_true rfl⟩)) hS (fun H locs hz hM hS => ?_)
  refine lv_astore hx hb dB_tamper_5 hl (by decide) rfl (fun ls hl => ?_)
  have hl : lv_has ls 6 [(5, .ref e), (0, .ref x), (1, .int (nI k0)), (2, .int (nI i)), (3, .long w)] := hl
  refine lv_aload hx hb dB_tamper_7 (lv_at hl 0 rfl) ?_
  refine lv_ifnull hx hb dB_tamper_9 ?_
  refine lv_iload_n hx hb dB_tamper_12 rfl (lv_at hl 3 rfl) ?_
  refine bm_callE (va_runS (As := [.int (nI i)]) (rest := []) ⟨hx, hb, hml, hown, hts⟩ (bc_P_hasNumber l D ct base ad M sz (nI i)) (va_cwS 1 hts (bm_goodS bw_502 bw_503 bw_16 bw_504) rfl rfl rfl (by decide +kernel) (by rw [← hR]; exact ⟨Nat.le_of_ble_eq_true rfl, Nat.le_of_ble_eq_true rfl⟩)) (bm_preS hM hG hS hz) rfl rfl hl.1 rfl (lv_room (Nat.le_of_ble_eq_true rfl)) dB_tamper_13 (by rw [← hR]; exact ⟨Nat.le_of_ble_eq_true rfl, Nat.le_of_ble_eq_true rfl⟩)) hS (fun H locs hz hM hS => ?_)
  refine lv_if_ne (tgt := 27) hx hb dB_tamper_16 rfl (fun h16 => ?_) (fun h16 => absurd h16 (by rw [show bm_bl (nI i) 16 = 1 from bm_bl_nI (N := 16) hi (by decide)]; decide))
  refine lv_aload hx hb dB_tamper_27 (lv_at hl 0 rfl) ?_
  refine bm_get (ci := 4) (v := .ref b) (C := "BlindMint$Payment") (T := bt_P) (N := 1) hx hb hts bu_P hown hK hM g3 rfl 0 (by decide) (hts _ bw_491) (fun _ h9 => h9) rfl dB_tamper_29 ?_
  refine lv_iload_n hx hb dB_tamper_32 rfl (lv_at hl 3 rfl) ?_
  refine lv_dup2_11 hx hb dB_tamper_33 rfl rfl ?_
  refine bm_lald hx hb hK hM 1 g4 rfl i (bm_ix_nI (by omega)) (by omega) dB_tamper_34 ?_
  refine lv_lload_n hx hb dB_tamper_35 rfl (lv_at hl 4 rfl) ?_
  refine lv_lxor hx hb dB_tamper_36 ?_
  refine bm_last hx hb hK hM hS 1 g4 rfl i (bm_ix_nI (by omega)) (by omega) dB_tamper_37 (fun H locs hz1 hM hS => ?_)
  replace hz := hz1.trans hz
  replace hM : bm_M D base (bm_up M b (.inl (ct 1, 16, .inr (.inl (vp_updL f i ((f i) ^^^ w)))))) H := hM
  obtain ⟨M1, eM1⟩ : ∃ X, X = bm_up M b (.inl (ct 1, 16, .inr (.inl (vp_updL f i ((f i) ^^^ w))))) := ⟨_, rfl⟩
  rw [← eM1] at hM
  replace h0 : M1 x = some (.inr (6, [.ref (x + 1), .ref (x + 2), .ref (x + 11), .int pc, .ref (x + 12), lc, .int lt, .long lb, .int wc, .int dc, .int fc, .int rc])) := by rw [eM1, bm_up_ne (by omega)]; exact h0
  replace g1 : M1 (x + 11) = some (.inl (ct 4, 20, .inr (.inr (.inr (.inr pa))))) := by rw [eM1, bm_up_ne (by omega)]; exact g1
  replace g3 : M1 e = some (.inr (4, [.ref b])) := by rw [eM1, bm_up_ne (by omega)]; exact g3
  replace g4 : M1 b = some (.inl (ct 1, 16, .inr (.inl (vp_updL f i ((f i) ^^^ w))))) := by rw [eM1]; exact bm_up_self _ _ _
  refine lv_aload hx hb dB_tamper_38 (lv_at hl 0 rfl) ?_
  refine bm_get (ci := 4) (v := .ref b) (C := "BlindMint$Payment") (T := bt_P) (N := 1) hx hb hts bu_P hown hK hM g3 rfl 0 (by decide) (hts _ bw_491) (fun _ h9 => h9) rfl dB_tamper_40 ?_
  refine lv_iload_n hx hb dB_tamper_43 rfl (lv_at hl 3 rfl) ?_
  refine bm_lald hx hb hK hM 1 g4 rfl i (bm_ix_nI (by omega)) (by omega) dB_tamper_44 ?_
  refine lv_topl (fun t2 e_t2 => ?_)
  have e_t2 : t2 = f i ^^^ w := by rw [e_t2]; exact pk_uLs
  subst e_t2
  exact bm_lret hQ hx hb hr hlk hM hS ⟨rfl, by rw [eM1], hz⟩ (Nat.le_refl _) (Nat.le_refl _) dB_tamper_45
set_option maxHeartbeats 4000000 in
set_option maxRecDepth 100000 in
theorem bc_B_coin_ok (l : Launch) (D : va_G) (ct : Nat → ClassId) (base : Nat) (ad : Nat → Nat) (M : bm_Map) (sz : Nat) (x : Nat) (pc lt wc dc fc rc : Int32) (lb : Int64) (lc : Value) (j i e t1 t0 : Nat) (bal cc dn sp : Int32) (nu sg : Int64) (ac wf : Nat → Option Nat) (h0 : M x = some (.inr (6, [.ref (x + 1), .ref (x + 2), .ref (x + 11), .int pc, .ref (x + 12), lc, .int lt, .long lb, .int wc, .int dc, .int fc, .int rc]))) (g1 : M (x + 1) = some (.inl (ct 3, 4, .inr (.inr (.inr (.inr ac)))))) (g2 : M (x + (13 + 2 * j)) = some (.inr (0, [.int bal, .ref (x + (14 + 2 * j)), .int cc]))) (g3 : M (x + (14 + 2 * j)) = some (.inl (ct 6, 8, .inr (.inr (.inr (.inr wf)))))) (g4 : M e = some (.inr (2, [.int dn, .long nu, .long sg, .int sp, .ref t1, .ref t0]))) (hac : ∀ a, a < 4 → ac a = some (x + (13 + 2 * a))) (hj : j < 4) (hi : i < 8) (hw : bm_bl (nI i) cc = 1) (hwf : wf i = some e) : Met l yB_coin (bm_ws yB_coin cB_coin 4 (some .long)) { frames := 2, cells := 0, slots := 0, locals := 42 } (bm_Pre D ct base ad M sz [.ref x, .int (nI j), .int (nI i)]) (bm_Post D base (bm_Is (some (.long nu)) M sz)) 0 0 (bm_A base) := by
  refine bm_ofB (cc := cB_coin) (maxL := 4) (ret := (some .long)) (by decide +kernel) (Nat.le_of_ble_eq_true rfl) ?_
  intro vp ve s vm args below meth vc hx hb hr hlk hts hown hml hnm ls hl hz hM hG R Q hR hQ
  have hown : s.vm.findClass "BlindMint" = some vm.cls := hown
  have hK := hG.K
  have hS : va_S (bm_A base) s.heap s.heap [] := va_S.rf
  have hl : lv_has ls 4 [(0, .ref x), (1, .int (nI j)), (2, .int (nI i))] := hl
  refine lv_aload_n hx hb dB_coin_0 rfl (lv_at hl 0 rfl) ?_
  refine lv_iload_n hx hb dB_coin_1 rfl (lv_at hl 1 rfl) ?_
  refine lv_iload_n hx hb dB_coin_2 rfl (lv_at hl 2 rfl) ?_
  refine bm_callE (va_runV (As := [.int (nI j), .int (nI i)]) (rest := []) ⟨hx, hb, hml, hown, hts⟩ (bc_B_findCoin_ok l D ct base ad M sz x pc lt wc dc fc rc lb lc j i e bal cc ac wf h0 g1 g2 g3 hac hj hi hw hwf) (cwV 2 hts (bm_goodV bw_478 bw_480 bs_8 bw_1 bw_481) rfl rfl rfl (by decide +kernel) (by rw [← hR]; exact ⟨Nat.le_of_ble_eq_true rfl, Nat.le_of_ble_eq_true rfl⟩)) (bm_preV hM hG hS hz h0 rfl) rfl rfl hl.1 rfl (lv_room (Nat.le_of_ble_eq_true rfl)) dB_coin_3 (by rw [← hR]; exact ⟨Nat.le_of_ble_eq_true rfl, Nat.le_of_ble_eq_true rfl⟩)) hS (fun H locs hz hM hS => ?_)
  refine lv_astore_n hx hb dB_coin_6 rfl hl (by decide) rfl (fun ls hl => ?_)
  have hl : lv_has ls 4 [(3, .ref e), (0, .ref x), (1, .int (nI j)), (2, .int (nI i))] := hl
  refine lv_aload_n hx hb dB_coin_7 rfl (lv_at hl 0 rfl) ?_
  refine lv_ifnonnull (tgt := 19) hx hb dB_coin_8 rfl ?_
  refine lv_aload_n hx hb dB_coin_19 rfl (lv_at hl 0 rfl) ?_
  refine bm_get (ci := 2) (v := .long nu) (C := "BlindMint$Coin") (T := bt_O) (N := 6) hx hb hts bu_O hown hK hM g4 rfl 1 (by decide) (hts _ bw_416) (fun _ h9 => h9) rfl dB_coin_20 ?_
  exact bm_lret hQ hx hb hr hlk hM hS ⟨rfl, rfl, hz⟩ (Nat.le_refl _) (Nat.le_refl _) dB_coin_23
set_option maxHeartbeats 4000000 in
set_option maxRecDepth 100000 in
theorem bc_B_signature_ok (l : Launch) (D : va_G) (ct : Nat → ClassId) (base : Nat) (ad : Nat → Nat) (M : bm_Map) (sz : Nat) (x : Nat) (pc lt wc dc fc rc : Int32) (lb : Int64) (lc : Value) (j i e t1 t0 : Nat) (bal cc dn sp : Int32) (nu sg : Int64) (ac wf : Nat → Option Nat) (h0 : M x = some (.inr (6, [.ref (x + 1), .ref (x + 2), .ref (x + 11), .int pc, .ref (x + 12), lc, .int lt, .long lb, .int wc, .int dc, .int fc, .int rc]))) (g1 : M (x + 1) = some (.inl (ct 3, 4, .inr (.inr (.inr (.inr ac)))))) (g2 : M (x + (13 + 2 * j)) = some (.inr (0, [.int bal, .ref (x + (14 + 2 * j)), .int cc]))) (g3 : M (x + (14 + 2 * j)) = some (.inl (ct 6, 8, .inr (.inr (.inr (.inr wf)))))) (g4 : M e = some (.inr (2, [.int dn, .long nu, .long sg, .int sp, .ref t1, .ref t0]))) (hac : ∀ a, a < 4 → ac a = some (x + (13 + 2 * a))) (hj : j < 4) (hi : i < 8) (hw : bm_bl (nI i) cc = 1) (hwf : wf i = some e) : Met l yB_signature (bm_ws yB_signature cB_signature 4 (some .long)) { frames := 2, cells := 0, slots := 0, locals := 42 } (bm_Pre D ct base ad M sz [.ref x, .int (nI j), .int (nI i)]) (bm_Post D base (bm_Is (some (.long sg)) M sz)) 0 0 (bm_A base) := by
  refine bm_ofB (cc := cB_signature) (maxL := 4) (ret := (some .long)) (by decide +kernel) (Nat.le_of_ble_eq_true rfl) ?_
  intro vp ve s vm args below meth vc hx hb hr hlk hts hown hml hnm ls hl hz hM hG R Q hR hQ
  have hown : s.vm.findClass "BlindMint" = some vm.cls := hown
  have hK := hG.K
  have hS : va_S (bm_A base) s.heap s.heap [] := va_S.rf
  have hl : lv_has ls 4 [(0, .ref x), (1, .int (nI j)), (2, .int (nI i))] := hl
  refine lv_aload_n hx hb dB_signature_0 rfl (lv_at hl 0 rfl) ?_
  refine lv_iload_n hx hb dB_signature_1 rfl (lv_at hl 1 rfl) ?_
  refine lv_iload_n hx hb dB_signature_2 rfl (lv_at hl 2 rfl) ?_
  refine bm_callE (va_runV (As := [.int (nI j), .int (nI i)]) (rest := []) ⟨hx, hb, hml, hown, hts⟩ (bc_B_findCoin_ok l D ct base ad M sz x pc lt wc dc fc rc lb lc j i e bal cc ac wf h0 g1 g2 g3 hac hj hi hw hwf) (cwV 2 hts (bm_goodV bw_478 bw_480 bs_8 bw_1 bw_481) rfl rfl rfl (by decide +kernel) (by rw [← hR]; exact ⟨Nat.le_of_ble_eq_true rfl, Nat.le_of_ble_eq_true rfl⟩)) (bm_preV hM hG hS hz h0 rfl) rfl rfl hl.1 rfl (lv_room (Nat.le_of_ble_eq_true rfl)) dB_signature_3 (by rw [← hR]; exact ⟨Nat.le_of_ble_eq_true rfl, Nat.le_of_ble_eq_true rfl⟩)) hS (fun H locs hz hM hS => ?_)
  refine lv_astore_n hx hb dB_signature_6 rfl hl (by decide) rfl (fun ls hl => ?_)
  have hl : lv_has ls 4 [(3, .ref e), (0, .ref x), (1, .int (nI j)), (2, .int (nI i))] := hl
  refine lv_aload_n hx hb dB_signature_7 rfl (lv_at hl 0 rfl) ?_
  refine lv_ifnonnull (tgt := 19) hx hb dB_signature_8 rfl ?_
  refine lv_aload_n hx hb dB_signature_19 rfl (lv_at hl 0 rfl) ?_
  refine bm_get (ci := 2) (v := .long sg) (C := "BlindMint$Coin") (T := bt_O) (N := 6) hx hb hts bu_O hown hK hM g4 rfl 2 (by decide) (hts _ bw_419) (fun _ h9 => h9) rfl dB_signature_20 ?_
  exact bm_lret hQ hx hb hr hlk hM hS ⟨rfl, rfl, hz⟩ (Nat.le_refl _) (Nat.le_refl _) dB_signature_23
set_option maxHeartbeats 4000000 in
set_option maxRecDepth 100000 in
theorem bc_B_choose_ok (l : Launch) (D : va_G) (ct : Nat → ClassId) (base : Nat) (ad : Nat → Nat) (M : bm_Map) (sz : Nat) (x : Nat) (pc lt wc dc fc rc : Int32) (lb : Int64) (lc : Value) (j K : Nat) (w bal : Int32) (ac wf : Nat → Option Nat) (co t1 t0 : Nat → Nat) (f4 f7 : Nat → Int32) (nu sg : Nat → Int64) (h0 : M x = some (.inr (6, [.ref (x + 1), .ref (x + 2), .ref (x + 11), .int pc, .ref (x + 12), lc, .int lt, .long lb, .int wc, .int dc, .int fc, .int rc]))) (g1 : M (x + 1) = some (.inl (ct 3, 4, .inr (.inr (.inr (.inr ac)))))) (g2 : M (x + (13 + 2 * j)) = some (.inr (0, [.int bal, .ref (x + (14 + 2 * j)), .int (nI K)]))) (g3 : M (x + (14 + 2 * j)) = some (.inl (ct 6, 8, .inr (.inr (.inr (.inr wf)))))) (hac : ∀ a, a < 4 → ac a = some (x + (13 + 2 * a))) (hj : j < 4) (hw : 1 ≤ w) (hK8 : K ≤ 8) (hwf : ∀ i, i < K → wf i = some (co i)) (hco : ∀ i, i < K → M (co i) = some (.inr (2, [.int (f4 (8 * j + i)), .long (nu i), .long (sg i), .int (f7 (8 * j + i)), .ref (t1 i), .ref (t0 i)]))) (hend : (bm_cz f4 f7 j K w).2 = 0) : Met l yB_choose (bm_ws yB_choose cB_choose 9 (some .int)) { frames := 1, cells := 0, slots := 0, locals := 22 } (bm_Pre D ct base ad M sz [.ref x, .int (nI j), .int w]) (bm_Post D base (bm_Is (some (.int (bm_cz f4 f7 j K w).1)) M sz)) 0 0 (bm_A base) := by
  refine bm_ofB (cc := cB_choose) (maxL := 9) (ret := (some .int)) (by decide +kernel) (Nat.le_of_ble_eq_true rfl) ?_
  intro vp ve s vm args below meth vc hx hb hr hlk hts hown hml hnm ls hl hz hM hG R Q hR hQ
  have hown : s.vm.findClass "BlindMint" = some vm.cls := hown
  have hK := hG.K
  have hS : va_S (bm_A base) s.heap s.heap [] := va_S.rf
  have hl : lv_has ls 9 [(0, .ref x), (1, .int (nI j)), (2, .int w)] := hl
  refine lv_iload_n hx hb dB_choose_0 rfl (lv_at hl 1 rfl) ?_
  refine bm_callE (va_runS (As := [.int (nI j)]) (rest := []) ⟨hx, hb, hml, hown, hts⟩ (bc_B_isAccount l D ct base ad M sz (nI j)) (va_cwS 1 hts (bm_goodS bw_221 bw_222 bw_1 bw_223) rfl rfl rfl (by decide +kernel) (by rw [← hR]; exact ⟨Nat.le_of_ble_eq_true rfl, Nat.le_of_ble_eq_true rfl⟩)) (bm_preS hM hG hS hz) rfl rfl hl.1 rfl (lv_room (Nat.le_of_ble_eq_true rfl)) dB_choose_1 (by rw [← hR]; exact ⟨Nat.le_of_ble_eq_true rfl, Nat.le_of_ble_eq_true rfl⟩)) hS (fun H locs hz hM hS => ?_)
  refine lv_if_eq (tgt := 12) hx hb dB_choose_4 rfl (fun h4 => absurd h4 (by rw [show bm_bl (nI j) 4 = 1 from (bm_bl_nI (N := 4) hj (by decide))]; decide)) (fun h4 => ?_)
  refine lv_iload_n hx hb dB_choose_7 rfl (lv_at hl 2 rfl) ?_
  refine lv_iconst (v := 1) hx hb dB_choose_8 (by decide) ?_
  refine lv_icmp_ge (tgt := 20) hx hb dB_choose_9 rfl (fun h9 => ?_) (fun h9 => absurd hw h9)
  refine lv_aload_n hx hb dB_choose_20 rfl (lv_at hl 0 rfl) ?_
  refine bm_get (ci := 6) (v := .ref (x + 1)) (C := "BlindMint") (T := bt_B) (N := 12) hx hb hts bu_B hown hK hM h0 rfl 0 (by decide) (hts _ bw_109) (fun _ h9 => h9) rfl dB_choose_21 ?_
  refine lv_iload_n hx hb dB_choose_24 rfl (lv_at hl 1 rfl) ?_
  refine bm_aald (v := .ref (x + (13 + 2 * j))) hx hb hK hM 3 g1 rfl j (bm_ix_nI (by omega)) (by omega) (by rw [hac j hj]; rfl) dB_choose_25 ?_
  refine lv_astore_n hx hb dB_choose_26 rfl hl (by decide) rfl (fun ls hl => ?_)
  have hl : lv_has ls 9 [(3, .ref (x + (13 + 2 * j))), (0, .ref x), (1, .int (nI j)), (2, .int w)] := hl
  refine lv_iconst (v := 0) hx hb dB_choose_27 (by decide) ?_
  refine lv_istore hx hb dB_choose_28 hl (by decide) rfl (fun ls hl => ?_)
  have hl : lv_has ls 9 [(4, .int 0), (3, .ref (x + (13 + 2 * j))), (0, .ref x), (1, .int (nI j)), (2, .int w)] := hl
  refine lv_iload_n hx hb dB_choose_30 rfl (lv_at hl 4 rfl) ?_
  refine lv_istore hx hb dB_choose_31 hl (by decide) rfl (fun ls hl => ?_)
  have hl : lv_has ls 9 [(5, .int w), (4, .int 0), (3, .ref (x + (13 + 2 * j))), (0, .ref x), (1, .int (nI j)), (2, .int w)] := hl
  refine va_gets hx hb hG.2.2.2.1 hS hown (hts _ bw_165) (fun _ h9 => h9) dB_choose_33 ?_
  refine va_tlen (v := 3) hx hb hG.2.2.2.2.1 hS (by decide) dB_choose_36 ?_
  refine lv_iconst (v := 1) hx hb dB_choose_37 (by decide) ?_
  refine lv_isub hx hb dB_choose_38 ?_
  refine lv_topi (fun t1 e_t1 => ?_)
  have e_t1 : t1 = 2 := by rw [e_t1]; decide
  subst e_t1
  refine lv_istore hx hb dB_choose_39 hl (by decide) rfl (fun ls hl => ?_)
  have hl : lv_has ls 9 [(6, .int 2), (5, .int w), (4, .int 0), (3, .ref (x + (13 + 2 * j))), (0, .ref x), (1, .int (nI j)), (2, .int w)] := hl
  refine lv_iload hx hb dB_choose_41 (lv_at hl 0 rfl) ?_
  refine lv_if_lt (tgt := 115) hx hb dB_choose_43 rfl (fun h => absurd h (by decide)) (fun _ => ?_)
  refine va_gets hx hb hG.2.2.2.1 hS hown (hts _ bw_165) (fun _ h9 => h9) dB_choose_46 ?_
  refine lv_iload hx hb dB_choose_49 (lv_at hl 0 rfl) ?_
  refine bm_tq hx hb hG.2.2.2.2.1 hS 2 (bm_ix_nI (k := 2) (by decide)) (by decide) dB_choose_51 ?_
  refine va_getX (i := 2) hx hb hG.2.2.2.2.2.2.1 (by decide) hS hown (hts _ bw_835) (fun _ h9 => h9) dB_choose_52 ?_
  refine lv_istore hx hb dB_choose_55 hl (by decide) rfl (fun ls hl => ?_)
  have hl : lv_has ls 9 [(7, .int (bm_w 2)), (6, .int 2), (5, .int w), (4, .int 0), (3, .ref (x + (13 + 2 * j))), (0, .ref x), (1, .int (nI j)), (2, .int w)] := hl
  refine lv_iconst (v := 0) hx hb dB_choose_57 (by decide) ?_
  refine lv_istore hx hb dB_choose_58 hl (by decide) rfl (fun ls hl => ?_)
  have hl : lv_has ls 9 [(8, .int 0), (7, .int (bm_w 2)), (6, .int 2), (5, .int w), (4, .int 0), (3, .ref (x + (13 + 2 * j))), (0, .ref x), (1, .int (nI j)), (2, .int w)] := hl
  have hl : lv_has ls 9 [(0, .ref x), (3, .ref (x + (13 + 2 * j))), (4, .int 0), (5, .int w), (6, .int 2), (7, .int (bm_w 2)), (8, .int 0)] := lv_sub hl [6, 5, 4, 3, 2, 1, 0] rfl
  have loop : ∀ (n : Nat) (k : Nat) (ls : Array Slot) (H : Heap) (locs : List Loc), k + n = K → lv_has ls 9 [(0, .ref x), (3, .ref (x + (13 + 2 * j))), (4, .int ((bm_cs f4 f7 j 2 k (0, w)).1)), (5, .int ((bm_cs f4 f7 j 2 k (0, w)).2)), (6, .int 2), (7, .int (bm_w 2)), (8, .int (nI k))] → H.size = sz → bm_M D base M H → va_S (bm_A base) s.heap H locs → W vp l ve R s vm args below meth vc H locs 0 0 Q (F0 vm 60 ls []) := by
    intro n
    induction n with
    | zero =>
      intro k ls H locs hi hl hz hM hS
      obtain rfl : K = k := by omega
      have hl : lv_has ls 9 [(0, .ref x), (3, .ref (x + (13 + 2 * j))), (4, .int ((bm_cs f4 f7 j 2 K (0, w)).1)), (5, .int ((bm_cs f4 f7 j 2 K (0, w)).2)), (6, .int 2), (7, .int (bm_w 2)), (8, .int (nI K))] := hl
      refine lv_iload hx hb dB_choose_60 (lv_at hl 6 rfl) ?_
      refine lv_aload_n hx hb dB_choose_62 rfl (lv_at hl 1 rfl) ?_
      refine bm_get (ci := 0) (v := .int (nI K)) (C := "BlindMint$Account") (T := bt_A) (N := 3) hx hb hts bu_A hown hK hM g2 rfl 2 (by decide) (hts _ bw_100) (fun _ h9 => h9) rfl dB_choose_63 ?_
      refine lv_icmp_ge (tgt := 109) hx hb dB_choose_66 rfl (fun h66 => ?_) (fun h66 => absurd (Int32.le_refl _) h66)
      refine lv_iinc (v := 1) (k := 4) hx hb dB_choose_109 hl rfl (by decide) (by decide) rfl (fun ls hl => ?_)
      have hl : lv_has ls 9 [(6, .int 1), (0, .ref x), (3, .ref (x + (13 + 2 * j))), (4, .int ((bm_cs f4 f7 j 2 K (0, w)).1)), (5, .int ((bm_cs f4 f7 j 2 K (0, w)).2)), (7, .int (bm_w 2)), (8, .int (nI K))] := hl
      refine lv_goto (tgt := 41) hx hb dB_choose_112 rfl ?_
      refine lv_iload hx hb dB_choose_41 (lv_at hl 0 rfl) ?_
      refine lv_if_lt (tgt := 115) hx hb dB_choose_43 rfl (fun h => absurd h (by decide)) (fun _ => ?_)
      refine va_gets hx hb hG.2.2.2.1 hS hown (hts _ bw_165) (fun _ h9 => h9) dB_choose_46 ?_
      refine lv_iload hx hb dB_choose_49 (lv_at hl 0 rfl) ?_
      refine bm_tq hx hb hG.2.2.2.2.1 hS 1 (bm_ix_nI (k := 1) (by decide)) (by decide) dB_choose_51 ?_
      refine va_getX (i := 1) hx hb hG.2.2.2.2.2.2.1 (by decide) hS hown (hts _ bw_835) (fun _ h9 => h9) dB_choose_52 ?_
      refine lv_istore hx hb dB_choose_55 hl (by decide) rfl (fun ls hl => ?_)
      have hl : lv_has ls 9 [(7, .int (bm_w 1)), (6, .int 1), (0, .ref x), (3, .ref (x + (13 + 2 * j))), (4, .int ((bm_cs f4 f7 j 2 K (0, w)).1)), (5, .int ((bm_cs f4 f7 j 2 K (0, w)).2)), (8, .int (nI K))] := hl
      refine lv_iconst (v := 0) hx hb dB_choose_57 (by decide) ?_
      refine lv_istore hx hb dB_choose_58 hl (by decide) rfl (fun ls hl => ?_)
      have hl : lv_has ls 9 [(8, .int 0), (7, .int (bm_w 1)), (6, .int 1), (0, .ref x), (3, .ref (x + (13 + 2 * j))), (4, .int ((bm_cs f4 f7 j 2 K (0, w)).1)), (5, .int ((bm_cs f4 f7 j 2 K (0, w)).2))] := hl
      have hl : lv_has ls 9 [(0, .ref x), (3, .ref (x + (13 + 2 * j))), (4, .int ((bm_cs f4 f7 j 2 K (0, w)).1)), (5, .int ((bm_cs f4 f7 j 2 K (0, w)).2)), (6, .int 1), (7, .int (bm_w 1)), (8, .int 0)] := lv_sub hl [3, 4, 5, 6, 2, 1, 0] rfl
      have loop : ∀ (n : Nat) (k : Nat) (ls : Array Slot) (H : Heap) (locs : List Loc), k + n = K → lv_has ls 9 [(0, .ref x), (3, .ref (x + (13 + 2 * j))), (4, .int ((bm_cs f4 f7 j 1 k (bm_cs f4 f7 j 2 K (0, w))).1)), (5, .int ((bm_cs f4 f7 j 1 k (bm_cs f4 f7 j 2 K (0, w))).2)), (6, .int 1), (7, .int (bm_w 1)), (8, .int (nI k))] → H.size = sz → bm_M D base M H → va_S (bm_A base) s.heap H locs → W vp l ve R s vm args below meth vc H locs 0 0 Q (F0 vm 60 ls []) := by
        intro n
        induction n with
        | zero =>
          intro k ls H locs hi hl hz hM hS
          obtain rfl : K = k := by omega
          have hl : lv_has ls 9 [(0, .ref x), (3, .ref (x + (13 + 2 * j))), (4, .int ((bm_cs f4 f7 j 1 K (bm_cs f4 f7 j 2 K (0, w))).1)), (5, .int ((bm_cs f4 f7 j 1 K (bm_cs f4 f7 j 2 K (0, w))).2)), (6, .int 1), (7, .int (bm_w 1)), (8, .int (nI K))] := hl
          refine lv_iload hx hb dB_choose_60 (lv_at hl 6 rfl) ?_
          refine lv_aload_n hx hb dB_choose_62 rfl (lv_at hl 1 rfl) ?_
          refine bm_get (ci := 0) (v := .int (nI K)) (C := "BlindMint$Account") (T := bt_A) (N := 3) hx hb hts bu_A hown hK hM g2 rfl 2 (by decide) (hts _ bw_100) (fun _ h9 => h9) rfl dB_choose_63 ?_
          refine lv_icmp_ge (tgt := 109) hx hb dB_choose_66 rfl (fun h66 => ?_) (fun h66 => absurd (Int32.le_refl _) h66)
          refine lv_iinc (v := 0) (k := 4) hx hb dB_choose_109 hl rfl (by decide) (by decide) rfl (fun ls hl => ?_)
          have hl : lv_has ls 9 [(6, .int 0), (0, .ref x), (3, .ref (x + (13 + 2 * j))), (4, .int ((bm_cs f4 f7 j 1 K (bm_cs f4 f7 j 2 K (0, w))).1)), (5, .int ((bm_cs f4 f7 j 1 K (bm_cs f4 f7 j 2 K (0, w))).2)), (7, .int (bm_w 1)), (8, .int (nI K))] := hl
          refine lv_goto (tgt := 41) hx hb dB_choose_112 rfl ?_
          refine lv_iload hx hb dB_choose_41 (lv_at hl 0 rfl) ?_
          refine lv_if_lt (tgt := 115) hx hb dB_choose_43 rfl (fun h => absurd h (by decide)) (fun _ => ?_)
          refine va_gets hx hb hG.2.2.2.1 hS hown (hts _ bw_165) (fun _ h9 => h9) dB_choose_46 ?_
          refine lv_iload hx hb dB_choose_49 (lv_at hl 0 rfl) ?_
          refine bm_tq hx hb hG.2.2.2.2.1 hS 0 (bm_ix_nI (k := 0) (by decide)) (by decide) dB_choose_51 ?_
          refine va_getX (i := 0) hx hb hG.2.2.2.2.2.2.1 (by decide) hS hown (hts _ bw_835) (fun _ h9 => h9) dB_choose_52 ?_
          refine lv_istore hx hb dB_choose_55 hl (by decide) rfl (fun ls hl => ?_)
          have hl : lv_has ls 9 [(7, .int (bm_w 0)), (6, .int 0), (0, .ref x), (3, .ref (x + (13 + 2 * j))), (4, .int ((bm_cs f4 f7 j 1 K (bm_cs f4 f7 j 2 K (0, w))).1)), (5, .int ((bm_cs f4 f7 j 1 K (bm_cs f4 f7 j 2 K (0, w))).2)), (8, .int (nI K))] := hl
          refine lv_iconst (v := 0) hx hb dB_choose_57 (by decide) ?_
          refine lv_istore hx hb dB_choose_58 hl (by decide) rfl (fun ls hl => ?_)
          have hl : lv_has ls 9 [(8, .int 0), (7, .int (bm_w 0)), (6, .int 0), (0, .ref x), (3, .ref (x + (13 + 2 * j))), (4, .int ((bm_cs f4 f7 j 1 K (bm_cs f4 f7 j 2 K (0, w))).1)), (5, .int ((bm_cs f4 f7 j 1 K (bm_cs f4 f7 j 2 K (0, w))).2))] := hl
          have hl : lv_has ls 9 [(0, .ref x), (3, .ref (x + (13 + 2 * j))), (4, .int ((bm_cs f4 f7 j 1 K (bm_cs f4 f7 j 2 K (0, w))).1)), (5, .int ((bm_cs f4 f7 j 1 K (bm_cs f4 f7 j 2 K (0, w))).2)), (6, .int 0), (7, .int (bm_w 0)), (8, .int 0)] := lv_sub hl [3, 4, 5, 6, 2, 1, 0] rfl
          have loop : ∀ (n : Nat) (k : Nat) (ls : Array Slot) (H : Heap) (locs : List Loc), k + n = K → lv_has ls 9 [(0, .ref x), (3, .ref (x + (13 + 2 * j))), (4, .int ((bm_cs f4 f7 j 0 k (bm_cs f4 f7 j 1 K (bm_cs f4 f7 j 2 K (0, w)))).1)), (5, .int ((bm_cs f4 f7 j 0 k (bm_cs f4 f7 j 1 K (bm_cs f4 f7 j 2 K (0, w)))).2)), (6, .int 0), (7, .int (bm_w 0)), (8, .int (nI k))] → H.size = sz → bm_M D base M H → va_S (bm_A base) s.heap H locs → W vp l ve R s vm args below meth vc H locs 0 0 Q (F0 vm 60 ls []) := by
            intro n
            induction n with
            | zero =>
              intro k ls H locs hi hl hz hM hS
              obtain rfl : K = k := by omega
              have hl : lv_has ls 9 [(0, .ref x), (3, .ref (x + (13 + 2 * j))), (4, .int ((bm_cs f4 f7 j 0 K (bm_cs f4 f7 j 1 K (bm_cs f4 f7 j 2 K (0, w)))).1)), (5, .int ((bm_cs f4 f7 j 0 K (bm_cs f4 f7 j 1 K (bm_cs f4 f7 j 2 K (0, w)))).2)), (6, .int 0), (7, .int (bm_w 0)), (8, .int (nI K))] := hl
              refine lv_iload hx hb dB_choose_60 (lv_at hl 6 rfl) ?_
              refine lv_aload_n hx hb dB_choose_62 rfl (lv_at hl 1 rfl) ?_
              refine bm_get (ci := 0) (v := .int (nI K)) (C := "BlindMint$Account") (T := bt_A) (N := 3) hx hb hts bu_A hown hK hM g2 rfl 2 (by decide) (hts _ bw_100) (fun _ h9 => h9) rfl dB_choose_63 ?_
              refine lv_icmp_ge (tgt := 109) hx hb dB_choose_66 rfl (fun h66 => ?_) (fun h66 => absurd (Int32.le_refl _) h66)
              refine lv_iinc (v := (-1)) (k := 4) hx hb dB_choose_109 hl rfl (by decide) (by decide) rfl (fun ls hl => ?_)
              have hl : lv_has ls 9 [(6, .int (-1)), (0, .ref x), (3, .ref (x + (13 + 2 * j))), (4, .int ((bm_cs f4 f7 j 0 K (bm_cs f4 f7 j 1 K (bm_cs f4 f7 j 2 K (0, w)))).1)), (5, .int ((bm_cs f4 f7 j 0 K (bm_cs f4 f7 j 1 K (bm_cs f4 f7 j 2 K (0, w)))).2)), (7, .int (bm_w 0)), (8, .int (nI K))] := hl
              refine lv_goto (tgt := 41) hx hb dB_choose_112 rfl ?_
              refine lv_iload hx hb dB_choose_41 (lv_at hl 0 rfl) ?_
              refine lv_if_lt (tgt := 115) hx hb dB_choose_43 rfl (fun _ => ?_) (fun h => absurd h (by decide))
              refine lv_iload hx hb dB_choose_115 (lv_at hl 4 rfl) ?_
              refine lv_if_eq (tgt := 128) hx hb dB_choose_117 rfl (fun h117 => ?_) (fun h117 => absurd hend h117)
              refine lv_iload hx hb dB_choose_128 (lv_at hl 3 rfl) ?_
              exact bm_iret hQ hx hb hr hlk hM hS ⟨rfl, rfl, hz⟩ (Nat.le_refl _) (Nat.le_refl _) dB_choose_130
            | succ n ih =>
              intro k ls H locs hi hl hz hM hS
              refine lv_iload hx hb dB_choose_60 (lv_at hl 6 rfl) ?_
              refine lv_aload_n hx hb dB_choose_62 rfl (lv_at hl 1 rfl) ?_
              refine bm_get (ci := 0) (v := .int (nI K)) (C := "BlindMint$Account") (T := bt_A) (N := 3) hx hb hts bu_A hown hK hM g2 rfl 2 (by decide) (hts _ bw_100) (fun _ h9 => h9) rfl dB_choose_63 ?_
              refine lv_icmp_ge (tgt := 109) hx hb dB_choose_66 rfl (fun h66 => absurd h66 (nI_ge (by omega) (by omega))) (fun h66 => ?_)
              refine lv_aload_n hx hb dB_choose_69 rfl (lv_at hl 1 rfl) ?_
              refine lv_iload hx hb dB_choose_70 (lv_at hl 6 rfl) ?_
              refine lv_iload hx hb dB_choose_72 (lv_at hl 4 rfl) ?_
              have hk9 : k < K := by omega
              refine bm_callE (va_runV (As := [.int (nI k), .int 0]) (rest := []) ⟨hx, hb, hml, hown, hts⟩ (bc_A_hasUnspent l D ct base ad M sz (x + (13 + 2 * j)) (x + (14 + 2 * j)) k (co k) (t1 k) (t0 k) 0 bal (nI K) (f4 (8 * j + k)) (f7 (8 * j + k)) 0 (nu k) (sg k) wf g2 g3 (hco k hk9) (by omega) (hwf k hk9)) (cwV 2 hts (bm_goodV bw_452 bw_453 bw_454 bw_4 bw_455) rfl rfl rfl (by decide +kernel) (by rw [← hR]; exact ⟨Nat.le_of_ble_eq_true rfl, Nat.le_of_ble_eq_true rfl⟩)) (bm_preV hM hG hS hz g2 rfl) rfl rfl hl.1 rfl (lv_room (Nat.le_of_ble_eq_true rfl)) dB_choose_74 (by rw [← hR]; exact ⟨Nat.le_of_ble_eq_true rfl, Nat.le_of_ble_eq_true rfl⟩)) hS (fun H locs hz hM hS => ?_)
              refine lv_if_eq (tgt := 103) hx hb dB_choose_77 rfl (fun h77 => ?_) (fun h77 => ?_)
              · have hl : lv_has ls 9 [(0, .ref x), (3, .ref (x + (13 + 2 * j))), (4, .int ((bm_cs f4 f7 j 0 (k + 1) (bm_cs f4 f7 j 1 K (bm_cs f4 f7 j 2 K (0, w)))).1)), (5, .int ((bm_cs f4 f7 j 0 (k + 1) (bm_cs f4 f7 j 1 K (bm_cs f4 f7 j 2 K (0, w)))).2)), (6, .int 0), (7, .int (bm_w 0)), (8, .int (nI k))] := by rw [show bm_cs f4 f7 j 0 (k + 1) (bm_cs f4 f7 j 1 K (bm_cs f4 f7 j 2 K (0, w))) = _ from bm_cs_n2 (fun q => bm_hu_z h77 ⟨q.1, q.2.1⟩)]; exact hl
                refine lv_iinc (v := nI (k + 1)) (k := 6) hx hb dB_choose_103 hl rfl (bm_inc k) (by decide) rfl (fun ls hl => ?_)
                have hl : lv_has ls 9 [(8, .int (nI (k + 1))), (0, .ref x), (3, .ref (x + (13 + 2 * j))), (4, .int ((bm_cs f4 f7 j 0 (k + 1) (bm_cs f4 f7 j 1 K (bm_cs f4 f7 j 2 K (0, w)))).1)), (5, .int ((bm_cs f4 f7 j 0 (k + 1) (bm_cs f4 f7 j 1 K (bm_cs f4 f7 j 2 K (0, w)))).2)), (6, .int 0), (7, .int (bm_w 0))] := hl
                refine lv_goto (tgt := 60) hx hb dB_choose_106 rfl ?_
                have hl : lv_has ls 9 [(0, .ref x), (3, .ref (x + (13 + 2 * j))), (4, .int ((bm_cs f4 f7 j 0 (k + 1) (bm_cs f4 f7 j 1 K (bm_cs f4 f7 j 2 K (0, w)))).1)), (5, .int ((bm_cs f4 f7 j 0 (k + 1) (bm_cs f4 f7 j 1 K (bm_cs f4 f7 j 2 K (0, w)))).2)), (6, .int 0), (7, .int (bm_w 0)), (8, .int (nI (k + 1)))] := lv_sub hl [1, 2, 3, 4, 5, 6, 0] rfl
                exact ih (k + 1) ls _ _ (by omega) hl hz hM hS
              · refine lv_iload hx hb dB_choose_80 (lv_at hl 5 rfl) ?_
                refine lv_iload hx hb dB_choose_82 (lv_at hl 3 rfl) ?_
                refine lv_icmp_gt (tgt := 103) hx hb dB_choose_84 rfl (fun h84 => ?_) (fun h84 => ?_)
                · have hl : lv_has ls 9 [(0, .ref x), (3, .ref (x + (13 + 2 * j))), (4, .int ((bm_cs f4 f7 j 0 (k + 1) (bm_cs f4 f7 j 1 K (bm_cs f4 f7 j 2 K (0, w)))).1)), (5, .int ((bm_cs f4 f7 j 0 (k + 1) (bm_cs f4 f7 j 1 K (bm_cs f4 f7 j 2 K (0, w)))).2)), (6, .int 0), (7, .int (bm_w 0)), (8, .int (nI k))] := by rw [show bm_cs f4 f7 j 0 (k + 1) (bm_cs f4 f7 j 1 K (bm_cs f4 f7 j 2 K (0, w))) = _ from bm_cs_n2 (fun q => q.2.2 h84)]; exact hl
                  refine lv_iinc (v := nI (k + 1)) (k := 6) hx hb dB_choose_103 hl rfl (bm_inc k) (by decide) rfl (fun ls hl => ?_)
                  have hl : lv_has ls 9 [(8, .int (nI (k + 1))), (0, .ref x), (3, .ref (x + (13 + 2 * j))), (4, .int ((bm_cs f4 f7 j 0 (k + 1) (bm_cs f4 f7 j 1 K (bm_cs f4 f7 j 2 K (0, w)))).1)), (5, .int ((bm_cs f4 f7 j 0 (k + 1) (bm_cs f4 f7 j 1 K (bm_cs f4 f7 j 2 K (0, w)))).2)), (6, .int 0), (7, .int (bm_w 0))] := hl
                  refine lv_goto (tgt := 60) hx hb dB_choose_106 rfl ?_
                  have hl : lv_has ls 9 [(0, .ref x), (3, .ref (x + (13 + 2 * j))), (4, .int ((bm_cs f4 f7 j 0 (k + 1) (bm_cs f4 f7 j 1 K (bm_cs f4 f7 j 2 K (0, w)))).1)), (5, .int ((bm_cs f4 f7 j 0 (k + 1) (bm_cs f4 f7 j 1 K (bm_cs f4 f7 j 2 K (0, w)))).2)), (6, .int 0), (7, .int (bm_w 0)), (8, .int (nI (k + 1)))] := lv_sub hl [1, 2, 3, 4, 5, 6, 0] rfl
                  exact ih (k + 1) ls _ _ (by omega) hl hz hM hS
                · refine lv_iload hx hb dB_choose_87 (lv_at hl 2 rfl) ?_
                  refine lv_iconst (v := 1) hx hb dB_choose_89 (by decide) ?_
                  refine lv_iload hx hb dB_choose_90 (lv_at hl 6 rfl) ?_
                  refine lv_ishl hx hb dB_choose_92 ?_
                  refine lv_ior hx hb dB_choose_93 ?_
                  refine lv_istore hx hb dB_choose_94 hl (by decide) rfl (fun ls hl => ?_)
                  have hl : lv_has ls 9 [(4, .int (((bm_cs f4 f7 j 0 k (bm_cs f4 f7 j 1 K (bm_cs f4 f7 j 2 K (0, w)))).1) ||| (1 <<< ((nI k) &&& 31)))), (0, .ref x), (3, .ref (x + (13 + 2 * j))), (5, .int ((bm_cs f4 f7 j 0 k (bm_cs f4 f7 j 1 K (bm_cs f4 f7 j 2 K (0, w)))).2)), (6, .int 0), (7, .int (bm_w 0)), (8, .int (nI k))] := hl
                  refine lv_iload hx hb dB_choose_96 (lv_at hl 3 rfl) ?_
                  refine lv_iload hx hb dB_choose_98 (lv_at hl 5 rfl) ?_
                  refine lv_isub hx hb dB_choose_100 ?_
                  refine lv_istore hx hb dB_choose_101 hl (by decide) rfl (fun ls hl => ?_)
                  have hl : lv_has ls 9 [(5, .int (((bm_cs f4 f7 j 0 k (bm_cs f4 f7 j 1 K (bm_cs f4 f7 j 2 K (0, w)))).2) - (bm_w 0))), (4, .int (((bm_cs f4 f7 j 0 k (bm_cs f4 f7 j 1 K (bm_cs f4 f7 j 2 K (0, w)))).1) ||| (1 <<< ((nI k) &&& 31)))), (0, .ref x), (3, .ref (x + (13 + 2 * j))), (6, .int 0), (7, .int (bm_w 0)), (8, .int (nI k))] := hl
                  have hl : lv_has ls 9 [(5, .int ((bm_cs f4 f7 j 0 (k + 1) (bm_cs f4 f7 j 1 K (bm_cs f4 f7 j 2 K (0, w)))).2)), (4, .int ((bm_cs f4 f7 j 0 (k + 1) (bm_cs f4 f7 j 1 K (bm_cs f4 f7 j 2 K (0, w)))).1)), (0, .ref x), (3, .ref (x + (13 + 2 * j))), (6, .int 0), (7, .int (bm_w 0)), (8, .int (nI k))] := by rw [show bm_cs f4 f7 j 0 (k + 1) (bm_cs f4 f7 j 1 K (bm_cs f4 f7 j 2 K (0, w))) = _ from bm_cs_y (bm_hu_nz h77).1 (bm_hu_nz h77).2 h84]; exact hl
                  refine lv_iinc (v := nI (k + 1)) (k := 6) hx hb dB_choose_103 hl rfl (bm_inc k) (by decide) rfl (fun ls hl => ?_)
                  have hl : lv_has ls 9 [(8, .int (nI (k + 1))), (5, .int ((bm_cs f4 f7 j 0 (k + 1) (bm_cs f4 f7 j 1 K (bm_cs f4 f7 j 2 K (0, w)))).2)), (4, .int ((bm_cs f4 f7 j 0 (k + 1) (bm_cs f4 f7 j 1 K (bm_cs f4 f7 j 2 K (0, w)))).1)), (0, .ref x), (3, .ref (x + (13 + 2 * j))), (6, .int 0), (7, .int (bm_w 0))] := hl
                  refine lv_goto (tgt := 60) hx hb dB_choose_106 rfl ?_
                  have hl : lv_has ls 9 [(0, .ref x), (3, .ref (x + (13 + 2 * j))), (4, .int ((bm_cs f4 f7 j 0 (k + 1) (bm_cs f4 f7 j 1 K (bm_cs f4 f7 j 2 K (0, w)))).1)), (5, .int ((bm_cs f4 f7 j 0 (k + 1) (bm_cs f4 f7 j 1 K (bm_cs f4 f7 j 2 K (0, w)))).2)), (6, .int 0), (7, .int (bm_w 0)), (8, .int (nI (k + 1)))] := lv_sub hl [3, 4, 2, 1, 5, 6, 0] rfl
                  exact ih (k + 1) ls _ _ (by omega) hl hz hM hS
          exact loop K 0 ls _ _ (by omega) hl hz hM hS
        | succ n ih =>
          intro k ls H locs hi hl hz hM hS
          refine lv_iload hx hb dB_choose_60 (lv_at hl 6 rfl) ?_
          refine lv_aload_n hx hb dB_choose_62 rfl (lv_at hl 1 rfl) ?_
          refine bm_get (ci := 0) (v := .int (nI K)) (C := "BlindMint$Account") (T := bt_A) (N := 3) hx hb hts bu_A hown hK hM g2 rfl 2 (by decide) (hts _ bw_100) (fun _ h9 => h9) rfl dB_choose_63 ?_
          refine lv_icmp_ge (tgt := 109) hx hb dB_choose_66 rfl (fun h66 => absurd h66 (nI_ge (by omega) (by omega))) (fun h66 => ?_)
          refine lv_aload_n hx hb dB_choose_69 rfl (lv_at hl 1 rfl) ?_
          refine lv_iload hx hb dB_choose_70 (lv_at hl 6 rfl) ?_
          refine lv_iload hx hb dB_choose_72 (lv_at hl 4 rfl) ?_
          have hk9 : k < K := by omega
          refine bm_callE (va_runV (As := [.int (nI k), .int 1]) (rest := []) ⟨hx, hb, hml, hown, hts⟩ (bc_A_hasUnspent l D ct base ad M sz (x + (13 + 2 * j)) (x + (14 + 2 * j)) k (co k) (t1 k) (t0 k) 0 bal (nI K) (f4 (8 * j + k)) (f7 (8 * j + k)) 1 (nu k) (sg k) wf g2 g3 (hco k hk9) (by omega) (hwf k hk9)) (cwV 2 hts (bm_goodV bw_452 bw_453 bw_454 bw_4 bw_455) rfl rfl rfl (by decide +kernel) (by rw [← hR]; exact ⟨Nat.le_of_ble_eq_true rfl, Nat.le_of_ble_eq_true rfl⟩)) (bm_preV hM hG hS hz g2 rfl) rfl rfl hl.1 rfl (lv_room (Nat.le_of_ble_eq_true rfl)) dB_choose_74 (by rw [← hR]; exact ⟨Nat.le_of_ble_eq_true rfl, Nat.le_of_ble_eq_true rfl⟩)) hS (fun H locs hz hM hS => ?_)
          refine lv_if_eq (tgt := 103) hx hb dB_choose_77 rfl (fun h77 => ?_) (fun h77 => ?_)
          · have hl : lv_has ls 9 [(0, .ref x), (3, .ref (x + (13 + 2 * j))), (4, .int ((bm_cs f4 f7 j 1 (k + 1) (bm_cs f4 f7 j 2 K (0, w))).1)), (5, .int ((bm_cs f4 f7 j 1 (k + 1) (bm_cs f4 f7 j 2 K (0, w))).2)), (6, .int 1), (7, .int (bm_w 1)), (8, .int (nI k))] := by rw [show bm_cs f4 f7 j 1 (k + 1) (bm_cs f4 f7 j 2 K (0, w)) = _ from bm_cs_n2 (fun q => bm_hu_z h77 ⟨q.1, q.2.1⟩)]; exact hl
            refine lv_iinc (v := nI (k + 1)) (k := 6) hx hb dB_choose_103 hl rfl (bm_inc k) (by decide) rfl (fun ls hl => ?_)
            have hl : lv_has ls 9 [(8, .int (nI (k + 1))), (0, .ref x), (3, .ref (x + (13 + 2 * j))), (4, .int ((bm_cs f4 f7 j 1 (k + 1) (bm_cs f4 f7 j 2 K (0, w))).1)), (5, .int ((bm_cs f4 f7 j 1 (k + 1) (bm_cs f4 f7 j 2 K (0, w))).2)), (6, .int 1), (7, .int (bm_w 1))] := hl
            refine lv_goto (tgt := 60) hx hb dB_choose_106 rfl ?_
            have hl : lv_has ls 9 [(0, .ref x), (3, .ref (x + (13 + 2 * j))), (4, .int ((bm_cs f4 f7 j 1 (k + 1) (bm_cs f4 f7 j 2 K (0, w))).1)), (5, .int ((bm_cs f4 f7 j 1 (k + 1) (bm_cs f4 f7 j 2 K (0, w))).2)), (6, .int 1), (7, .int (bm_w 1)), (8, .int (nI (k + 1)))] := lv_sub hl [1, 2, 3, 4, 5, 6, 0] rfl
            exact ih (k + 1) ls _ _ (by omega) hl hz hM hS
          · refine lv_iload hx hb dB_choose_80 (lv_at hl 5 rfl) ?_
            refine lv_iload hx hb dB_choose_82 (lv_at hl 3 rfl) ?_
            refine lv_icmp_gt (tgt := 103) hx hb dB_choose_84 rfl (fun h84 => ?_) (fun h84 => ?_)
            · have hl : lv_has ls 9 [(0, .ref x), (3, .ref (x + (13 + 2 * j))), (4, .int ((bm_cs f4 f7 j 1 (k + 1) (bm_cs f4 f7 j 2 K (0, w))).1)), (5, .int ((bm_cs f4 f7 j 1 (k + 1) (bm_cs f4 f7 j 2 K (0, w))).2)), (6, .int 1), (7, .int (bm_w 1)), (8, .int (nI k))] := by rw [show bm_cs f4 f7 j 1 (k + 1) (bm_cs f4 f7 j 2 K (0, w)) = _ from bm_cs_n2 (fun q => q.2.2 h84)]; exact hl
              refine lv_iinc (v := nI (k + 1)) (k := 6) hx hb dB_choose_103 hl rfl (bm_inc k) (by decide) rfl (fun ls hl => ?_)
              have hl : lv_has ls 9 [(8, .int (nI (k + 1))), (0, .ref x), (3, .ref (x + (13 + 2 * j))), (4, .int ((bm_cs f4 f7 j 1 (k + 1) (bm_cs f4 f7 j 2 K (0, w))).1)), (5, .int ((bm_cs f4 f7 j 1 (k + 1) (bm_cs f4 f7 j 2 K (0, w))).2)), (6, .int 1), (7, .int (bm_w 1))] := hl
              refine lv_goto (tgt := 60) hx hb dB_choose_106 rfl ?_
              have hl : lv_has ls 9 [(0, .ref x), (3, .ref (x + (13 + 2 * j))), (4, .int ((bm_cs f4 f7 j 1 (k + 1) (bm_cs f4 f7 j 2 K (0, w))).1)), (5, .int ((bm_cs f4 f7 j 1 (k + 1) (bm_cs f4 f7 j 2 K (0, w))).2)), (6, .int 1), (7, .int (bm_w 1)), (8, .int (nI (k + 1)))] := lv_sub hl [1, 2, 3, 4, 5, 6, 0] rfl
              exact ih (k + 1) ls _ _ (by omega) hl hz hM hS
            · refine lv_iload hx hb dB_choose_87 (lv_at hl 2 rfl) ?_
              refine lv_iconst (v := 1) hx hb dB_choose_89 (by decide) ?_
              refine lv_iload hx hb dB_choose_90 (lv_at hl 6 rfl) ?_
              refine lv_ishl hx hb dB_choose_92 ?_
              refine lv_ior hx hb dB_choose_93 ?_
              refine lv_istore hx hb dB_choose_94 hl (by decide) rfl (fun ls hl => ?_)
              have hl : lv_has ls 9 [(4, .int (((bm_cs f4 f7 j 1 k (bm_cs f4 f7 j 2 K (0, w))).1) ||| (1 <<< ((nI k) &&& 31)))), (0, .ref x), (3, .ref (x + (13 + 2 * j))), (5, .int ((bm_cs f4 f7 j 1 k (bm_cs f4 f7 j 2 K (0, w))).2)), (6, .int 1), (7, .int (bm_w 1)), (8, .int (nI k))] := hl
              refine lv_iload hx hb dB_choose_96 (lv_at hl 3 rfl) ?_
              refine lv_iload hx hb dB_choose_98 (lv_at hl 5 rfl) ?_
              refine lv_isub hx hb dB_choose_100 ?_
              refine lv_istore hx hb dB_choose_101 hl (by decide) rfl (fun ls hl => ?_)
              have hl : lv_has ls 9 [(5, .int (((bm_cs f4 f7 j 1 k (bm_cs f4 f7 j 2 K (0, w))).2) - (bm_w 1))), (4, .int (((bm_cs f4 f7 j 1 k (bm_cs f4 f7 j 2 K (0, w))).1) ||| (1 <<< ((nI k) &&& 31)))), (0, .ref x), (3, .ref (x + (13 + 2 * j))), (6, .int 1), (7, .int (bm_w 1)), (8, .int (nI k))] := hl
              have hl : lv_has ls 9 [(5, .int ((bm_cs f4 f7 j 1 (k + 1) (bm_cs f4 f7 j 2 K (0, w))).2)), (4, .int ((bm_cs f4 f7 j 1 (k + 1) (bm_cs f4 f7 j 2 K (0, w))).1)), (0, .ref x), (3, .ref (x + (13 + 2 * j))), (6, .int 1), (7, .int (bm_w 1)), (8, .int (nI k))] := by rw [show bm_cs f4 f7 j 1 (k + 1) (bm_cs f4 f7 j 2 K (0, w)) = _ from bm_cs_y (bm_hu_nz h77).1 (bm_hu_nz h77).2 h84]; exact hl
              refine lv_iinc (v := nI (k + 1)) (k := 6) hx hb dB_choose_103 hl rfl (bm_inc k) (by decide) rfl (fun ls hl => ?_)
              have hl : lv_has ls 9 [(8, .int (nI (k + 1))), (5, .int ((bm_cs f4 f7 j 1 (k + 1) (bm_cs f4 f7 j 2 K (0, w))).2)), (4, .int ((bm_cs f4 f7 j 1 (k + 1) (bm_cs f4 f7 j 2 K (0, w))).1)), (0, .ref x), (3, .ref (x + (13 + 2 * j))), (6, .int 1), (7, .int (bm_w 1))] := hl
              refine lv_goto (tgt := 60) hx hb dB_choose_106 rfl ?_
              have hl : lv_has ls 9 [(0, .ref x), (3, .ref (x + (13 + 2 * j))), (4, .int ((bm_cs f4 f7 j 1 (k + 1) (bm_cs f4 f7 j 2 K (0, w))).1)), (5, .int ((bm_cs f4 f7 j 1 (k + 1) (bm_cs f4 f7 j 2 K (0, w))).2)), (6, .int 1), (7, .int (bm_w 1)), (8, .int (nI (k + 1)))] := lv_sub hl [3, 4, 2, 1, 5, 6, 0] rfl
              exact ih (k + 1) ls _ _ (by omega) hl hz hM hS
      exact loop K 0 ls _ _ (by omega) hl hz hM hS
    | succ n ih =>
      intro k ls H locs hi hl hz hM hS
      refine lv_iload hx hb dB_choose_60 (lv_at hl 6 rfl) ?_
      refine lv_aload_n hx hb dB_choose_62 rfl (lv_at hl 1 rfl) ?_
      refine bm_get (ci := 0) (v := .int (nI K)) (C := "BlindMint$Account") (T := bt_A) (N := 3) hx hb hts bu_A hown hK hM g2 rfl 2 (by decide) (hts _ bw_100) (fun _ h9 => h9) rfl dB_choose_63 ?_
      refine lv_icmp_ge (tgt := 109) hx hb dB_choose_66 rfl (fun h66 => absurd h66 (nI_ge (by omega) (by omega))) (fun h66 => ?_)
      refine lv_aload_n hx hb dB_choose_69 rfl (lv_at hl 1 rfl) ?_
      refine lv_iload hx hb dB_choose_70 (lv_at hl 6 rfl) ?_
      refine lv_iload hx hb dB_choose_72 (lv_at hl 4 rfl) ?_
      have hk9 : k < K := by omega
      refine bm_callE (va_runV (As := [.int (nI k), .int 2]) (rest := []) ⟨hx, hb, hml, hown, hts⟩ (bc_A_hasUnspent l D ct base ad M sz (x + (13 + 2 * j)) (x + (14 + 2 * j)) k (co k) (t1 k) (t0 k) 0 bal (nI K) (f4 (8 * j + k)) (f7 (8 * j + k)) 2 (nu k) (sg k) wf g2 g3 (hco k hk9) (by omega) (hwf k hk9)) (cwV 2 hts (bm_goodV bw_452 bw_453 bw_454 bw_4 bw_455) rfl rfl rfl (by decide +kernel) (by rw [← hR]; exact ⟨Nat.le_of_ble_eq_true rfl, Nat.le_of_ble_eq_true rfl⟩)) (bm_preV hM hG hS hz g2 rfl) rfl rfl hl.1 rfl (lv_room (Nat.le_of_ble_eq_true rfl)) dB_choose_74 (by rw [← hR]; exact ⟨Nat.le_of_ble_eq_true rfl, Nat.le_of_ble_eq_true rfl⟩)) hS (fun H locs hz hM hS => ?_)
      refine lv_if_eq (tgt := 103) hx hb dB_choose_77 rfl (fun h77 => ?_) (fun h77 => ?_)
      · have hl : lv_has ls 9 [(0, .ref x), (3, .ref (x + (13 + 2 * j))), (4, .int ((bm_cs f4 f7 j 2 (k + 1) (0, w)).1)), (5, .int ((bm_cs f4 f7 j 2 (k + 1) (0, w)).2)), (6, .int 2), (7, .int (bm_w 2)), (8, .int (nI k))] := by rw [show bm_cs f4 f7 j 2 (k + 1) (0, w) = _ from bm_cs_n2 (fun q => bm_hu_z h77 ⟨q.1, q.2.1⟩)]; exact hl
        refine lv_iinc (v := nI (k + 1)) (k := 6) hx hb dB_choose_103 hl rfl (bm_inc k) (by decide) rfl (fun ls hl => ?_)
        have hl : lv_has ls 9 [(8, .int (nI (k + 1))), (0, .ref x), (3, .ref (x + (13 + 2 * j))), (4, .int ((bm_cs f4 f7 j 2 (k + 1) (0, w)).1)), (5, .int ((bm_cs f4 f7 j 2 (k + 1) (0, w)).2)), (6, .int 2), (7, .int (bm_w 2))] := hl
        refine lv_goto (tgt := 60) hx hb dB_choose_106 rfl ?_
        have hl : lv_has ls 9 [(0, .ref x), (3, .ref (x + (13 + 2 * j))), (4, .int ((bm_cs f4 f7 j 2 (k + 1) (0, w)).1)), (5, .int ((bm_cs f4 f7 j 2 (k + 1) (0, w)).2)), (6, .int 2), (7, .int (bm_w 2)), (8, .int (nI (k + 1)))] := lv_sub hl [1, 2, 3, 4, 5, 6, 0] rfl
        exact ih (k + 1) ls _ _ (by omega) hl hz hM hS
      · refine lv_iload hx hb dB_choose_80 (lv_at hl 5 rfl) ?_
        refine lv_iload hx hb dB_choose_82 (lv_at hl 3 rfl) ?_
        refine lv_icmp_gt (tgt := 103) hx hb dB_choose_84 rfl (fun h84 => ?_) (fun h84 => ?_)
        · have hl : lv_has ls 9 [(0, .ref x), (3, .ref (x + (13 + 2 * j))), (4, .int ((bm_cs f4 f7 j 2 (k + 1) (0, w)).1)), (5, .int ((bm_cs f4 f7 j 2 (k + 1) (0, w)).2)), (6, .int 2), (7, .int (bm_w 2)), (8, .int (nI k))] := by rw [show bm_cs f4 f7 j 2 (k + 1) (0, w) = _ from bm_cs_n2 (fun q => q.2.2 h84)]; exact hl
          refine lv_iinc (v := nI (k + 1)) (k := 6) hx hb dB_choose_103 hl rfl (bm_inc k) (by decide) rfl (fun ls hl => ?_)
          have hl : lv_has ls 9 [(8, .int (nI (k + 1))), (0, .ref x), (3, .ref (x + (13 + 2 * j))), (4, .int ((bm_cs f4 f7 j 2 (k + 1) (0, w)).1)), (5, .int ((bm_cs f4 f7 j 2 (k + 1) (0, w)).2)), (6, .int 2), (7, .int (bm_w 2))] := hl
          refine lv_goto (tgt := 60) hx hb dB_choose_106 rfl ?_
          have hl : lv_has ls 9 [(0, .ref x), (3, .ref (x + (13 + 2 * j))), (4, .int ((bm_cs f4 f7 j 2 (k + 1) (0, w)).1)), (5, .int ((bm_cs f4 f7 j 2 (k + 1) (0, w)).2)), (6, .int 2), (7, .int (bm_w 2)), (8, .int (nI (k + 1)))] := lv_sub hl [1, 2, 3, 4, 5, 6, 0] rfl
          exact ih (k + 1) ls _ _ (by omega) hl hz hM hS
        · refine lv_iload hx hb dB_choose_87 (lv_at hl 2 rfl) ?_
          refine lv_iconst (v := 1) hx hb dB_choose_89 (by decide) ?_
          refine lv_iload hx hb dB_choose_90 (lv_at hl 6 rfl) ?_
          refine lv_ishl hx hb dB_choose_92 ?_
          refine lv_ior hx hb dB_choose_93 ?_
          refine lv_istore hx hb dB_choose_94 hl (by decide) rfl (fun ls hl => ?_)
          have hl : lv_has ls 9 [(4, .int (((bm_cs f4 f7 j 2 k (0, w)).1) ||| (1 <<< ((nI k) &&& 31)))), (0, .ref x), (3, .ref (x + (13 + 2 * j))), (5, .int ((bm_cs f4 f7 j 2 k (0, w)).2)), (6, .int 2), (7, .int (bm_w 2)), (8, .int (nI k))] := hl
          refine lv_iload hx hb dB_choose_96 (lv_at hl 3 rfl) ?_
          refine lv_iload hx hb dB_choose_98 (lv_at hl 5 rfl) ?_
          refine lv_isub hx hb dB_choose_100 ?_
          refine lv_istore hx hb dB_choose_101 hl (by decide) rfl (fun ls hl => ?_)
          have hl : lv_has ls 9 [(5, .int (((bm_cs f4 f7 j 2 k (0, w)).2) - (bm_w 2))), (4, .int (((bm_cs f4 f7 j 2 k (0, w)).1) ||| (1 <<< ((nI k) &&& 31)))), (0, .ref x), (3, .ref (x + (13 + 2 * j))), (6, .int 2), (7, .int (bm_w 2)), (8, .int (nI k))] := hl
          have hl : lv_has ls 9 [(5, .int ((bm_cs f4 f7 j 2 (k + 1) (0, w)).2)), (4, .int ((bm_cs f4 f7 j 2 (k + 1) (0, w)).1)), (0, .ref x), (3, .ref (x + (13 + 2 * j))), (6, .int 2), (7, .int (bm_w 2)), (8, .int (nI k))] := by rw [show bm_cs f4 f7 j 2 (k + 1) (0, w) = _ from bm_cs_y (bm_hu_nz h77).1 (bm_hu_nz h77).2 h84]; exact hl
          refine lv_iinc (v := nI (k + 1)) (k := 6) hx hb dB_choose_103 hl rfl (bm_inc k) (by decide) rfl (fun ls hl => ?_)
          have hl : lv_has ls 9 [(8, .int (nI (k + 1))), (5, .int ((bm_cs f4 f7 j 2 (k + 1) (0, w)).2)), (4, .int ((bm_cs f4 f7 j 2 (k + 1) (0, w)).1)), (0, .ref x), (3, .ref (x + (13 + 2 * j))), (6, .int 2), (7, .int (bm_w 2))] := hl
          refine lv_goto (tgt := 60) hx hb dB_choose_106 rfl ?_
          have hl : lv_has ls 9 [(0, .ref x), (3, .ref (x + (13 + 2 * j))), (4, .int ((bm_cs f4 f7 j 2 (k + 1) (0, w)).1)), (5, .int ((bm_cs f4 f7 j 2 (k + 1) (0, w)).2)), (6, .int 2), (7, .int (bm_w 2)), (8, .int (nI (k + 1)))] := lv_sub hl [3, 4, 2, 1, 5, 6, 0] rfl
          exact ih (k + 1) ls _ _ (by omega) hl hz hM hS
  exact loop K 0 ls _ _ (by omega) hl hz hM hS
