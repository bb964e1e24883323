set_option maxHeartbeats 4000000 in
set_option maxRecDepth 100000 in
theorem bw_L_withdraw_ok (l : Launch) (D : va_G) (ct : Nat → ClassId) (base : Nat) (ad : Nat → Nat) (M : bm_Map) (sz : Nat) (x o : Nat) (a1 : Int32) (a2 : Int32) (a3 : Int64) (a4 : Int32) (fs : List Value) (mc ms : Nat) (w : Nat → Int64) (post : Option Value → bm_Map → Nat → Prop) (hx0 : M x = some (.inr (6, fs))) (hC : Met l yB_withdraw (bm_ws yB_withdraw cB_withdraw 11 (some .int)) { frames := 6, cells := mc, slots := ms, locals := 157 } (bm_Pre D ct base ad M sz [.ref x, .int a1, .int a2, .long a3, .int a4]) (bm_Post D base post) mc ms (bm_A base)) (hpo : ∀ r M1 n, post r M1 n → ∃ i : Int32, r = some (.int i) ∧ M1 o = some (.inl (ct 1, 1, .inr (.inl w)))) : bm_MG l yL_withdraw (bm_wl yL_withdraw cL_withdraw 8 (some .int) [(0, 14, 17, 13), (0, 14, 21, 15)]) { frames := 7, cells := mc, slots := ms, locals := 187 } (bm_Pre D ct base ad M sz [.ref x, .int a1, .int a2, .long a3, .int a4, .ref o]) (bm_Post D base (fun r M2 n => r = some (.int 0) ∧ ∃ (i : Int32) (M1 : bm_Map), post (some (.int i)) M1 n ∧ M2 = bm_up M1 o (.inl (ct 1, 1, .inr (.inl (vp_updL w 0 i.toInt64)))))) mc ms (bm_A base) := by
  refine bm_ofL (cc := cL_withdraw) (maxL := 8) (ret := (some .int)) (tb := [(0, 14, 17, 13), (0, 14, 21, 15)]) (by decide +kernel) (Nat.le_of_ble_eq_true rfl) ?_
  intro vp ve s vm args below meth vc hx hb hr hlk hts hown hml hnm ls hl hz hM hG R Q hR hQ hT
  have hown : s.vm.findClass "BlindMintLaw" = some vm.cls := hown
  have hK := hG.K
  have hS : va_S (bm_A base) s.heap s.heap [] := va_S.rf
  have hl : lv_has ls 8 [(0, .ref x), (1, .int a1), (2, .int a2), (3, .long a3), (5, .int a4), (6, .ref o)] := hl
  refine lv_aload hx hb dL_withdraw_0 (lv_at hl 5 rfl) ?_
  refine lv_iconst (v := 0) hx hb dL_withdraw_2 (by decide) ?_
  refine lv_aload_n hx hb dL_withdraw_3 rfl (lv_at hl 0 rfl) ?_
  refine lv_iload_n hx hb dL_withdraw_4 rfl (lv_at hl 1 rfl) ?_
  refine lv_iload_n hx hb dL_withdraw_5 rfl (lv_at hl 2 rfl) ?_
  refine lv_lload_n hx hb dL_withdraw_6 rfl (lv_at hl 3 rfl) ?_
  refine lv_iload hx hb dL_withdraw_7 (lv_at hl 4 rfl) ?_
  refine bm_call (va_runV (As := [.int a1, .int a2, .long a3, .int a4]) (rest := [.int 0, .ref o]) ⟨hx, hb, hml, hown, hts⟩ hC (cwV 4 hts (bm_goodV bw_237 bw_238 bw_239 bw_1 bw_240) rfl rfl rfl (by decide +kernel) (by rw [← hR]; exact ⟨Nat.le_of_ble_eq_true rfl, Nat.le_of_ble_eq_true rfl⟩)) (bm_preV hM hG hS hz hx0 rfl) rfl rfl hl.1 rfl (lv_room (Nat.le_of_ble_eq_true rfl)) dL_withdraw_9 (by rw [← hR]; exact ⟨(Nat.le_of_eq (Nat.zero_add _)), (Nat.le_of_eq (Nat.zero_add _))⟩)) hS (fun v9 M9 H locs hq hM hS _ => ?_)
  obtain ⟨i, rfl, ho⟩ := hpo _ _ _ hq
  obtain ⟨z9, hz⟩ : ∃ z, H.size = z := ⟨_, rfl⟩
  rw [hz] at hq
  refine lv_i2l hx hb dL_withdraw_12 rfl ?_
  refine bm_last hx hb hK hM hS 1 ho rfl 0 (bm_ix_nI (k := 0) (by decide)) (by decide) dL_withdraw_13 (fun H locs hz1 hM hS => ?_)
  replace hz := hz1.trans hz
  replace hM : bm_M D base (bm_up M9 o (.inl (ct 1, 1, .inr (.inl (vp_updL w 0 i.toInt64))))) H := hM
  obtain ⟨M1, eM1⟩ : ∃ X, X = bm_up M9 o (.inl (ct 1, 1, .inr (.inl (vp_updL w 0 i.toInt64)))) := ⟨_, rfl⟩
  rw [← eM1] at hM
  replace ho : M1 o = some (.inl (ct 1, 1, .inr (.inl (vp_updL w 0 i.toInt64)))) := by rw [eM1]; exact bm_up_self _ _ _
  refine lv_goto (tgt := 25) hx hb dL_withdraw_14 rfl ?_
  refine lv_iconst (v := 0) hx hb dL_withdraw_25 (by decide) ?_
  exact bm_iret hQ hx hb hr hlk hM hS ⟨rfl, i, M9, by rw [hz]; exact hq, eM1⟩ (Nat.le_of_eq (Nat.zero_add _)) (Nat.le_of_eq (Nat.zero_add _)) dL_withdraw_26
set_option maxHeartbeats 4000000 in
set_option maxRecDepth 100000 in
theorem bw_L_withdraw_t1 (l : Launch) (D : va_G) (ct : Nat → ClassId) (base : Nat) (ad : Nat → Nat) (M : bm_Map) (sz : Nat) (x o : Nat) (a1 : Int32) (a2 : Int32) (a3 : Int64) (a4 : Int32) (fs : List Value) (mc ms : Nat) (post : bm_Map → Nat → Prop) (hx0 : M x = some (.inr (6, fs))) (hC : bm_MG l yB_withdraw (bm_ws yB_withdraw cB_withdraw 11 (some .int)) { frames := 6, cells := mc, slots := ms, locals := 157 } (bm_Pre D ct base ad M sz [.ref x, .int a1, .int a2, .long a3, .int a4]) (bm_PostT D base "java/lang/IllegalArgumentException" post) mc ms (bm_A base)) : bm_MG l yL_withdraw (bm_wl yL_withdraw cL_withdraw 8 (some .int) [(0, 14, 17, 13), (0, 14, 21, 15)]) { frames := 7, cells := mc, slots := ms, locals := 187 } (bm_Pre D ct base ad M sz [.ref x, .int a1, .int a2, .long a3, .int a4, .ref o]) (bm_Post D base (fun r M2 n => r = some (.int 1) ∧ post M2 n)) mc ms (bm_A base) := by
  refine bm_ofL (cc := cL_withdraw) (maxL := 8) (ret := (some .int)) (tb := [(0, 14, 17, 13), (0, 14, 21, 15)]) (by decide +kernel) (Nat.le_of_ble_eq_true rfl) ?_
  intro vp ve s vm args below meth vc hx hb hr hlk hts hown hml hnm ls hl hz hM hG R Q hR hQ hT
  have hown : s.vm.findClass "BlindMintLaw" = some vm.cls := hown
  have hK := hG.K
  have hS : va_S (bm_A base) s.heap s.heap [] := va_S.rf
  have hl : lv_has ls 8 [(0, .ref x), (1, .int a1), (2, .int a2), (3, .long a3), (5, .int a4), (6, .ref o)] := hl
  refine lv_aload hx hb dL_withdraw_0 (lv_at hl 5 rfl) ?_
  refine lv_iconst (v := 0) hx hb dL_withdraw_2 (by decide) ?_
  refine lv_aload_n hx hb dL_withdraw_3 rfl (lv_at hl 0 rfl) ?_
  refine lv_iload_n hx hb dL_withdraw_4 rfl (lv_at hl 1 rfl) ?_
  refine lv_iload_n hx hb dL_withdraw_5 rfl (lv_at hl 2 rfl) ?_
  refine lv_lload_n hx hb dL_withdraw_6 rfl (lv_at hl 3 rfl) ?_
  refine lv_iload hx hb dL_withdraw_7 (lv_at hl 4 rfl) ?_
  refine bm_callT (n := 4) (As := [.int a1, .int a2, .long a3, .int a4]) (rest := [.int 0, .ref o]) (K := "java/lang/IllegalArgumentException") ⟨hx, hb, hml, hown, hts⟩ hC bw_237 bw_238 bw_239 bw_240 rfl rfl (by decide +kernel) (by rw [← hR]; exact ⟨Nat.le_of_ble_eq_true rfl, Nat.le_of_ble_eq_true rfl⟩) (bm_preV hM hG hS hz hx0 rfl) rfl hl.1 (Nat.le_of_ble_eq_true rfl) dL_withdraw_9 (by rw [← hR]; exact ⟨(Nat.le_of_eq (Nat.zero_add _)), (Nat.le_of_eq (Nat.zero_add _))⟩) hS (hpc := 17) (fun T locs cells slots xa ce X hce hv hc => bm_catch1 X hce hv rfl hown hT ⟨Nat.le_of_ble_eq_true rfl, Nat.le_of_ble_eq_true rfl⟩ (by decide) (hts _ bw_235) (va_Nw.use rfl hG.2.2.1.w243) (by rw [← X.warmed.alike.findClass]; exact hc)) (fun xa M9 H locs hq hM hS => ?_)
  obtain ⟨z9, hz⟩ : ∃ z, H.size = z := ⟨_, rfl⟩
  refine lv_astore hx hb dL_withdraw_17 hl (by decide) rfl (fun ls hl => ?_)
  have hl : lv_has ls 8 [(7, .ref xa), (0, .ref x), (1, .int a1), (2, .int a2), (3, .long a3), (5, .int a4), (6, .ref o)] := hl
  refine lv_iconst (v := 1) hx hb dL_withdraw_19 (by decide) ?_
  exact bm_iret hQ hx hb hr hlk hM hS ⟨rfl, hq⟩ (Nat.le_of_eq (Nat.zero_add _)) (Nat.le_of_eq (Nat.zero_add _)) dL_withdraw_20
set_option maxHeartbeats 4000000 in
set_option maxRecDepth 100000 in
theorem bw_L_withdraw_t2 (l : Launch) (D : va_G) (ct : Nat → ClassId) (base : Nat) (ad : Nat → Nat) (M : bm_Map) (sz : Nat) (x o : Nat) (a1 : Int32) (a2 : Int32) (a3 : Int64) (a4 : Int32) (fs : List Value) (mc ms : Nat) (post : bm_Map → Nat → Prop) (hx0 : M x = some (.inr (6, fs))) (hC : bm_MG l yB_withdraw (bm_ws yB_withdraw cB_withdraw 11 (some .int)) { frames := 6, cells := mc, slots := ms, locals := 157 } (bm_Pre D ct base ad M sz [.ref x, .int a1, .int a2, .long a3, .int a4]) (bm_PostT D base "java/lang/IllegalStateException" post) mc ms (bm_A base)) : bm_MG l yL_withdraw (bm_wl yL_withdraw cL_withdraw 8 (some .int) [(0, 14, 17, 13), (0, 14, 21, 15)]) { frames := 7, cells := mc, slots := ms, locals := 187 } (bm_Pre D ct base ad M sz [.ref x, .int a1, .int a2, .long a3, .int a4, .ref o]) (bm_Post D base (fun r M2 n => r = some (.int 2) ∧ post M2 n)) mc ms (bm_A base) := by
  refine bm_ofL (cc := cL_withdraw) (maxL := 8) (ret := (some .int)) (tb := [(0, 14, 17, 13), (0, 14, 21, 15)]) (by decide +kernel) (Nat.le_of_ble_eq_true rfl) ?_
  intro vp ve s vm args below meth vc hx hb hr hlk hts hown hml hnm ls hl hz hM hG R Q hR hQ hT
  have hown : s.vm.findClass "BlindMintLaw" = some vm.cls := hown
  have hK := hG.K
  have hS : va_S (bm_A base) s.heap s.heap [] := va_S.rf
  have hl : lv_has ls 8 [(0, .ref x), (1, .int a1), (2, .int a2), (3, .long a3), (5, .int a4), (6, .ref o)] := hl
  refine lv_aload hx hb dL_withdraw_0 (lv_at hl 5 rfl) ?_
  refine lv_iconst (v := 0) hx hb dL_withdraw_2 (by decide) ?_
  refine lv_aload_n hx hb dL_withdraw_3 rfl (lv_at hl 0 rfl) ?_
  refine lv_iload_n hx hb dL_withdraw_4 rfl (lv_at hl 1 rfl) ?_
  refine lv_iload_n hx hb dL_withdraw_5 rfl (lv_at hl 2 rfl) ?_
  refine lv_lload_n hx hb dL_withdraw_6 rfl (lv_at hl 3 rfl) ?_
  refine lv_iload hx hb dL_withdraw_7 (lv_at hl 4 rfl) ?_
  refine bm_callT (n := 4) (As := [.int a1, .int a2, .long a3, .int a4]) (rest := [.int 0, .ref o]) (K := "java/lang/IllegalStateException") ⟨hx, hb, hml, hown, hts⟩ hC bw_237 bw_238 bw_239 bw_240 rfl rfl (by decide +kernel) (by rw [← hR]; exact ⟨Nat.le_of_ble_eq_true rfl, Nat.le_of_ble_eq_true rfl⟩) (bm_preV hM hG hS hz hx0 rfl) rfl hl.1 (Nat.le_of_ble_eq_true rfl) dL_withdraw_9 (by rw [← hR]; exact ⟨(Nat.le_of_eq (Nat.zero_add _)), (Nat.le_of_eq (Nat.zero_add _))⟩) hS (hpc := 21) (fun T locs cells slots xa ce X hce hv hc => bm_catch2 X hce hv rfl hown hT ⟨⟨Nat.le_of_ble_eq_true rfl, Nat.le_of_ble_eq_true rfl⟩, ⟨Nat.le_of_ble_eq_true rfl, Nat.le_of_ble_eq_true rfl⟩⟩ (by decide) (by decide) (hts _ bw_235) (hts _ bw_236) (va_Nw.use rfl hG.2.2.1.w310) (by rw [← X.warmed.alike.findClass]; exact hc) (bm_noSA hG (by rw [← X.warmed.alike.findClass]; exact hc))) (fun xa M9 H locs hq hM hS => ?_)
  obtain ⟨z9, hz⟩ : ∃ z, H.size = z := ⟨_, rfl⟩
  refine lv_astore hx hb dL_withdraw_21 hl (by decide) rfl (fun ls hl => ?_)
  have hl : lv_has ls 8 [(7, .ref xa), (0, .ref x), (1, .int a1), (2, .int a2), (3, .long a3), (5, .int a4), (6, .ref o)] := hl
  refine lv_iconst (v := 2) hx hb dL_withdraw_23 (by decide) ?_
  exact bm_iret hQ hx hb hr hlk hM hS ⟨rfl, hq⟩ (Nat.le_of_eq (Nat.zero_add _)) (Nat.le_of_eq (Nat.zero_add _)) dL_withdraw_24
set_option maxHeartbeats 4000000 in
set_option maxRecDepth 100000 in
theorem bw_L_choose_ok (l : Launch) (D : va_G) (ct : Nat → ClassId) (base : Nat) (ad : Nat → Nat) (M : bm_Map) (sz : Nat) (x o : Nat) (a1 : Int32) (a2 : Int32) (fs : List Value) (mc ms : Nat) (w : Nat → Int64) (post : Option Value → bm_Map → Nat → Prop) (hx0 : M x = some (.inr (6, fs))) (hC : Met l yB_choose (bm_ws yB_choose cB_choose 9 (some .int)) { frames := 1, cells := mc, slots := ms, locals := 22 } (bm_Pre D ct base ad M sz [.ref x, .int a1, .int a2]) (bm_Post D base post) mc ms (bm_A base)) (hpo : ∀ r M1 n, post r M1 n → ∃ i : Int32, r = some (.int i) ∧ M1 o = some (.inl (ct 1, 1, .inr (.inl w)))) : bm_MG l yL_choose (bm_wl yL_choose cL_choose 5 (some .int) [(0, 10, 13, 13), (0, 10, 17, 21)]) { frames := 2, cells := mc, slots := ms, locals := 50 } (bm_Pre D ct base ad M sz [.ref x, .int a1, .int a2, .ref o]) (bm_Post D base (fun r M2 n => r = some (.int 0) ∧ ∃ (i : Int32) (M1 : bm_Map), post (some (.int i)) M1 n ∧ M2 = bm_up M1 o (.inl (ct 1, 1, .inr (.inl (vp_updL w 0 i.toInt64)))))) mc ms (bm_A base) := by
  refine bm_ofL (cc := cL_choose) (maxL := 5) (ret := (some .int)) (tb := [(0, 10, 13, 13), (0, 10, 17, 21)]) (by decide +kernel) (Nat.le_of_ble_eq_true rfl) ?_
  intro vp ve s vm args below meth vc hx hb hr hlk hts hown hml hnm ls hl hz hM hG R Q hR hQ hT
  have hown : s.vm.findClass "BlindMintLaw" = some vm.cls := hown
  have hK := hG.K
  have hS : va_S (bm_A base) s.heap s.heap [] := va_S.rf
  have hl : lv_has ls 5 [(0, .ref x), (1, .int a1), (2, .int a2), (3, .ref o)] := hl
  refine lv_aload_n hx hb dL_choose_0 rfl (lv_at hl 3 rfl) ?_
  refine lv_iconst (v := 0) hx hb dL_choose_1 (by decide) ?_
  refine lv_aload_n hx hb dL_choose_2 rfl (lv_at hl 0 rfl) ?_
  refine lv_iload_n hx hb dL_choose_3 rfl (lv_at hl 1 rfl) ?_
  refine lv_iload_n hx hb dL_choose_4 rfl (lv_at hl 2 rfl) ?_
  refine bm_call (va_runV (As := [.int a1, .int a2]) (rest := [.int 0, .ref o]) ⟨hx, hb, hml, hown, hts⟩ hC (cwV 2 hts (bm_goodV bw_448 bw_449 bw_450 bw_1 bw_451) rfl rfl rfl (by decide +kernel) (by rw [← hR]; exact ⟨Nat.le_of_ble_eq_true rfl, Nat.le_of_ble_eq_true rfl⟩)) (bm_preV hM hG hS hz hx0 rfl) rfl rfl hl.1 rfl (lv_room (Nat.le_of_ble_eq_true rfl)) dL_choose_5 (by rw [← hR]; exact ⟨(Nat.le_of_eq (Nat.zero_add _)), (Nat.le_of_eq (Nat.zero_add _))⟩)) hS (fun v9 M9 H locs hq hM hS _ => ?_)
  obtain ⟨i, rfl, ho⟩ := hpo _ _ _ hq
  obtain ⟨z9, hz⟩ : ∃ z, H.size = z := ⟨_, rfl⟩
  rw [hz] at hq
  refine lv_i2l hx hb dL_choose_8 rfl ?_
  refine bm_last hx hb hK hM hS 1 ho rfl 0 (bm_ix_nI (k := 0) (by decide)) (by decide) dL_choose_9 (fun H locs hz1 hM hS => ?_)
  replace hz := hz1.trans hz
  replace hM : bm_M D base (bm_up M9 o (.inl (ct 1, 1, .inr (.inl (vp_updL w 0 i.toInt64))))) H := hM
  obtain ⟨M1, eM1⟩ : ∃ X, X = bm_up M9 o (.inl (ct 1, 1, .inr (.inl (vp_updL w 0 i.toInt64)))) := ⟨_, rfl⟩
  rw [← eM1] at hM
  replace ho : M1 o = some (.inl (ct 1, 1, .inr (.inl (vp_updL w 0 i.toInt64)))) := by rw [eM1]; exact bm_up_self _ _ _
  refine lv_goto (tgt := 21) hx hb dL_choose_10 rfl ?_
  refine lv_iconst (v := 0) hx hb dL_choose_21 (by decide) ?_
  exact bm_iret hQ hx hb hr hlk hM hS ⟨rfl, i, M9, by rw [hz]; exact hq, eM1⟩ (Nat.le_of_eq (Nat.zero_add _)) (Nat.le_of_eq (Nat.zero_add _)) dL_choose_22
set_option maxHeartbeats 4000000 in
set_option maxRecDepth 100000 in
theorem bw_L_choose_t1 (l : Launch) (D : va_G) (ct : Nat → ClassId) (base : Nat) (ad : Nat → Nat) (M : bm_Map) (sz : Nat) (x o : Nat) (a1 : Int32) (a2 : Int32) (fs : List Value) (mc ms : Nat) (post : bm_Map → Nat → Prop) (hx0 : M x = some (.inr (6, fs))) (hC : bm_MG l yB_choose (bm_ws yB_choose cB_choose 9 (some .int)) { frames := 6, cells := mc, slots := ms, locals := 81 } (bm_Pre D ct base ad M sz [.ref x, .int a1, .int a2]) (bm_PostT D base "java/lang/IllegalArgumentException" post) mc ms (bm_A base)) : bm_MG l yL_choose (bm_wl yL_choose cL_choose 5 (some .int) [(0, 10, 13, 13), (0, 10, 17, 21)]) { frames := 7, cells := mc, slots := ms, locals := 109 } (bm_Pre D ct base ad M sz [.ref x, .int a1, .int a2, .ref o]) (bm_Post D base (fun r M2 n => r = some (.int 1) ∧ post M2 n)) mc ms (bm_A base) := by
  refine bm_ofL (cc := cL_choose) (maxL := 5) (ret := (some .int)) (tb := [(0, 10, 13, 13), (0, 10, 17, 21)]) (by decide +kernel) (Nat.le_of_ble_eq_true rfl) ?_
  intro vp ve s vm args below meth vc hx hb hr hlk hts hown hml hnm ls hl hz hM hG R Q hR hQ hT
  have hown : s.vm.findClass "BlindMintLaw" = some vm.cls := hown
  have hK := hG.K
  have hS : va_S (bm_A base) s.heap s.heap [] := va_S.rf
  have hl : lv_has ls 5 [(0, .ref x), (1, .int a1), (2, .int a2), (3, .ref o)] := hl
  refine lv_aload_n hx hb dL_choose_0 rfl (lv_at hl 3 rfl) ?_
  refine lv_iconst (v := 0) hx hb dL_choose_1 (by decide) ?_
  refine lv_aload_n hx hb dL_choose_2 rfl (lv_at hl 0 rfl) ?_
  refine lv_iload_n hx hb dL_choose_3 rfl (lv_at hl 1 rfl) ?_
  refine lv_iload_n hx hb dL_choose_4 rfl (lv_at hl 2 rfl) ?_
  refine bm_callT (n := 2) (As := [.int a1, .int a2]) (rest := [.int 0, .ref o]) (K := "java/lang/IllegalArgumentException") ⟨hx, hb, hml, hown, hts⟩ hC bw_448 bw_449 bw_450 bw_451 rfl rfl (by decide +kernel) (by rw [← hR]; exact ⟨Nat.le_of_ble_eq_true rfl, Nat.le_of_ble_eq_true rfl⟩) (bm_preV hM hG hS hz hx0 rfl) rfl hl.1 (Nat.le_of_ble_eq_true rfl) dL_choose_5 (by rw [← hR]; exact ⟨(Nat.le_of_eq (Nat.zero_add _)), (Nat.le_of_eq (Nat.zero_add _))⟩) hS (hpc := 13) (fun T locs cells slots xa ce X hce hv hc => bm_catch1 X hce hv rfl hown hT ⟨Nat.le_of_ble_eq_true rfl, Nat.le_of_ble_eq_true rfl⟩ (by decide) (hts _ bw_235) (va_Nw.use rfl hG.2.2.1.w243) (by rw [← X.warmed.alike.findClass]; exact hc)) (fun xa M9 H locs hq hM hS => ?_)
  obtain ⟨z9, hz⟩ : ∃ z, H.size = z := ⟨_, rfl⟩
  refine lv_astore hx hb dL_choose_13 hl (by decide) rfl (fun ls hl => ?_)
  have hl : lv_has ls 5 [(4, .ref xa), (0, .ref x), (1, .int a1), (2, .int a2), (3, .ref o)] := hl
  refine lv_iconst (v := 1) hx hb dL_choose_15 (by decide) ?_
  exact bm_iret hQ hx hb hr hlk hM hS ⟨rfl, hq⟩ (Nat.le_of_eq (Nat.zero_add _)) (Nat.le_of_eq (Nat.zero_add _)) dL_choose_16
set_option maxHeartbeats 4000000 in
set_option maxRecDepth 100000 in
theorem bw_L_choose_t2 (l : Launch) (D : va_G) (ct : Nat → ClassId) (base : Nat) (ad : Nat → Nat) (M : bm_Map) (sz : Nat) (x o : Nat) (a1 : Int32) (a2 : Int32) (fs : List Value) (mc ms : Nat) (post : bm_Map → Nat → Prop) (hx0 : M x = some (.inr (6, fs))) (hC : bm_MG l yB_choose (bm_ws yB_choose cB_choose 9 (some .int)) { frames := 6, cells := mc, slots := ms, locals := 81 } (bm_Pre D ct base ad M sz [.ref x, .int a1, .int a2]) (bm_PostT D base "java/util/NoSuchElementException" post) mc ms (bm_A base)) : bm_MG l yL_choose (bm_wl yL_choose cL_choose 5 (some .int) [(0, 10, 13, 13), (0, 10, 17, 21)]) { frames := 7, cells := mc, slots := ms, locals := 109 } (bm_Pre D ct base ad M sz [.ref x, .int a1, .int a2, .ref o]) (bm_Post D base (fun r M2 n => r = some (.int 2) ∧ post M2 n)) mc ms (bm_A base) := by
  refine bm_ofL (cc := cL_choose) (maxL := 5) (ret := (some .int)) (tb := [(0, 10, 13, 13), (0, 10, 17, 21)]) (by decide +kernel) (Nat.le_of_ble_eq_true rfl) ?_
  intro vp ve s vm args below meth vc hx hb hr hlk hts hown hml hnm ls hl hz hM hG R Q hR hQ hT
  have hown : s.vm.findClass "BlindMintLaw" = some vm.cls := hown
  have hK := hG.K
  have hS : va_S (bm_A base) s.heap s.heap [] := va_S.rf
  have hl : lv_has ls 5 [(0, .ref x), (1, .int a1), (2, .int a2), (3, .ref o)] := hl
  refine lv_aload_n hx hb dL_choose_0 rfl (lv_at hl 3 rfl) ?_
  refine lv_iconst (v := 0) hx hb dL_choose_1 (by decide) ?_
  refine lv_aload_n hx hb dL_choose_2 rfl (lv_at hl 0 rfl) ?_
  refine lv_iload_n hx hb dL_choose_3 rfl (lv_at hl 1 rfl) ?_
  refine lv_iload_n hx hb dL_choose_4 rfl (lv_at hl 2 rfl) ?_
  refine bm_callT (n := 2) (As := [.int a1, .int a2]) (rest := [.int 0, .ref o]) (K := "java/util/NoSuchElementException") ⟨hx, hb, hml, hown, hts⟩ hC bw_448 bw_449 bw_450 bw_451 rfl rfl (by decide +kernel) (by rw [← hR]; exact ⟨Nat.le_of_ble_eq_true rfl, Nat.le_of_ble_eq_true rfl⟩) (bm_preV hM hG hS hz hx0 rfl) rfl hl.1 (Nat.le_of_ble_eq_true rfl) dL_choose_5 (by rw [← hR]; exact ⟨(Nat.le_of_eq (Nat.zero_add _)), (Nat.le_of_eq (Nat.zero_add _))⟩) hS (hpc := 17) (fun T locs cells slots xa ce X hce hv hc => bm_catch2 X hce hv rfl hown hT ⟨⟨Nat.le_of_ble_eq_true rfl, Nat.le_of_ble_eq_true rfl⟩, ⟨Nat.le_of_ble_eq_true rfl, Nat.le_of_ble_eq_true rfl⟩⟩ (by decide) (by decide) (hts _ bw_235) (hts _ bw_447) (va_Nw.use rfl hG.2.2.1.w458) (by rw [← X.warmed.alike.findClass]; exact hc) (bm_noNA hG (by rw [← X.warmed.alike.findClass]; exact hc))) (fun xa M9 H locs hq hM hS => ?_)
  obtain ⟨z9, hz⟩ : ∃ z, H.size = z := ⟨_, rfl⟩
  refine lv_astore hx hb dL_choose_17 hl (by decide) rfl (fun ls hl => ?_)
  have hl : lv_has ls 5 [(4, .ref xa), (0, .ref x), (1, .int a1), (2, .int a2), (3, .ref o)] := hl
  refine lv_iconst (v := 2) hx hb dL_choose_19 (by decide) ?_
  exact bm_iret hQ hx hb hr hlk hM hS ⟨rfl, hq⟩ (Nat.le_of_eq (Nat.zero_add _)) (Nat.le_of_eq (Nat.zero_add _)) dL_choose_20
set_option maxHeartbeats 4000000 in
set_option maxRecDepth 100000 in
theorem bw_L_spend_ok (l : Launch) (D : va_G) (ct : Nat → ClassId) (base : Nat) (ad : Nat → Nat) (M : bm_Map) (sz : Nat) (x o : Nat) (a1 : Int32) (a2 : Int32) (a3 : Int32) (a4 : Int32) (fs : List Value) (mc ms : Nat) (w : Nat → Int64) (post : Option Value → bm_Map → Nat → Prop) (hx0 : M x = some (.inr (6, fs))) (hC : Met l yB_spend (bm_ws yB_spend cB_spend 6 (some .int)) { frames := 3, cells := mc, slots := ms, locals := 87 } (bm_Pre D ct base ad M sz [.ref x, .int a1, .int a2, .int a3, .int a4]) (bm_Post D base post) mc ms (bm_A base)) (hpo : ∀ r M1 n, post r M1 n → ∃ i : Int32, r = some (.int i) ∧ M1 o = some (.inl (ct 1, 1, .inr (.inl w)))) : bm_MG l yL_spend (bm_wl yL_spend cL_spend 7 (some .int) [(0, 14, 17, 13), (0, 14, 21, 15)]) { frames := 4, cells := mc, slots := ms, locals := 112 } (bm_Pre D ct base ad M sz [.ref x, .int a1, .int a2, .int a3, .int a4, .ref o]) (bm_Post D base (fun r M2 n => r = some (.int 0) ∧ ∃ (i : Int32) (M1 : bm_Map), post (some (.int i)) M1 n ∧ M2 = bm_up M1 o (.inl (ct 1, 1, .inr (.inl (vp_updL w 0 i.toInt64)))))) mc ms (bm_A base) := by
  refine bm_ofL (cc := cL_spend) (maxL := 7) (ret := (some .int)) (tb := [(0, 14, 17, 13), (0, 14, 21, 15)]) (by decide +kernel) (Nat.le_of_ble_eq_true rfl) ?_
  intro vp ve s vm args below meth vc hx hb hr hlk hts hown hml hnm ls hl hz hM hG R Q hR hQ hT
  have hown : s.vm.findClass "BlindMintLaw" = some vm.cls := hown
  have hK := hG.K
  have hS : va_S (bm_A base) s.heap s.heap [] := va_S.rf
  have hl : lv_has ls 7 [(0, .ref x), (1, .int a1), (2, .int a2), (3, .int a3), (4, .int a4), (5, .ref o)] := hl
  refine lv_aload hx hb dL_spend_0 (lv_at hl 5 rfl) ?_
  refine lv_iconst (v := 0) hx hb dL_spend_2 (by decide) ?_
  refine lv_aload_n hx hb dL_spend_3 rfl (lv_at hl 0 rfl) ?_
  refine lv_iload_n hx hb dL_spend_4 rfl (lv_at hl 1 rfl) ?_
  refine lv_iload_n hx hb dL_spend_5 rfl (lv_at hl 2 rfl) ?_
  refine lv_iload_n hx hb dL_spend_6 rfl (lv_at hl 3 rfl) ?_
  refine lv_iload hx hb dL_spend_7 (lv_at hl 4 rfl) ?_
  refine bm_call (va_runV (As := [.int a1, .int a2, .int a3, .int a4]) (rest := [.int 0, .ref o]) ⟨hx, hb, hml, hown, hts⟩ hC (cwV 4 hts (bm_goodV bw_474 bw_475 bw_476 bw_1 bw_477) rfl rfl rfl (by decide +kernel) (by rw [← hR]; exact ⟨Nat.le_of_ble_eq_true rfl, Nat.le_of_ble_eq_true rfl⟩)) (bm_preV hM hG hS hz hx0 rfl) rfl rfl hl.1 rfl (lv_room (Nat.le_of_ble_eq_true rfl)) dL_spend_9 (by rw [← hR]; exact ⟨(Nat.le_of_eq (Nat.zero_add _)), (Nat.le_of_eq (Nat.zero_add _))⟩)) hS (fun v9 M9 H locs hq hM hS _ => ?_)
  obtain ⟨i, rfl, ho⟩ := hpo _ _ _ hq
  obtain ⟨z9, hz⟩ : ∃ z, H.size = z := ⟨_, rfl⟩
  rw [hz] at hq
  refine lv_i2l hx hb dL_spend_12 rfl ?_
  refine bm_last hx hb hK hM hS 1 ho rfl 0 (bm_ix_nI (k := 0) (by decide)) (by decide) dL_spend_13 (fun H locs hz1 hM hS => ?_)
  replace hz := hz1.trans hz
  replace hM : bm_M D base (bm_up M9 o (.inl (ct 1, 1, .inr (.inl (vp_updL w 0 i.toInt64))))) H := hM
  obtain ⟨M1, eM1⟩ : ∃ X, X = bm_up M9 o (.inl (ct 1, 1, .inr (.inl (vp_updL w 0 i.toInt64)))) := ⟨_, rfl⟩
  rw [← eM1] at hM
  replace ho : M1 o = some (.inl (ct 1, 1, .inr (.inl (vp_updL w 0 i.toInt64)))) := by rw [eM1]; exact bm_up_self _ _ _
  refine lv_goto (tgt := 25) hx hb dL_spend_14 rfl ?_
  refine lv_iconst (v := 0) hx hb dL_spend_25 (by decide) ?_
  exact bm_iret hQ hx hb hr hlk hM hS ⟨rfl, i, M9, by rw [hz]; exact hq, eM1⟩ (Nat.le_of_eq (Nat.zero_add _)) (Nat.le_of_eq (Nat.zero_add _)) dL_spend_26
set_option maxHeartbeats 4000000 in
set_option maxRecDepth 100000 in
theorem bw_L_spend_t1 (l : Launch) (D : va_G) (ct : Nat → ClassId) (base : Nat) (ad : Nat → Nat) (M : bm_Map) (sz : Nat) (x o : Nat) (a1 : Int32) (a2 : Int32) (a3 : Int32) (a4 : Int32) (fs : List Value) (mc ms : Nat) (post : bm_Map → Nat → Prop) (hx0 : M x = some (.inr (6, fs))) (hC : bm_MG l yB_spend (bm_ws yB_spend cB_spend 6 (some .int)) { frames := 6, cells := mc, slots := ms, locals := 87 } (bm_Pre D ct base ad M sz [.ref x, .int a1, .int a2, .int a3, .int a4]) (bm_PostT D base "java/lang/IllegalArgumentException" post) mc ms (bm_A base)) : bm_MG l yL_spend (bm_wl yL_spend cL_spend 7 (some .int) [(0, 14, 17, 13), (0, 14, 21, 15)]) { frames := 7, cells := mc, slots := ms, locals := 112 } (bm_Pre D ct base ad M sz [.ref x, .int a1, .int a2, .int a3, .int a4, .ref o]) (bm_Post D base (fun r M2 n => r = some (.int 1) ∧ post M2 n)) mc ms (bm_A base) := by
  refine bm_ofL (cc := cL_spend) (maxL := 7) (ret := (some .int)) (tb := [(0, 14, 17, 13), (0, 14, 21, 15)]) (by decide +kernel) (Nat.le_of_ble_eq_true rfl) ?_
  intro vp ve s vm args below meth vc hx hb hr hlk hts hown hml hnm ls hl hz hM hG R Q hR hQ hT
  have hown : s.vm.findClass "BlindMintLaw" = some vm.cls := hown
  have hK := hG.K
  have hS : va_S (bm_A base) s.heap s.heap [] := va_S.rf
  have hl : lv_has ls 7 [(0, .ref x), (1, .int a1), (2, .int a2), (3, .int a3), (4, .int a4), (5, .ref o)] := hl
  refine lv_aload hx hb dL_spend_0 (lv_at hl 5 rfl) ?_
  refine lv_iconst (v := 0) hx hb dL_spend_2 (by decide) ?_
  refine lv_aload_n hx hb dL_spend_3 rfl (lv_at hl 0 rfl) ?_
  refine lv_iload_n hx hb dL_spend_4 rfl (lv_at hl 1 rfl) ?_
  refine lv_iload_n hx hb dL_spend_5 rfl (lv_at hl 2 rfl) ?_
  refine lv_iload_n hx hb dL_spend_6 rfl (lv_at hl 3 rfl) ?_
  refine lv_iload hx hb dL_spend_7 (lv_at hl 4 rfl) ?_
  refine bm_callT (n := 4) (As := [.int a1, .int a2, .int a3, .int a4]) (rest := [.int 0, .ref o]) (K := "java/lang/IllegalArgumentException") ⟨hx, hb, hml, hown, hts⟩ hC bw_474 bw_475 bw_476 bw_477 rfl rfl (by decide +kernel) (by rw [← hR]; exact ⟨Nat.le_of_ble_eq_true rfl, Nat.le_of_ble_eq_true rfl⟩) (bm_preV hM hG hS hz hx0 rfl) rfl hl.1 (Nat.le_of_ble_eq_true rfl) dL_spend_9 (by rw [← hR]; exact ⟨(Nat.le_of_eq (Nat.zero_add _)), (Nat.le_of_eq (Nat.zero_add _))⟩) hS (hpc := 17) (fun T locs cells slots xa ce X hce hv hc => bm_catch1 X hce hv rfl hown hT ⟨Nat.le_of_ble_eq_true rfl, Nat.le_of_ble_eq_true rfl⟩ (by decide) (hts _ bw_235) (va_Nw.use rfl hG.2.2.1.w243) (by rw [← X.warmed.alike.findClass]; exact hc)) (fun xa M9 H locs hq hM hS => ?_)
  obtain ⟨z9, hz⟩ : ∃ z, H.size = z := ⟨_, rfl⟩
  refine lv_astore hx hb dL_spend_17 hl (by decide) rfl (fun ls hl => ?_)
  have hl : lv_has ls 7 [(6, .ref xa), (0, .ref x), (1, .int a1), (2, .int a2), (3, .int a3), (4, .int a4), (5, .ref o)] := hl
  refine lv_iconst (v := 1) hx hb dL_spend_19 (by decide) ?_
  exact bm_iret hQ hx hb hr hlk hM hS ⟨rfl, hq⟩ (Nat.le_of_eq (Nat.zero_add _)) (Nat.le_of_eq (Nat.zero_add _)) dL_spend_20
set_option maxHeartbeats 4000000 in
set_option maxRecDepth 100000 in
theorem bw_L_spend_t2 (l : Launch) (D : va_G) (ct : Nat → ClassId) (base : Nat) (ad : Nat → Nat) (M : bm_Map) (sz : Nat) (x o : Nat) (a1 : Int32) (a2 : Int32) (a3 : Int32) (a4 : Int32) (fs : List Value) (mc ms : Nat) (post : bm_Map → Nat → Prop) (hx0 : M x = some (.inr (6, fs))) (hC : bm_MG l yB_spend (bm_ws yB_spend cB_spend 6 (some .int)) { frames := 6, cells := mc, slots := ms, locals := 87 } (bm_Pre D ct base ad M sz [.ref x, .int a1, .int a2, .int a3, .int a4]) (bm_PostT D base "java/lang/IllegalStateException" post) mc ms (bm_A base)) : bm_MG l yL_spend (bm_wl yL_spend cL_spend 7 (some .int) [(0, 14, 17, 13), (0, 14, 21, 15)]) { frames := 7, cells := mc, slots := ms, locals := 112 } (bm_Pre D ct base ad M sz [.ref x, .int a1, .int a2, .int a3, .int a4, .ref o]) (bm_Post D base (fun r M2 n => r = some (.int 2) ∧ post M2 n)) mc ms (bm_A base) := by
  refine bm_ofL (cc := cL_spend) (maxL := 7) (ret := (some .int)) (tb := [(0, 14, 17, 13), (0, 14, 21, 15)]) (by decide +kernel) (Nat.le_of_ble_eq_true rfl) ?_
  intro vp ve s vm args below meth vc hx hb hr hlk hts hown hml hnm ls hl hz hM hG R Q hR hQ hT
  have hown : s.vm.findClass "BlindMintLaw" = some vm.cls := hown
  have hK := hG.K
  have hS : va_S (bm_A base) s.heap s.heap [] := va_S.rf
  have hl : lv_has ls 7 [(0, .ref x), (1, .int a1), (2, .int a2), (3, .int a3), (4, .int a4), (5, .ref o)] := hl
  refine lv_aload hx hb dL_spend_0 (lv_at hl 5 rfl) ?_
  refine lv_iconst (v := 0) hx hb dL_spend_2 (by decide) ?_
  refine lv_aload_n hx hb dL_spend_3 rfl (lv_at hl 0 rfl) ?_
  refine lv_iload_n hx hb dL_spend_4 rfl (lv_at hl 1 rfl) ?_
  refine lv_iload_n hx hb dL_spend_5 rfl (lv_at hl 2 rfl) ?_
  refine lv_iload_n hx hb dL_spend_6 rfl (lv_at hl 3 rfl) ?_
  refine lv_iload hx hb dL_spend_7 (lv_at hl 4 rfl) ?_
  refine bm_callT (n := 4) (As := [.int a1, .int a2, .int a3, .int a4]) (rest := [.int 0, .ref o]) (K := "java/lang/IllegalStateException") ⟨hx, hb, hml, hown, hts⟩ hC bw_474 bw_475 bw_476 bw_477 rfl rfl (by decide +kernel) (by rw [← hR]; exact ⟨Nat.le_of_ble_eq_true rfl, Nat.le_of_ble_eq_true rfl⟩) (bm_preV hM hG hS hz hx0 rfl) rfl hl.1 (Nat.le_of_ble_eq_true rfl) dL_spend_9 (by rw [← hR]; exact ⟨(Nat.le_of_eq (Nat.zero_add _)), (Nat.le_of_eq (Nat.zero_add _))⟩) hS (hpc := 21) (fun T locs cells slots xa ce X hce hv hc => bm_catch2 X hce hv rfl hown hT ⟨⟨Nat.le_of_ble_eq_true rfl, Nat.le_of_ble_eq_true rfl⟩, ⟨Nat.le_of_ble_eq_true rfl, Nat.le_of_ble_eq_true rfl⟩⟩ (by decide) (by decide) (hts _ bw_235) (hts _ bw_236) (va_Nw.use rfl hG.2.2.1.w310) (by rw [← X.warmed.alike.findClass]; exact hc) (bm_noSA hG (by rw [← X.warmed.alike.findClass]; exact hc))) (fun xa M9 H locs hq hM hS => ?_)
  obtain ⟨z9, hz⟩ : ∃ z, H.size = z := ⟨_, rfl⟩
  refine lv_astore hx hb dL_spend_21 hl (by decide) rfl (fun ls hl => ?_)
  have hl : lv_has ls 7 [(6, .ref xa), (0, .ref x), (1, .int a1), (2, .int a2), (3, .int a3), (4, .int a4), (5, .ref o)] := hl
  refine lv_iconst (v := 2) hx hb dL_spend_23 (by decide) ?_
  exact bm_iret hQ hx hb hr hlk hM hS ⟨rfl, hq⟩ (Nat.le_of_eq (Nat.zero_add _)) (Nat.le_of_eq (Nat.zero_add _)) dL_spend_24
set_option maxHeartbeats 4000000 in
set_option maxRecDepth 100000 in
theorem bw_L_tamper_ok (l : Launch) (D : va_G) (ct : Nat → ClassId) (base : Nat) (ad : Nat → Nat) (M : bm_Map) (sz : Nat) (x o : Nat) (a1 : Int32) (a2 : Int32) (a3 : Int64) (fs : List Value) (mc ms : Nat) (w : Nat → Int64) (post : Option Value → bm_Map → Nat → Prop) (hx0 : M x = some (.inr (6, fs))) (hC : Met l yB_tamper (bm_ws yB_tamper cB_tamper 6 (some .long)) { frames := 1, cells := mc, slots := ms, locals := 21 } (bm_Pre D ct base ad M sz [.ref x, .int a1, .int a2, .long a3]) (bm_Post D base post) mc ms (bm_A base)) (hpo : ∀ r M1 n, post r M1 n → ∃ i : Int64, r = some (.long i) ∧ M1 o = some (.inl (ct 1, 1, .inr (.inl w)))) : bm_MG l yL_tamper (bm_wl yL_tamper cL_tamper 7 (some .int) [(0, 11, 14, 13)]) { frames := 2, cells := mc, slots := ms, locals := 46 } (bm_Pre D ct base ad M sz [.ref x, .int a1, .int a2, .long a3, .ref o]) (bm_Post D base (fun r M2 n => r = some (.int 0) ∧ ∃ (i : Int64) (M1 : bm_Map), post (some (.long i)) M1 n ∧ M2 = bm_up M1 o (.inl (ct 1, 1, .inr (.inl (vp_updL w 0 i)))))) mc ms (bm_A base) := by
  refine bm_ofL (cc := cL_tamper) (maxL := 7) (ret := (some .int)) (tb := [(0, 11, 14, 13)]) (by decide +kernel) (Nat.le_of_ble_eq_true rfl) ?_
  intro vp ve s vm args below meth vc hx hb hr hlk hts hown hml hnm ls hl hz hM hG R Q hR hQ hT
  have hown : s.vm.findClass "BlindMintLaw" = some vm.cls := hown
  have hK := hG.K
  have hS : va_S (bm_A base) s.heap s.heap [] := va_S.rf
  have hl : lv_has ls 7 [(0, .ref x), (1, .int a1), (2, .int a2), (3, .long a3), (5, .ref o)] := hl
  refine lv_aload hx hb dL_tamper_0 (lv_at hl 4 rfl) ?_
  refine lv_iconst (v := 0) hx hb dL_tamper_2 (by decide) ?_
  refine lv_aload_n hx hb dL_tamper_3 rfl (lv_at hl 0 rfl) ?_
  refine lv_iload_n hx hb dL_tamper_4 rfl (lv_at hl 1 rfl) ?_
  refine lv_iload_n hx hb dL_tamper_5 rfl (lv_at hl 2 rfl) ?_
  refine lv_lload_n hx hb dL_tamper_6 rfl (lv_at hl 3 rfl) ?_
  refine bm_call (va_runV (As := [.int a1, .int a2, .long a3]) (rest := [.int 0, .ref o]) ⟨hx, hb, hml, hown, hts⟩ hC (cwV 3 hts (bm_goodV bw_498 bw_499 bw_500 bw_1 bw_501) rfl rfl rfl (by decide +kernel) (by rw [← hR]; exact ⟨Nat.le_of_ble_eq_true rfl, Nat.le_of_ble_eq_true rfl⟩)) (bm_preV hM hG hS hz hx0 rfl) rfl rfl hl.1 rfl (lv_room (Nat.le_of_ble_eq_true rfl)) dL_tamper_7 (by rw [← hR]; exact ⟨(Nat.le_of_eq (Nat.zero_add _)), (Nat.le_of_eq (Nat.zero_add _))⟩)) hS (fun v9 M9 H locs hq hM hS _ => ?_)
  obtain ⟨i, rfl, ho⟩ := hpo _ _ _ hq
  obtain ⟨z9, hz⟩ : ∃ z, H.size = z := ⟨_, rfl⟩
  rw [hz] at hq
  refine bm_last hx hb hK hM hS 1 ho rfl 0 (bm_ix_nI (k := 0) (by decide)) (by decide) dL_tamper_10 (fun H locs hz1 hM hS => ?_)
  replace hz := hz1.trans hz
  replace hM : bm_M D base (bm_up M9 o (.inl (ct 1, 1, .inr (.inl (vp_updL w 0 i))))) H := hM
  obtain ⟨M1, eM1⟩ : ∃ X, X = bm_up M9 o (.inl (ct 1, 1, .inr (.inl (vp_updL w 0 i)))) := ⟨_, rfl⟩
  rw [← eM1] at hM
  replace ho : M1 o = some (.inl (ct 1, 1, .inr (.inl (vp_updL w 0 i)))) := by rw [eM1]; exact bm_up_self _ _ _
  refine lv_goto (tgt := 18) hx hb dL_tamper_11 rfl ?_
  refine lv_iconst (v := 0) hx hb dL_tamper_18 (by decide) ?_
  exact bm_iret hQ hx hb hr hlk hM hS ⟨rfl, i, M9, by rw [hz]; exact hq, eM1⟩ (Nat.le_of_eq (Nat.zero_add _)) (Nat.le_of_eq (Nat.zero_add _)) dL_tamper_19
set_option maxHeartbeats 4000000 in
set_option maxRecDepth 100000 in
theorem bw_L_tamper_t1 (l : Launch) (D : va_G) (ct : Nat → ClassId) (base : Nat) (ad : Nat → Nat) (M : bm_Map) (sz : Nat) (x o : Nat) (a1 : Int32) (a2 : Int32) (a3 : Int64) (fs : List Value) (mc ms : Nat) (post : bm_Map → Nat → Prop) (hx0 : M x = some (.inr (6, fs))) (hC : bm_MG l yB_tamper (bm_ws yB_tamper cB_tamper 6 (some .long)) { frames := 6, cells := mc, slots := ms, locals := 81 } (bm_Pre D ct base ad M sz [.ref x, .int a1, .int a2, .long a3]) (bm_PostT D base "java/lang/IllegalArgumentException" post) mc ms (bm_A base)) : bm_MG l yL_tamper (bm_wl yL_tamper cL_tamper 7 (some .int) [(0, 11, 14, 13)]) { frames := 7, cells := mc, slots := ms, locals := 106 } (bm_Pre D ct base ad M sz [.ref x, .int a1, .int a2, .long a3, .ref o]) (bm_Post D base (fun r M2 n => r = some (.int 1) ∧ post M2 n)) mc ms (bm_A base) := by
  refine bm_ofL (cc := cL_tamper) (maxL := 7) (ret := (some .int)) (tb := [(0, 11, 14, 13)]) (by decide +kernel) (Nat.le_of_ble_eq_true rfl) ?_
  intro vp ve s vm args below meth vc hx hb hr hlk hts hown hml hnm ls hl hz hM hG R Q hR hQ hT
  have hown : s.vm.findClass "BlindMintLaw" = some vm.cls := hown
  have hK := hG.K
  have hS : va_S (bm_A base) s.heap s.heap [] := va_S.rf
  have hl : lv_has ls 7 [(0, .ref x), (1, .int a1), (2, .int a2), (3, .long a3), (5, .ref o)] := hl
  refine lv_aload hx hb dL_tamper_0 (lv_at hl 4 rfl) ?_
  refine lv_iconst (v := 0) hx hb dL_tamper_2 (by decide) ?_
  refine lv_aload_n hx hb dL_tamper_3 rfl (lv_at hl 0 rfl) ?_
  refine lv_iload_n hx hb dL_tamper_4 rfl (lv_at hl 1 rfl) ?_
  refine lv_iload_n hx hb dL_tamper_5 rfl (lv_at hl 2 rfl) ?_
  refine lv_lload_n hx hb dL_tamper_6 rfl (lv_at hl 3 rfl) ?_
  refine bm_callT (n := 3) (As := [.int a1, .int a2, .long a3]) (rest := [.int 0, .ref o]) (K := "java/lang/IllegalArgumentException") ⟨hx, hb, hml, hown, hts⟩ hC bw_498 bw_499 bw_500 bw_501 rfl rfl (by decide +kernel) (by rw [← hR]; exact ⟨Nat.le_of_ble_eq_true rfl, Nat.le_of_ble_eq_true rfl⟩) (bm_preV hM hG hS hz hx0 rfl) rfl hl.1 (Nat.le_of_ble_eq_true rfl) dL_tamper_7 (by rw [← hR]; exact ⟨(Nat.le_of_eq (Nat.zero_add _)), (Nat.le_of_eq (Nat.zero_add _))⟩) hS (hpc := 14) (fun T locs cells slots xa ce X hce hv hc => bm_catch1 X hce hv rfl hown hT ⟨Nat.le_of_ble_eq_true rfl, Nat.le_of_ble_eq_true rfl⟩ (by decide) (hts _ bw_235) (va_Nw.use rfl hG.2.2.1.w243) (by rw [← X.warmed.alike.findClass]; exact hc)) (fun xa M9 H locs hq hM hS => ?_)
  obtain ⟨z9, hz⟩ : ∃ z, H.size = z := ⟨_, rfl⟩
  refine lv_astore hx hb dL_tamper_14 hl (by decide) rfl (fun ls hl => ?_)
  have hl : lv_has ls 7 [(6, .ref xa), (0, .ref x), (1, .int a1), (2, .int a2), (3, .long a3), (5, .ref o)] := hl
  refine lv_iconst (v := 1) hx hb dL_tamper_16 (by decide) ?_
  exact bm_iret hQ hx hb hr hlk hM hS ⟨rfl, hq⟩ (Nat.le_of_eq (Nat.zero_add _)) (Nat.le_of_eq (Nat.zero_add _)) dL_tamper_17
set_option maxHeartbeats 4000000 in
set_option maxRecDepth 100000 in
theorem bw_L_number_ok (l : Launch) (D : va_G) (ct : Nat → ClassId) (base : Nat) (ad : Nat → Nat) (M : bm_Map) (sz : Nat) (x o : Nat) (a1 : Int32) (a2 : Int32) (fs : List Value) (mc ms : Nat) (w : Nat → Int64) (post : Option Value → bm_Map → Nat → Prop) (hx0 : M x = some (.inr (6, fs))) (hC : Met l yB_number (bm_ws yB_number cB_number 4 (some .long)) { frames := 1, cells := mc, slots := ms, locals := 21 } (bm_Pre D ct base ad M sz [.ref x, .int a1, .int a2]) (bm_Post D base post) mc ms (bm_A base)) (hpo : ∀ r M1 n, post r M1 n → ∃ i : Int64, r = some (.long i) ∧ M1 o = some (.inl (ct 1, 1, .inr (.inl w)))) : bm_MG l yL_number (bm_wl yL_number cL_number 5 (some .int) [(0, 9, 12, 21)]) { frames := 2, cells := mc, slots := ms, locals := 44 } (bm_Pre D ct base ad M sz [.ref x, .int a1, .int a2, .ref o]) (bm_Post D base (fun r M2 n => r = some (.int 0) ∧ ∃ (i : Int64) (M1 : bm_Map), post (some (.long i)) M1 n ∧ M2 = bm_up M1 o (.inl (ct 1, 1, .inr (.inl (vp_updL w 0 i)))))) mc ms (bm_A base) := by
  refine bm_ofL (cc := cL_number) (maxL := 5) (ret := (some .int)) (tb := [(0, 9, 12, 21)]) (by decide +kernel) (Nat.le_of_ble_eq_true rfl) ?_
  intro vp ve s vm args below meth vc hx hb hr hlk hts hown hml hnm ls hl hz hM hG R Q hR hQ hT
  have hown : s.vm.findClass "BlindMintLaw" = some vm.cls := hown
  have hK := hG.K
  have hS : va_S (bm_A base) s.heap s.heap [] := va_S.rf
  have hl : lv_has ls 5 [(0, .ref x), (1, .int a1), (2, .int a2), (3, .ref o)] := hl
  refine lv_aload_n hx hb dL_number_0 rfl (lv_at hl 3 rfl) ?_
  refine lv_iconst (v := 0) hx hb dL_number_1 (by decide) ?_
  refine lv_aload_n hx hb dL_number_2 rfl (lv_at hl 0 rfl) ?_
  refine lv_iload_n hx hb dL_number_3 rfl (lv_at hl 1 rfl) ?_
  refine lv_iload_n hx hb dL_number_4 rfl (lv_at hl 2 rfl) ?_
  refine bm_call (va_runV (As := [.int a1, .int a2]) (rest := [.int 0, .ref o]) ⟨hx, hb, hml, hown, hts⟩ hC (cwV 2 hts (bm_goodV bw_508 bw_509 bw_510 bw_1 bw_511) rfl rfl rfl (by decide +kernel) (by rw [← hR]; exact ⟨Nat.le_of_ble_eq_true rfl, Nat.le_of_ble_eq_true rfl⟩)) (bm_preV hM hG hS hz hx0 rfl) rfl rfl hl.1 rfl (lv_room (Nat.le_of_ble_eq_true rfl)) dL_number_5 (by rw [← hR]; exact ⟨(Nat.le_of_eq (Nat.zero_add _)), (Nat.le_of_eq (Nat.zero_add _))⟩)) hS (fun v9 M9 H locs hq hM hS _ => ?_)
  obtain ⟨i, rfl, ho⟩ := hpo _ _ _ hq
  obtain ⟨z9, hz⟩ : ∃ z, H.size = z := ⟨_, rfl⟩
  rw [hz] at hq
  refine bm_last hx hb hK hM hS 1 ho rfl 0 (bm_ix_nI (k := 0) (by decide)) (by decide) dL_number_8 (fun H locs hz1 hM hS => ?_)
  replace hz := hz1.trans hz
  replace hM : bm_M D base (bm_up M9 o (.inl (ct 1, 1, .inr (.inl (vp_updL w 0 i))))) H := hM
  obtain ⟨M1, eM1⟩ : ∃ X, X = bm_up M9 o (.inl (ct 1, 1, .inr (.inl (vp_updL w 0 i)))) := ⟨_, rfl⟩
  rw [← eM1] at hM
  replace ho : M1 o = some (.inl (ct 1, 1, .inr (.inl (vp_updL w 0 i)))) := by rw [eM1]; exact bm_up_self _ _ _
  refine lv_goto (tgt := 16) hx hb dL_number_9 rfl ?_
  refine lv_iconst (v := 0) hx hb dL_number_16 (by decide) ?_
  exact bm_iret hQ hx hb hr hlk hM hS ⟨rfl, i, M9, by rw [hz]; exact hq, eM1⟩ (Nat.le_of_eq (Nat.zero_add _)) (Nat.le_of_eq (Nat.zero_add _)) dL_number_17
set_option maxHeartbeats 4000000 in
set_option maxRecDepth 100000 in
theorem bw_L_number_t1 (l : Launch) (D : va_G) (ct : Nat → ClassId) (base : Nat) (ad : Nat → Nat) (M : bm_Map) (sz : Nat) (x o : Nat) (a1 : Int32) (a2 : Int32) (fs : List Value) (mc ms : Nat) (post : bm_Map → Nat → Prop) (hx0 : M x = some (.inr (6, fs))) (hC : bm_MG l yB_number (bm_ws yB_number cB_number 4 (some .long)) { frames := 6, cells := mc, slots := ms, locals := 81 } (bm_Pre D ct base ad M sz [.ref x, .int a1, .int a2]) (bm_PostT D base "java/util/NoSuchElementException" post) mc ms (bm_A base)) : bm_MG l yL_number (bm_wl yL_number cL_number 5 (some .int) [(0, 9, 12, 21)]) { frames := 7, cells := mc, slots := ms, locals := 104 } (bm_Pre D ct base ad M sz [.ref x, .int a1, .int a2, .ref o]) (bm_Post D base (fun r M2 n => r = some (.int 1) ∧ post M2 n)) mc ms (bm_A base) := by
  refine bm_ofL (cc := cL_number) (maxL := 5) (ret := (some .int)) (tb := [(0, 9, 12, 21)]) (by decide +kernel) (Nat.le_of_ble_eq_true rfl) ?_
  intro vp ve s vm args below meth vc hx hb hr hlk hts hown hml hnm ls hl hz hM hG R Q hR hQ hT
  have hown : s.vm.findClass "BlindMintLaw" = some vm.cls := hown
  have hK := hG.K
  have hS : va_S (bm_A base) s.heap s.heap [] := va_S.rf
  have hl : lv_has ls 5 [(0, .ref x), (1, .int a1), (2, .int a2), (3, .ref o)] := hl
  refine lv_aload_n hx hb dL_number_0 rfl (lv_at hl 3 rfl) ?_
  refine lv_iconst (v := 0) hx hb dL_number_1 (by decide) ?_
  refine lv_aload_n hx hb dL_number_2 rfl (lv_at hl 0 rfl) ?_
  refine lv_iload_n hx hb dL_number_3 rfl (lv_at hl 1 rfl) ?_
  refine lv_iload_n hx hb dL_number_4 rfl (lv_at hl 2 rfl) ?_
  refine bm_callT (n := 2) (As := [.int a1, .int a2]) (rest := [.int 0, .ref o]) (K := "java/util/NoSuchElementException") ⟨hx, hb, hml, hown, hts⟩ hC bw_508 bw_509 bw_510 bw_511 rfl rfl (by decide +kernel) (by rw [← hR]; exact ⟨Nat.le_of_ble_eq_true rfl, Nat.le_of_ble_eq_true rfl⟩) (bm_preV hM hG hS hz hx0 rfl) rfl hl.1 (Nat.le_of_ble_eq_true rfl) dL_number_5 (by rw [← hR]; exact ⟨(Nat.le_of_eq (Nat.zero_add _)), (Nat.le_of_eq (Nat.zero_add _))⟩) hS (hpc := 12) (fun T locs cells slots xa ce X hce hv hc => bm_catch1 X hce hv rfl hown hT ⟨Nat.le_of_ble_eq_true rfl, Nat.le_of_ble_eq_true rfl⟩ (by decide) (hts _ bw_447) (va_Nw.use rfl hG.2.2.1.w458) (by rw [← X.warmed.alike.findClass]; exact hc)) (fun xa M9 H locs hq hM hS => ?_)
  obtain ⟨z9, hz⟩ : ∃ z, H.size = z := ⟨_, rfl⟩
  refine lv_astore hx hb dL_number_12 hl (by decide) rfl (fun ls hl => ?_)
  have hl : lv_has ls 5 [(4, .ref xa), (0, .ref x), (1, .int a1), (2, .int a2), (3, .ref o)] := hl
  refine lv_iconst (v := 1) hx hb dL_number_14 (by decide) ?_
  exact bm_iret hQ hx hb hr hlk hM hS ⟨rfl, hq⟩ (Nat.le_of_eq (Nat.zero_add _)) (Nat.le_of_eq (Nat.zero_add _)) dL_number_15
set_option maxHeartbeats 4000000 in
set_option maxRecDepth 100000 in
theorem bw_L_deposit_ok (l : Launch) (D : va_G) (ct : Nat → ClassId) (base : Nat) (ad : Nat → Nat) (M : bm_Map) (sz : Nat) (x o : Nat) (a1 : Int32) (a2 : Int32) (fs : List Value) (mc ms : Nat) (w : Nat → Int64) (post : Option Value → bm_Map → Nat → Prop) (hx0 : M x = some (.inr (6, fs))) (hC : Met l yB_deposit (bm_ws yB_deposit cB_deposit 6 (some .int)) { frames := 4, cells := mc, slots := ms, locals := 100 } (bm_Pre D ct base ad M sz [.ref x, .int a1, .int a2]) (bm_Post D base post) mc ms (bm_A base)) (hpo : ∀ r M1 n, post r M1 n → ∃ i : Int32, r = some (.int i) ∧ M1 o = some (.inl (ct 1, 1, .inr (.inl w)))) : bm_MG l yL_deposit (bm_wl yL_deposit cL_deposit 5 (some .int) [(0, 10, 13, 13), (0, 10, 17, 15)]) { frames := 5, cells := mc, slots := ms, locals := 125 } (bm_Pre D ct base ad M sz [.ref x, .int a1, .int a2, .ref o]) (bm_Post D base (fun r M2 n => r = some (.int 0) ∧ ∃ (i : Int32) (M1 : bm_Map), post (some (.int i)) M1 n ∧ M2 = bm_up M1 o (.inl (ct 1, 1, .inr (.inl (vp_updL w 0 i.toInt64)))))) mc ms (bm_A base) := by
  refine bm_ofL (cc := cL_deposit) (maxL := 5) (ret := (some .int)) (tb := [(0, 10, 13, 13), (0, 10, 17, 15)]) (by decide +kernel) (Nat.le_of_ble_eq_true rfl) ?_
  intro vp ve s vm args below meth vc hx hb hr hlk hts hown hml hnm ls hl hz hM hG R Q hR hQ hT
  have hown : s.vm.findClass "BlindMintLaw" = some vm.cls := hown
  have hK := hG.K
  have hS : va_S (bm_A base) s.heap s.heap [] := va_S.rf
  have hl : lv_has ls 5 [(0, .ref x), (1, .int a1), (2, .int a2), (3, .ref o)] := hl
  refine lv_aload_n hx hb dL_deposit_0 rfl (lv_at hl 3 rfl) ?_
  refine lv_iconst (v := 0) hx hb dL_deposit_1 (by decide) ?_
  refine lv_aload_n hx hb dL_deposit_2 rfl (lv_at hl 0 rfl) ?_
  refine lv_iload_n hx hb dL_deposit_3 rfl (lv_at hl 1 rfl) ?_
  refine lv_iload_n hx hb dL_deposit_4 rfl (lv_at hl 2 rfl) ?_
  refine bm_call (va_runV (As := [.int a1, .int a2]) (rest := [.int 0, .ref o]) ⟨hx, hb, hml, hown, hts⟩ hC (cwV 2 hts (bm_goodV bw_515 bw_516 bw_517 bw_1 bw_518) rfl rfl rfl (by decide +kernel) (by rw [← hR]; exact ⟨Nat.le_of_ble_eq_true rfl, Nat.le_of_ble_eq_true rfl⟩)) (bm_preV hM hG hS hz hx0 rfl) rfl rfl hl.1 rfl (lv_room (Nat.le_of_ble_eq_true rfl)) dL_deposit_5 (by rw [← hR]; exact ⟨(Nat.le_of_eq (Nat.zero_add _)), (Nat.le_of_eq (Nat.zero_add _))⟩)) hS (fun v9 M9 H locs hq hM hS _ => ?_)
  obtain ⟨i, rfl, ho⟩ := hpo _ _ _ hq
  obtain ⟨z9, hz⟩ : ∃ z, H.size = z := ⟨_, rfl⟩
  rw [hz] at hq
  refine lv_i2l hx hb dL_deposit_8 rfl ?_
  refine bm_last hx hb hK hM hS 1 ho rfl 0 (bm_ix_nI (k := 0) (by decide)) (by decide) dL_deposit_9 (fun H locs hz1 hM hS => ?_)
  replace hz := hz1.trans hz
  replace hM : bm_M D base (bm_up M9 o (.inl (ct 1, 1, .inr (.inl (vp_updL w 0 i.toInt64))))) H := hM
  obtain ⟨M1, eM1⟩ : ∃ X, X = bm_up M9 o (.inl (ct 1, 1, .inr (.inl (vp_updL w 0 i.toInt64)))) := ⟨_, rfl⟩
  rw [← eM1] at hM
  replace ho : M1 o = some (.inl (ct 1, 1, .inr (.inl (vp_updL w 0 i.toInt64)))) := by rw [eM1]; exact bm_up_self _ _ _
  refine lv_goto (tgt := 21) hx hb dL_deposit_10 rfl ?_
  refine lv_iconst (v := 0) hx hb dL_deposit_21 (by decide) ?_
  exact bm_iret hQ hx hb hr hlk hM hS ⟨rfl, i, M9, by rw [hz]; exact hq, eM1⟩ (Nat.le_of_eq (Nat.zero_add _)) (Nat.le_of_eq (Nat.zero_add _)) dL_deposit_22
set_option maxHeartbeats 4000000 in
set_option maxRecDepth 100000 in
theorem bw_L_deposit_t1 (l : Launch) (D : va_G) (ct : Nat → ClassId) (base : Nat) (ad : Nat → Nat) (M : bm_Map) (sz : Nat) (x o : Nat) (a1 : Int32) (a2 : Int32) (fs : List Value) (mc ms : Nat) (post : bm_Map → Nat → Prop) (hx0 : M x = some (.inr (6, fs))) (hC : bm_MG l yB_deposit (bm_ws yB_deposit cB_deposit 6 (some .int)) { frames := 6, cells := mc, slots := ms, locals := 100 } (bm_Pre D ct base ad M sz [.ref x, .int a1, .int a2]) (bm_PostT D base "java/lang/IllegalArgumentException" post) mc ms (bm_A base)) : bm_MG l yL_deposit (bm_wl yL_deposit cL_deposit 5 (some .int) [(0, 10, 13, 13), (0, 10, 17, 15)]) { frames := 7, cells := mc, slots := ms, locals := 125 } (bm_Pre D ct base ad M sz [.ref x, .int a1, .int a2, .ref o]) (bm_Post D base (fun r M2 n => r = some (.int 1) ∧ post M2 n)) mc ms (bm_A base) := by
  refine bm_ofL (cc := cL_deposit) (maxL := 5) (ret := (some .int)) (tb := [(0, 10, 13, 13), (0, 10, 17, 15)]) (by decide +kernel) (Nat.le_of_ble_eq_true rfl) ?_
  intro vp ve s vm args below meth vc hx hb hr hlk hts hown hml hnm ls hl hz hM hG R Q hR hQ hT
  have hown : s.vm.findClass "BlindMintLaw" = some vm.cls := hown
  have hK := hG.K
  have hS : va_S (bm_A base) s.heap s.heap [] := va_S.rf
  have hl : lv_has ls 5 [(0, .ref x), (1, .int a1), (2, .int a2), (3, .ref o)] := hl
  refine lv_aload_n hx hb dL_deposit_0 rfl (lv_at hl 3 rfl) ?_
  refine lv_iconst (v := 0) hx hb dL_deposit_1 (by decide) ?_
  refine lv_aload_n hx hb dL_deposit_2 rfl (lv_at hl 0 rfl) ?_
  refine lv_iload_n hx hb dL_deposit_3 rfl (lv_at hl 1 rfl) ?_
  refine lv_iload_n hx hb dL_deposit_4 rfl (lv_at hl 2 rfl) ?_
  refine bm_callT (n := 2) (As := [.int a1, .int a2]) (rest := [.int 0, .ref o]) (K := "java/lang/IllegalArgumentException") ⟨hx, hb, hml, hown, hts⟩ hC bw_515 bw_516 bw_517 bw_518 rfl rfl (by decide +kernel) (by rw [← hR]; exact ⟨Nat.le_of_ble_eq_true rfl, Nat.le_of_ble_eq_true rfl⟩) (bm_preV hM hG hS hz hx0 rfl) rfl hl.1 (Nat.le_of_ble_eq_true rfl) dL_deposit_5 (by rw [← hR]; exact ⟨(Nat.le_of_eq (Nat.zero_add _)), (Nat.le_of_eq (Nat.zero_add _))⟩) hS (hpc := 13) (fun T locs cells slots xa ce X hce hv hc => bm_catch1 X hce hv rfl hown hT ⟨Nat.le_of_ble_eq_true rfl, Nat.le_of_ble_eq_true rfl⟩ (by decide) (hts _ bw_235) (va_Nw.use rfl hG.2.2.1.w243) (by rw [← X.warmed.alike.findClass]; exact hc)) (fun xa M9 H locs hq hM hS => ?_)
  obtain ⟨z9, hz⟩ : ∃ z, H.size = z := ⟨_, rfl⟩
  refine lv_astore hx hb dL_deposit_13 hl (by decide) rfl (fun ls hl => ?_)
  have hl : lv_has ls 5 [(4, .ref xa), (0, .ref x), (1, .int a1), (2, .int a2), (3, .ref o)] := hl
  refine lv_iconst (v := 1) hx hb dL_deposit_15 (by decide) ?_
  exact bm_iret hQ hx hb hr hlk hM hS ⟨rfl, hq⟩ (Nat.le_of_eq (Nat.zero_add _)) (Nat.le_of_eq (Nat.zero_add _)) dL_deposit_16
set_option maxHeartbeats 4000000 in
set_option maxRecDepth 100000 in
theorem bw_L_deposit_t2 (l : Launch) (D : va_G) (ct : Nat → ClassId) (base : Nat) (ad : Nat → Nat) (M : bm_Map) (sz : Nat) (x o : Nat) (a1 : Int32) (a2 : Int32) (fs : List Value) (mc ms : Nat) (post : bm_Map → Nat → Prop) (hx0 : M x = some (.inr (6, fs))) (hC : bm_MG l yB_deposit (bm_ws yB_deposit cB_deposit 6 (some .int)) { frames := 6, cells := mc, slots := ms, locals := 100 } (bm_Pre D ct base ad M sz [.ref x, .int a1, .int a2]) (bm_PostT D base "java/lang/IllegalStateException" post) mc ms (bm_A base)) : bm_MG l yL_deposit (bm_wl yL_deposit cL_deposit 5 (some .int) [(0, 10, 13, 13), (0, 10, 17, 15)]) { frames := 7, cells := mc, slots := ms, locals := 125 } (bm_Pre D ct base ad M sz [.ref x, .int a1, .int a2, .ref o]) (bm_Post D base (fun r M2 n => r = some (.int 2) ∧ post M2 n)) mc ms (bm_A base) := by
  refine bm_ofL (cc := cL_deposit) (maxL := 5) (ret := (some .int)) (tb := [(0, 10, 13, 13), (0, 10, 17, 15)]) (by decide +kernel) (Nat.le_of_ble_eq_true rfl) ?_
  intro vp ve s vm args below meth vc hx hb hr hlk hts hown hml hnm ls hl hz hM hG R Q hR hQ hT
  have hown : s.vm.findClass "BlindMintLaw" = some vm.cls := hown
  have hK := hG.K
  have hS : va_S (bm_A base) s.heap s.heap [] := va_S.rf
  have hl : lv_has ls 5 [(0, .ref x), (1, .int a1), (2, .int a2), (3, .ref o)] := hl
  refine lv_aload_n hx hb dL_deposit_0 rfl (lv_at hl 3 rfl) ?_
  refine lv_iconst (v := 0) hx hb dL_deposit_1 (by decide) ?_
  refine lv_aload_n hx hb dL_deposit_2 rfl (lv_at hl 0 rfl) ?_
  refine lv_iload_n hx hb dL_deposit_3 rfl (lv_at hl 1 rfl) ?_
  refine lv_iload_n hx hb dL_deposit_4 rfl (lv_at hl 2 rfl) ?_
  refine bm_callT (n := 2) (As := [.int a1, .int a2]) (rest := [.int 0, .ref o]) (K := "java/lang/IllegalStateException") ⟨hx, hb, hml, hown, hts⟩ hC bw_515 bw_516 bw_517 bw_518 rfl rfl (by decide +kernel) (by rw [← hR]; exact ⟨Nat.le_of_ble_eq_true rfl, Nat.le_of_ble_eq_true rfl⟩) (bm_preV hM hG hS hz hx0 rfl) rfl hl.1 (Nat.le_of_ble_eq_true rfl) dL_deposit_5 (by rw [← hR]; exact ⟨(Nat.le_of_eq (Nat.zero_add _)), (Nat.le_of_eq (Nat.zero_add _))⟩) hS (hpc := 17) (fun T locs cells slots xa ce X hce hv hc => bm_catch2 X hce hv rfl hown hT ⟨⟨Nat.le_of_ble_eq_true rfl, Nat.le_of_ble_eq_true rfl⟩, ⟨Nat.le_of_ble_eq_true rfl, Nat.le_of_ble_eq_true rfl⟩⟩ (by decide) (by decide) (hts _ bw_235) (hts _ bw_236) (va_Nw.use rfl hG.2.2.1.w310) (by rw [← X.warmed.alike.findClass]; exact hc) (bm_noSA hG (by rw [← X.warmed.alike.findClass]; exact hc))) (fun xa M9 H locs hq hM hS => ?_)
  obtain ⟨z9, hz⟩ : ∃ z, H.size = z := ⟨_, rfl⟩
  refine lv_astore hx hb dL_deposit_17 hl (by decide) rfl (fun ls hl => ?_)
  have hl : lv_has ls 5 [(4, .ref xa), (0, .ref x), (1, .int a1), (2, .int a2), (3, .ref o)] := hl
  refine lv_iconst (v := 2) hx hb dL_deposit_19 (by decide) ?_
  exact bm_iret hQ hx hb hr hlk hM hS ⟨rfl, hq⟩ (Nat.le_of_eq (Nat.zero_add _)) (Nat.le_of_eq (Nat.zero_add _)) dL_deposit_20
set_option maxHeartbeats 4000000 in
set_option maxRecDepth 100000 in
theorem bw_L_balance_ok (l : Launch) (D : va_G) (ct : Nat → ClassId) (base : Nat) (ad : Nat → Nat) (M : bm_Map) (sz : Nat) (x o : Nat) (a1 : Int32) (fs : List Value) (mc ms : Nat) (w : Nat → Int64) (post : Option Value → bm_Map → Nat → Prop) (hx0 : M x = some (.inr (6, fs))) (hC : Met l yB_balance (bm_ws yB_balance cB_balance 2 (some .int)) { frames := 1, cells := mc, slots := ms, locals := 20 } (bm_Pre D ct base ad M sz [.ref x, .int a1]) (bm_Post D base post) mc ms (bm_A base)) (hpo : ∀ r M1 n, post r M1 n → ∃ i : Int32, r = some (.int i) ∧ M1 o = some (.inl (ct 1, 1, .inr (.inl w)))) : bm_MG l yL_balance (bm_wl yL_balance cL_balance 4 (some .int) [(0, 9, 12, 13)]) { frames := 2, cells := mc, slots := ms, locals := 41 } (bm_Pre D ct base ad M sz [.ref x, .int a1, .ref o]) (bm_Post D base (fun r M2 n => r = some (.int 0) ∧ ∃ (i : Int32) (M1 : bm_Map), post (some (.int i)) M1 n ∧ M2 = bm_up M1 o (.inl (ct 1, 1, .inr (.inl (vp_updL w 0 i.toInt64)))))) mc ms (bm_A base) := by
  refine bm_ofL (cc := cL_balance) (maxL := 4) (ret := (some .int)) (tb := [(0, 9, 12, 13)]) (by decide +kernel) (Nat.le_of_ble_eq_true rfl) ?_
  intro vp ve s vm args below meth vc hx hb hr hlk hts hown hml hnm ls hl hz hM hG R Q hR hQ hT
  have hown : s.vm.findClass "BlindMintLaw" = some vm.cls := hown
  have hK := hG.K
  have hS : va_S (bm_A base) s.heap s.heap [] := va_S.rf
  have hl : lv_has ls 4 [(0, .ref x), (1, .int a1), (2, .ref o)] := hl
  refine lv_aload_n hx hb dL_balance_0 rfl (lv_at hl 2 rfl) ?_
  refine lv_iconst (v := 0) hx hb dL_balance_1 (by decide) ?_
  refine lv_aload_n hx hb dL_balance_2 rfl (lv_at hl 0 rfl) ?_
  refine lv_iload_n hx hb dL_balance_3 rfl (lv_at hl 1 rfl) ?_
  refine bm_call (va_runV (As := [.int a1]) (rest := [.int 0, .ref o]) ⟨hx, hb, hml, hown, hts⟩ hC (cwV 1 hts (bm_goodV bw_577 bw_578 bw_579 bw_1 bw_580) rfl rfl rfl (by decide +kernel) (by rw [← hR]; exact ⟨Nat.le_of_ble_eq_true rfl, Nat.le_of_ble_eq_true rfl⟩)) (bm_preV hM hG hS hz hx0 rfl) rfl rfl hl.1 rfl (lv_room (Nat.le_of_ble_eq_true rfl)) dL_balance_4 (by rw [← hR]; exact ⟨(Nat.le_of_eq (Nat.zero_add _)), (Nat.le_of_eq (Nat.zero_add _))⟩)) hS (fun v9 M9 H locs hq hM hS _ => ?_)
  obtain ⟨i, rfl, ho⟩ := hpo _ _ _ hq
  obtain ⟨z9, hz⟩ : ∃ z, H.size = z := ⟨_, rfl⟩
  rw [hz] at hq
  refine lv_i2l hx hb dL_balance_7 rfl ?_
  refine bm_last hx hb hK hM hS 1 ho rfl 0 (bm_ix_nI (k := 0) (by decide)) (by decide) dL_balance_8 (fun H locs hz1 hM hS => ?_)
  replace hz := hz1.trans hz
  replace hM : bm_M D base (bm_up M9 o (.inl (ct 1, 1, .inr (.inl (vp_updL w 0 i.toInt64))))) H := hM
  obtain ⟨M1, eM1⟩ : ∃ X, X = bm_up M9 o (.inl (ct 1, 1, .inr (.inl (vp_updL w 0 i.toInt64)))) := ⟨_, rfl⟩
  rw [← eM1] at hM
  replace ho : M1 o = some (.inl (ct 1, 1, .inr (.inl (vp_updL w 0 i.toInt64)))) := by rw [eM1]; exact bm_up_self _ _ _
  refine lv_goto (tgt := 15) hx hb dL_balance_9 rfl ?_
  refine lv_iconst (v := 0) hx hb dL_balance_15 (by decide) ?_
  exact bm_iret hQ hx hb hr hlk hM hS ⟨rfl, i, M9, by rw [hz]; exact hq, eM1⟩ (Nat.le_of_eq (Nat.zero_add _)) (Nat.le_of_eq (Nat.zero_add _)) dL_balance_16
set_option maxHeartbeats 4000000 in
set_option maxRecDepth 100000 in
theorem bw_L_balance_t1 (l : Launch) (D : va_G) (ct : Nat → ClassId) (base : Nat) (ad : Nat → Nat) (M : bm_Map) (sz : Nat) (x o : Nat) (a1 : Int32) (fs : List Value) (mc ms : Nat) (post : bm_Map → Nat → Prop) (hx0 : M x = some (.inr (6, fs))) (hC : bm_MG l yB_balance (bm_ws yB_balance cB_balance 2 (some .int)) { frames := 6, cells := mc, slots := ms, locals := 81 } (bm_Pre D ct base ad M sz [.ref x, .int a1]) (bm_PostT D base "java/lang/IllegalArgumentException" post) mc ms (bm_A base)) : bm_MG l yL_balance (bm_wl yL_balance cL_balance 4 (some .int) [(0, 9, 12, 13)]) { frames := 7, cells := mc, slots := ms, locals := 102 } (bm_Pre D ct base ad M sz [.ref x, .int a1, .ref o]) (bm_Post D base (fun r M2 n => r = some (.int 1) ∧ post M2 n)) mc ms (bm_A base) := by
  refine bm_ofL (cc := cL_balance) (maxL := 4) (ret := (some .int)) (tb := [(0, 9, 12, 13)]) (by decide +kernel) (Nat.le_of_ble_eq_true rfl) ?_
  intro vp ve s vm args below meth vc hx hb hr hlk hts hown hml hnm ls hl hz hM hG R Q hR hQ hT
  have hown : s.vm.findClass "BlindMintLaw" = some vm.cls := hown
  have hK := hG.K
  have hS : va_S (bm_A base) s.heap s.heap [] := va_S.rf
  have hl : lv_has ls 4 [(0, .ref x), (1, .int a1), (2, .ref o)] := hl
  refine lv_aload_n hx hb dL_balance_0 rfl (lv_at hl 2 rfl) ?_
  refine lv_iconst (v := 0) hx hb dL_balance_1 (by decide) ?_
  refine lv_aload_n hx hb dL_balance_2 rfl (lv_at hl 0 rfl) ?_
  refine lv_iload_n hx hb dL_balance_3 rfl (lv_at hl 1 rfl) ?_
  refine bm_callT (n := 1) (As := [.int a1]) (rest := [.int 0, .ref o]) (K := "java/lang/IllegalArgumentException") ⟨hx, hb, hml, hown, hts⟩ hC bw_577 bw_578 bw_579 bw_580 rfl rfl (by decide +kernel) (by rw [← hR]; exact ⟨Nat.le_of_ble_eq_true rfl, Nat.le_of_ble_eq_true rfl⟩) (bm_preV hM hG hS hz hx0 rfl) rfl hl.1 (Nat.le_of_ble_eq_true rfl) dL_balance_4 (by rw [← hR]; exact ⟨(Nat.le_of_eq (Nat.zero_add _)), (Nat.le_of_eq (Nat.zero_add _))⟩) hS (hpc := 12) (fun T locs cells slots xa ce X hce hv hc => bm_catch1 X hce hv rfl hown hT ⟨Nat.le_of_ble_eq_true rfl, Nat.le_of_ble_eq_true rfl⟩ (by decide) (hts _ bw_235) (va_Nw.use rfl hG.2.2.1.w243) (by rw [← X.warmed.alike.findClass]; exact hc)) (fun xa M9 H locs hq hM hS => ?_)
  obtain ⟨z9, hz⟩ : ∃ z, H.size = z := ⟨_, rfl⟩
  refine lv_astore_n hx hb dL_balance_12 rfl hl (by decide) rfl (fun ls hl => ?_)
  have hl : lv_has ls 4 [(3, .ref xa), (0, .ref x), (1, .int a1), (2, .ref o)] := hl
  refine lv_iconst (v := 1) hx hb dL_balance_13 (by decide) ?_
  exact bm_iret hQ hx hb hr hlk hM hS ⟨rfl, hq⟩ (Nat.le_of_eq (Nat.zero_add _)) (Nat.le_of_eq (Nat.zero_add _)) dL_balance_14
set_option maxHeartbeats 4000000 in
set_option maxRecDepth 100000 in
theorem bw_L_coin_ok (l : Launch) (D : va_G) (ct : Nat → ClassId) (base : Nat) (ad : Nat → Nat) (M : bm_Map) (sz : Nat) (x o : Nat) (a1 : Int32) (a2 : Int32) (fs : List Value) (mc ms : Nat) (w : Nat → Int64) (post : Option Value → bm_Map → Nat → Prop) (hx0 : M x = some (.inr (6, fs))) (hC : Met l yB_coin (bm_ws yB_coin cB_coin 4 (some .long)) { frames := 2, cells := mc, slots := ms, locals := 42 } (bm_Pre D ct base ad M sz [.ref x, .int a1, .int a2]) (bm_Post D base post) mc ms (bm_A base)) (hpo : ∀ r M1 n, post r M1 n → ∃ i : Int64, r = some (.long i) ∧ M1 o = some (.inl (ct 1, 1, .inr (.inl w)))) : bm_MG l yL_coin (bm_wl yL_coin cL_coin 5 (some .int) [(0, 9, 12, 21)]) { frames := 3, cells := mc, slots := ms, locals := 65 } (bm_Pre D ct base ad M sz [.ref x, .int a1, .int a2, .ref o]) (bm_Post D base (fun r M2 n => r = some (.int 0) ∧ ∃ (i : Int64) (M1 : bm_Map), post (some (.long i)) M1 n ∧ M2 = bm_up M1 o (.inl (ct 1, 1, .inr (.inl (vp_updL w 0 i)))))) mc ms (bm_A base) := by
  refine bm_ofL (cc := cL_coin) (maxL := 5) (ret := (some .int)) (tb := [(0, 9, 12, 21)]) (by decide +kernel) (Nat.le_of_ble_eq_true rfl) ?_
  intro vp ve s vm args below meth vc hx hb hr hlk hts hown hml hnm ls hl hz hM hG R Q hR hQ hT
  have hown : s.vm.findClass "BlindMintLaw" = some vm.cls := hown
  have hK := hG.K
  have hS : va_S (bm_A base) s.heap s.heap [] := va_S.rf
  have hl : lv_has ls 5 [(0, .ref x), (1, .int a1), (2, .int a2), (3, .ref o)] := hl
  refine lv_aload_n hx hb dL_coin_0 rfl (lv_at hl 3 rfl) ?_
  refine lv_iconst (v := 0) hx hb dL_coin_1 (by decide) ?_
  refine lv_aload_n hx hb dL_coin_2 rfl (lv_at hl 0 rfl) ?_
  refine lv_iload_n hx hb dL_coin_3 rfl (lv_at hl 1 rfl) ?_
  refine lv_iload_n hx hb dL_coin_4 rfl (lv_at hl 2 rfl) ?_
  refine bm_call (va_runV (As := [.int a1, .int a2]) (rest := [.int 0, .ref o]) ⟨hx, hb, hml, hown, hts⟩ hC (cwV 2 hts (bm_goodV bw_584 bw_585 bw_586 bw_1 bw_587) rfl rfl rfl (by decide +kernel) (by rw [← hR]; exact ⟨Nat.le_of_ble_eq_true rfl, Nat.le_of_ble_eq_true rfl⟩)) (bm_preV hM hG hS hz hx0 rfl) rfl rfl hl.1 rfl (lv_room (Nat.le_of_ble_eq_true rfl)) dL_coin_5 (by rw [← hR]; exact ⟨(Nat.le_of_eq (Nat.zero_add _)), (Nat.le_of_eq (Nat.zero_add _))⟩)) hS (fun v9 M9 H locs hq hM hS _ => ?_)
  obtain ⟨i, rfl, ho⟩ := hpo _ _ _ hq
  obtain ⟨z9, hz⟩ : ∃ z, H.size = z := ⟨_, rfl⟩
  rw [hz] at hq
  refine bm_last hx hb hK hM hS 1 ho rfl 0 (bm_ix_nI (k := 0) (by decide)) (by decide) dL_coin_8 (fun H locs hz1 hM hS => ?_)
  replace hz := hz1.trans hz
  replace hM : bm_M D base (bm_up M9 o (.inl (ct 1, 1, .inr (.inl (vp_updL w 0 i))))) H := hM
  obtain ⟨M1, eM1⟩ : ∃ X, X = bm_up M9 o (.inl (ct 1, 1, .inr (.inl (vp_updL w 0 i)))) := ⟨_, rfl⟩
  rw [← eM1] at hM
  replace ho : M1 o = some (.inl (ct 1, 1, .inr (.inl (vp_updL w 0 i)))) := by rw [eM1]; exact bm_up_self _ _ _
  refine lv_goto (tgt := 16) hx hb dL_coin_9 rfl ?_
  refine lv_iconst (v := 0) hx hb dL_coin_16 (by decide) ?_
  exact bm_iret hQ hx hb hr hlk hM hS ⟨rfl, i, M9, by rw [hz]; exact hq, eM1⟩ (Nat.le_of_eq (Nat.zero_add _)) (Nat.le_of_eq (Nat.zero_add _)) dL_coin_17
set_option maxHeartbeats 4000000 in
set_option maxRecDepth 100000 in
theorem bw_L_coin_t1 (l : Launch) (D : va_G) (ct : Nat → ClassId) (base : Nat) (ad : Nat → Nat) (M : bm_Map) (sz : Nat) (x o : Nat) (a1 : Int32) (a2 : Int32) (fs : List Value) (mc ms : Nat) (post : bm_Map → Nat → Prop) (hx0 : M x = some (.inr (6, fs))) (hC : bm_MG l yB_coin (bm_ws yB_coin cB_coin 4 (some .long)) { frames := 6, cells := mc, slots := ms, locals := 81 } (bm_Pre D ct base ad M sz [.ref x, .int a1, .int a2]) (bm_PostT D base "java/util/NoSuchElementException" post) mc ms (bm_A base)) : bm_MG l yL_coin (bm_wl yL_coin cL_coin 5 (some .int) [(0, 9, 12, 21)]) { frames := 7, cells := mc, slots := ms, locals := 104 } (bm_Pre D ct base ad M sz [.ref x, .int a1, .int a2, .ref o]) (bm_Post D base (fun r M2 n => r = some (.int 1) ∧ post M2 n)) mc ms (bm_A base) := by
  refine bm_ofL (cc := cL_coin) (maxL := 5) (ret := (some .int)) (tb := [(0, 9, 12, 21)]) (by decide +kernel) (Nat.le_of_ble_eq_true rfl) ?_
  intro vp ve s vm args below meth vc hx hb hr hlk hts hown hml hnm ls hl hz hM hG R Q hR hQ hT
  have hown : s.vm.findClass "BlindMintLaw" = some vm.cls := hown
  have hK := hG.K
  have hS : va_S (bm_A base) s.heap s.heap [] := va_S.rf
  have hl : lv_has ls 5 [(0, .ref x), (1, .int a1), (2, .int a2), (3, .ref o)] := hl
  refine lv_aload_n hx hb dL_coin_0 rfl (lv_at hl 3 rfl) ?_
  refine lv_iconst (v := 0) hx hb dL_coin_1 (by decide) ?_
  refine lv_aload_n hx hb dL_coin_2 rfl (lv_at hl 0 rfl) ?_
  refine lv_iload_n hx hb dL_coin_3 rfl (lv_at hl 1 rfl) ?_
  refine lv_iload_n hx hb dL_coin_4 rfl (lv_at hl 2 rfl) ?_
  refine bm_callT (n := 2) (As := [.int a1, .int a2]) (rest := [.int 0, .ref o]) (K := "java/util/NoSuchElementException") ⟨hx, hb, hml, hown, hts⟩ hC bw_584 bw_585 bw_586 bw_587 rfl rfl (by decide +kernel) (by rw [← hR]; exact ⟨Nat.le_of_ble_eq_true rfl, Nat.le_of_ble_eq_true rfl⟩) (bm_preV hM hG hS hz hx0 rfl) rfl hl.1 (Nat.le_of_ble_eq_true rfl) dL_coin_5 (by rw [← hR]; exact ⟨(Nat.le_of_eq (Nat.zero_add _)), (Nat.le_of_eq (Nat.zero_add _))⟩) hS (hpc := 12) (fun T locs cells slots xa ce X hce hv hc => bm_catch1 X hce hv rfl hown hT ⟨Nat.le_of_ble_eq_true rfl, Nat.le_of_ble_eq_true rfl⟩ (by decide) (hts _ bw_447) (va_Nw.use rfl hG.2.2.1.w458) (by rw [← X.warmed.alike.findClass]; exact hc)) (fun xa M9 H locs hq hM hS => ?_)
  obtain ⟨z9, hz⟩ : ∃ z, H.size = z := ⟨_, rfl⟩
  refine lv_astore hx hb dL_coin_12 hl (by decide) rfl (fun ls hl => ?_)
  have hl : lv_has ls 5 [(4, .ref xa), (0, .ref x), (1, .int a1), (2, .int a2), (3, .ref o)] := hl
  refine lv_iconst (v := 1) hx hb dL_coin_14 (by decide) ?_
  exact bm_iret hQ hx hb hr hlk hM hS ⟨rfl, hq⟩ (Nat.le_of_eq (Nat.zero_add _)) (Nat.le_of_eq (Nat.zero_add _)) dL_coin_15
set_option maxHeartbeats 4000000 in
set_option maxRecDepth 100000 in
theorem bw_L_signature_ok (l : Launch) (D : va_G) (ct : Nat → ClassId) (base : Nat) (ad : Nat → Nat) (M : bm_Map) (sz : Nat) (x o : Nat) (a1 : Int32) (a2 : Int32) (fs : List Value) (mc ms : Nat) (w : Nat → Int64) (post : Option Value → bm_Map → Nat → Prop) (hx0 : M x = some (.inr (6, fs))) (hC : Met l yB_signature (bm_ws yB_signature cB_signature 4 (some .long)) { frames := 2, cells := mc, slots := ms, locals := 42 } (bm_Pre D ct base ad M sz [.ref x, .int a1, .int a2]) (bm_Post D base post) mc ms (bm_A base)) (hpo : ∀ r M1 n, post r M1 n → ∃ i : Int64, r = some (.long i) ∧ M1 o = some (.inl (ct 1, 1, .inr (.inl w)))) : bm_MG l yL_signature (bm_wl yL_signature cL_signature 5 (some .int) [(0, 9, 12, 21)]) { frames := 3, cells := mc, slots := ms, locals := 65 } (bm_Pre D ct base ad M sz [.ref x, .int a1, .int a2, .ref o]) (bm_Post D base (fun r M2 n => r = some (.int 0) ∧ ∃ (i : Int64) (M1 : bm_Map), post (some (.long i)) M1 n ∧ M2 = bm_up M1 o (.inl (ct 1, 1, .inr (.inl (vp_updL w 0 i)))))) mc ms (bm_A base) := by
  refine bm_ofL (cc := cL_signature) (maxL := 5) (ret := (some .int)) (tb := [(0, 9, 12, 21)]) (by decide +kernel) (Nat.le_of_ble_eq_true rfl) ?_
  intro vp ve s vm args below meth vc hx hb hr hlk hts hown hml hnm ls hl hz hM hG R Q hR hQ hT
  have hown : s.vm.findClass "BlindMintLaw" = some vm.cls := hown
  have hK := hG.K
  have hS : va_S (bm_A base) s.heap s.heap [] := va_S.rf
  have hl : lv_has ls 5 [(0, .ref x), (1, .int a1), (2, .int a2), (3, .ref o)] := hl
  refine lv_aload_n hx hb dL_signature_0 rfl (lv_at hl 3 rfl) ?_
  refine lv_iconst (v := 0) hx hb dL_signature_1 (by decide) ?_
  refine lv_aload_n hx hb dL_signature_2 rfl (lv_at hl 0 rfl) ?_
  refine lv_iload_n hx hb dL_signature_3 rfl (lv_at hl 1 rfl) ?_
  refine lv_iload_n hx hb dL_signature_4 rfl (lv_at hl 2 rfl) ?_
  refine bm_call (va_runV (As := [.int a1, .int a2]) (rest := [.int 0, .ref o]) ⟨hx, hb, hml, hown, hts⟩ hC (cwV 2 hts (bm_goodV bw_591 bw_592 bw_593 bw_1 bw_594) rfl rfl rfl (by decide +kernel) (by rw [← hR]; exact ⟨Nat.le_of_ble_eq_true rfl, Nat.le_of_ble_eq_true rfl⟩)) (bm_preV hM hG hS hz hx0 rfl) rfl rfl hl.1 rfl (lv_room (Nat.le_of_ble_eq_true rfl)) dL_signature_5 (by rw [← hR]; exact ⟨(Nat.le_of_eq (Nat.zero_add _)), (Nat.le_of_eq (Nat.zero_add _))⟩)) hS (fun v9 M9 H locs hq hM hS _ => ?_)
  obtain ⟨i, rfl, ho⟩ := hpo _ _ _ hq
  obtain ⟨z9, hz⟩ : ∃ z, H.size = z := ⟨_, rfl⟩
  rw [hz] at hq
  refine bm_last hx hb hK hM hS 1 ho rfl 0 (bm_ix_nI (k := 0) (by decide)) (by decide) dL_signature_8 (fun H locs hz1 hM hS => ?_)
  replace hz := hz1.trans hz
  replace hM : bm_M D base (bm_up M9 o (.inl (ct 1, 1, .inr (.inl (vp_updL w 0 i))))) H := hM
  obtain ⟨M1, eM1⟩ : ∃ X, X = bm_up M9 o (.inl (ct 1, 1, .inr (.inl (vp_updL w 0 i)))) := ⟨_, rfl⟩
  rw [← eM1] at hM
  replace ho : M1 o = some (.inl (ct 1, 1, .inr (.inl (vp_updL w 0 i)))) := by rw [eM1]; exact bm_up_self _ _ _
  refine lv_goto (tgt := 16) hx hb dL_signature_9 rfl ?_
  refine lv_iconst (v := 0) hx hb dL_signature_16 (by decide) ?_
  exact bm_iret hQ hx hb hr hlk hM hS ⟨rfl, i, M9, by rw [hz]; exact hq, eM1⟩ (Nat.le_of_eq (Nat.zero_add _)) (Nat.le_of_eq (Nat.zero_add _)) dL_signature_17
set_option maxHeartbeats 4000000 in
set_option maxRecDepth 100000 in
theorem bw_L_signature_t1 (l : Launch) (D : va_G) (ct : Nat → ClassId) (base : Nat) (ad : Nat → Nat) (M : bm_Map) (sz : Nat) (x o : Nat) (a1 : Int32) (a2 : Int32) (fs : List Value) (mc ms : Nat) (post : bm_Map → Nat → Prop) (hx0 : M x = some (.inr (6, fs))) (hC : bm_MG l yB_signature (bm_ws yB_signature cB_signature 4 (some .long)) { frames := 6, cells := mc, slots := ms, locals := 81 } (bm_Pre D ct base ad M sz [.ref x, .int a1, .int a2]) (bm_PostT D base "java/util/NoSuchElementException" post) mc ms (bm_A base)) : bm_MG l yL_signature (bm_wl yL_signature cL_signature 5 (some .int) [(0, 9, 12, 21)]) { frames := 7, cells := mc, slots := ms, locals := 104 } (bm_Pre D ct base ad M sz [.ref x, .int a1, .int a2, .ref o]) (bm_Post D base (fun r M2 n => r = some (.int 1) ∧ post M2 n)) mc ms (bm_A base) := by
  refine bm_ofL (cc := cL_signature) (maxL := 5) (ret := (some .int)) (tb := [(0, 9, 12, 21)]) (by decide +kernel) (Nat.le_of_ble_eq_true rfl) ?_
  intro vp ve s vm args below meth vc hx hb hr hlk hts hown hml hnm ls hl hz hM hG R Q hR hQ hT
  have hown : s.vm.findClass "BlindMintLaw" = some vm.cls := hown
  have hK := hG.K
  have hS : va_S (bm_A base) s.heap s.heap [] := va_S.rf
  have hl : lv_has ls 5 [(0, .ref x), (1, .int a1), (2, .int a2), (3, .ref o)] := hl
  refine lv_aload_n hx hb dL_signature_0 rfl (lv_at hl 3 rfl) ?_
  refine lv_iconst (v := 0) hx hb dL_signature_1 (by decide) ?_
  refine lv_aload_n hx hb dL_signature_2 rfl (lv_at hl 0 rfl) ?_
  refine lv_iload_n hx hb dL_signature_3 rfl (lv_at hl 1 rfl) ?_
  refine lv_iload_n hx hb dL_signature_4 rfl (lv_at hl 2 rfl) ?_
  refine bm_callT (n := 2) (As := [.int a1, .int a2]) (rest := [.int 0, .ref o]) (K := "java/util/NoSuchElementException") ⟨hx, hb, hml, hown, hts⟩ hC bw_591 bw_592 bw_593 bw_594 rfl rfl (by decide +kernel) (by rw [← hR]; exact ⟨Nat.le_of_ble_eq_true rfl, Nat.le_of_ble_eq_true rfl⟩) (bm_preV hM hG hS hz hx0 rfl) rfl hl.1 (Nat.le_of_ble_eq_true rfl) dL_signature_5 (by rw [← hR]; exact ⟨(Nat.le_of_eq (Nat.zero_add _)), (Nat.le_of_eq (Nat.zero_add _))⟩) hS (hpc := 12) (fun T locs cells slots xa ce X hce hv hc => bm_catch1 X hce hv rfl hown hT ⟨Nat.le_of_ble_eq_true rfl, Nat.le_of_ble_eq_true rfl⟩ (by decide) (hts _ bw_447) (va_Nw.use rfl hG.2.2.1.w458) (by rw [← X.warmed.alike.findClass]; exact hc)) (fun xa M9 H locs hq hM hS => ?_)
  obtain ⟨z9, hz⟩ : ∃ z, H.size = z := ⟨_, rfl⟩
  refine lv_astore hx hb dL_signature_12 hl (by decide) rfl (fun ls hl => ?_)
  have hl : lv_has ls 5 [(4, .ref xa), (0, .ref x), (1, .int a1), (2, .int a2), (3, .ref o)] := hl
  refine lv_iconst (v := 1) hx hb dL_signature_14 (by decide) ?_
  exact bm_iret hQ hx hb hr hlk hM hS ⟨rfl, hq⟩ (Nat.le_of_eq (Nat.zero_add _)) (Nat.le_of_eq (Nat.zero_add _)) dL_signature_15
