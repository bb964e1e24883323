set_option maxHeartbeats 4000000 in
set_option maxRecDepth 100000 in
theorem bc_M_withdraw_n1 (l : Launch) (D : va_G) (ct : Nat → ClassId) (base : Nat) (ad : Nat → Nat) (M : bm_Map) (sz : Nat) (m : Nat) (th : Int32) (tr : Int32) (bl : Int64) (np : Int32) (nd : Int32) (f1 : Nat → Int32) (f2 : Nat → Int32) (f3 : Nat → Int32) (f4 : Nat → Int32) (g5 : Nat → Int64) (g6 : Nat → Int64) (f7 : Nat → Int32) (g8 : Nat → Int64) (g9 : Nat → Int64) (g10 : Nat → Int64) (g11 : Nat → Int64) (g12 : Nat → Int64) (g13 : Nat → Int64) (g14 : Nat → Int64) (g15 : Nat → Int64) (f16 : Nat → Int32) (g17 : Nat → Int64) (v w : Int32) (seed : Int64) (ch : Int32) (hP : bm_MD ct m th tr bl np nd f1 f2 f3 f4 g5 g6 f7 g8 g9 g10 g11 g12 g13 g14 g15 f16 g17 M) (hv : bm_bl v 4 = 0) : Met l yM_withdraw (bm_ws yM_withdraw cM_withdraw 10 (some .int)) { frames := 3, cells := 0, slots := 0, locals := 93 } (bm_Pre D ct base ad M sz [.ref m, .int v, .int w, .long seed, .int ch]) (bm_Post D base (bm_Pm m M sz (fun v M1 => v = some (.int 0) ∧ bm_MD ct m 1 tr bl np nd f1 f2 f3 f4 g5 g6 f7 g8 g9 g10 g11 g12 g13 g14 g15 f16 g17 M1))) 0 0 (bm_A base) := by
  refine bm_ofB (cc := cM_withdraw) (maxL := 10) (ret := (some .int)) (by decide +kernel) (Nat.le_of_ble_eq_true rfl) ?_
  intro vp ve s vm args below meth vc hx hb hr hlk hts hown hml hnm ls hl hz hM hG R Q hR hQ
  have hown : s.vm.findClass "BlindMintModel" = some vm.cls := hown
  have hK := hG.K
  have hS : va_S (bm_A base) s.heap s.heap [] := va_S.rf
  have hl : lv_has ls 10 [(0, .ref m), (1, .int v), (2, .int w), (3, .long seed), (5, .int ch)] := hl
  have hF : bm_fr m M M := bm_fr.rf
  refine lv_aload_n hx hb dM_withdraw_0 rfl (lv_at hl 0 rfl) ?_
  refine lv_iconst (v := 0) hx hb dM_withdraw_1 (by decide) ?_
  refine bm_put (ci := 7) (v := .int 0) (ty := .int) (C := "BlindMintModel") (T := bt_M) (N := 22) hx hb hts bu_M by_M bo_M bn_M hown hK hM hS hP.c0 rfl 0 (by decide) (hts _ bw_602) (fun _ h9 => h9) rfl (by decide +kernel) rfl rfl (Nat.le_of_ble_eq_true rfl) dM_withdraw_2 (fun H locs hz1 hM hS => ?_)
  have hz := hz1.trans hz
  obtain ⟨M1, hM, hP, hF⟩ : ∃ X, bm_M D base X H ∧ bm_MD ct m 0 tr bl np nd f1 f2 f3 f4 g5 g6 f7 g8 g9 g10 g11 g12 g13 g14 g15 f16 g17 X ∧ bm_fr m M X := ⟨_, hM, hP.s_th _, hF.up0⟩
  refine lv_iload_n hx hb dM_withdraw_5 rfl (lv_at hl 1 rfl) ?_
  refine lv_iconst (v := 4) hx hb dM_withdraw_6 (by decide) ?_
  refine bm_callE (va_runS (As := [.int v, .int 4]) (rest := []) ⟨hx, hb, hml, hown, hts⟩ (bc_M_below l D ct base ad M1 sz v 4) (va_cwS 2 hts (bm_goodS bw_679 bw_680 bw_5 bw_681) rfl rfl rfl (by decide +kernel) (by rw [← hR]; exact ⟨Nat.le_of_ble_eq_true rfl, Nat.le_of_ble_eq_true rfl⟩)) (bm_preS hM hG hS hz) rfl rfl hl.1 rfl (lv_room (Nat.le_of_ble_eq_true rfl)) dM_withdraw_7 (by rw [← hR]; exact ⟨Nat.le_of_ble_eq_true rfl, Nat.le_of_ble_eq_true rfl⟩)) hS (fun H locs hz hM hS => ?_)
  refine lv_if_eq (tgt := 31) hx hb dM_withdraw_10 rfl (fun h10 => ?_) (fun h10 => absurd hv h10)
  refine lv_aload_n hx hb dM_withdraw_31 rfl (lv_at hl 0 rfl) ?_
  refine lv_iconst (v := 1) hx hb dM_withdraw_32 (by decide) ?_
  refine bm_call (va_runV (As := [.int 1]) (rest := []) ⟨hx, hb, hml, hown, hts⟩ (bc_M_fail l D ct base ad M1 sz m 0 tr bl np nd f1 f2 f3 f4 g5 g6 f7 g8 g9 g10 g11 g12 g13 g14 g15 f16 g17 1 hP) (cwV 1 hts (bm_goodV bw_682 bw_684 bs_10 bw_5 bw_685) rfl rfl rfl (by decide +kernel) (by rw [← hR]; exact ⟨Nat.le_of_ble_eq_true rfl, Nat.le_of_ble_eq_true rfl⟩)) (bm_preV hM hG hS hz hP.c0 rfl) rfl rfl hl.1 rfl (lv_room (Nat.le_of_ble_eq_true rfl)) dM_withdraw_33 (by rw [← hR]; exact ⟨Nat.le_of_ble_eq_true rfl, Nat.le_of_ble_eq_true rfl⟩)) hS (fun v9 M2 H locs hq hM hS _ => ?_)
  obtain ⟨hz, ⟨rfl, hP⟩, hF9⟩ := hq
  have hF := hF.tr hF9
  exact bm_iret hQ hx hb hr hlk hM hS ⟨hz, ⟨rfl, hP⟩, hF⟩ (Nat.le_refl _) (Nat.le_refl _) dM_withdraw_36
set_option maxHeartbeats 4000000 in
set_option maxRecDepth 100000 in
theorem bc_M_withdraw_n2 (l : Launch) (D : va_G) (ct : Nat → ClassId) (base : Nat) (ad : Nat → Nat) (M : bm_Map) (sz : Nat) (m : Nat) (th : Int32) (tr : Int32) (bl : Int64) (np : Int32) (nd : Int32) (f1 : Nat → Int32) (f2 : Nat → Int32) (f3 : Nat → Int32) (f4 : Nat → Int32) (g5 : Nat → Int64) (g6 : Nat → Int64) (f7 : Nat → Int32) (g8 : Nat → Int64) (g9 : Nat → Int64) (g10 : Nat → Int64) (g11 : Nat → Int64) (g12 : Nat → Int64) (g13 : Nat → Int64) (g14 : Nat → Int64) (g15 : Nat → Int64) (f16 : Nat → Int32) (g17 : Nat → Int64) (j : Nat) (w : Int32) (seed : Int64) (ch : Int32) (hP : bm_MD ct m th tr bl np nd f1 f2 f3 f4 g5 g6 f7 g8 g9 g10 g11 g12 g13 g14 g15 f16 g17 M) (hj : j < 4) (hw : bm_bl w 3 = 0) : Met l yM_withdraw (bm_ws yM_withdraw cM_withdraw 10 (some .int)) { frames := 3, cells := 0, slots := 0, locals := 93 } (bm_Pre D ct base ad M sz [.ref m, .int (nI j), .int w, .long seed, .int ch]) (bm_Post D base (bm_Pm m M sz (fun v M1 => v = some (.int 0) ∧ bm_MD ct m 1 tr bl np nd f1 f2 f3 f4 g5 g6 f7 g8 g9 g10 g11 g12 g13 g14 g15 f16 g17 M1))) 0 0 (bm_A base) := by
  refine bm_ofB (cc := cM_withdraw) (maxL := 10) (ret := (some .int)) (by decide +kernel) (Nat.le_of_ble_eq_true rfl) ?_
  intro vp ve s vm args below meth vc hx hb hr hlk hts hown hml hnm ls hl hz hM hG R Q hR hQ
  have hown : s.vm.findClass "BlindMintModel" = some vm.cls := hown
  have hK := hG.K
  have hS : va_S (bm_A base) s.heap s.heap [] := va_S.rf
  have hl : lv_has ls 10 [(0, .ref m), (1, .int (nI j)), (2, .int w), (3, .long seed), (5, .int ch)] := hl
  have hF : bm_fr m M M := bm_fr.rf
  refine lv_aload_n hx hb dM_withdraw_0 rfl (lv_at hl 0 rfl) ?_
  refine lv_iconst (v := 0) hx hb dM_withdraw_1 (by decide) ?_
  refine bm_put (ci := 7) (v := .int 0) (ty := .int) (C := "BlindMintModel") (T := bt_M) (N := 22) hx hb hts bu_M by_M bo_M bn_M hown hK hM hS hP.c0 rfl 0 (by decide) (hts _ bw_602) (fun _ h9 => h9) rfl (by decide +kernel) rfl rfl (Nat.le_of_ble_eq_true rfl) dM_withdraw_2 (fun H locs hz1 hM hS => ?_)
  have hz := hz1.trans hz
  obtain ⟨M1, hM, hP, hF⟩ : ∃ X, bm_M D base X H ∧ bm_MD ct m 0 tr bl np nd f1 f2 f3 f4 g5 g6 f7 g8 g9 g10 g11 g12 g13 g14 g15 f16 g17 X ∧ bm_fr m M X := ⟨_, hM, hP.s_th _, hF.up0⟩
  refine lv_iload_n hx hb dM_withdraw_5 rfl (lv_at hl 1 rfl) ?_
  refine lv_iconst (v := 4) hx hb dM_withdraw_6 (by decide) ?_
  refine bm_callE (va_runS (As := [.int (nI j), .int 4]) (rest := []) ⟨hx, hb, hml, hown, hts⟩ (bc_M_below l D ct base ad M1 sz (nI j) 4) (va_cwS 2 hts (bm_goodS bw_679 bw_680 bw_5 bw_681) rfl rfl rfl (by decide +kernel) (by rw [← hR]; exact ⟨Nat.le_of_ble_eq_true rfl, Nat.le_of_ble_eq_true rfl⟩)) (bm_preS hM hG hS hz) rfl rfl hl.1 rfl (lv_room (Nat.le_of_ble_eq_true rfl)) dM_withdraw_7 (by rw [← hR]; exact ⟨Nat.le_of_ble_eq_true rfl, Nat.le_of_ble_eq_true rfl⟩)) hS (fun H locs hz hM hS => ?_)
  refine lv_if_eq (tgt := 31) hx hb dM_withdraw_10 rfl (fun h10 => absurd h10 (by rw [show bm_bl (nI j) 4 = 1 from (bm_bl_nI (N := 4) hj (by decide))]; decide)) (fun h10 => ?_)
  refine lv_iload_n hx hb dM_withdraw_13 rfl (lv_at hl 2 rfl) ?_
  refine lv_iconst (v := 3) hx hb dM_withdraw_14 (by decide) ?_
  refine bm_callE (va_runS (As := [.int w, .int 3]) (rest := []) ⟨hx, hb, hml, hown, hts⟩ (bc_M_below l D ct base ad M1 sz w 3) (va_cwS 2 hts (bm_goodS bw_679 bw_680 bw_5 bw_681) rfl rfl rfl (by decide +kernel) (by rw [← hR]; exact ⟨Nat.le_of_ble_eq_true rfl, Nat.le_of_ble_eq_true rfl⟩)) (bm_preS hM hG hS hz) rfl rfl hl.1 rfl (lv_room (Nat.le_of_ble_eq_true rfl)) dM_withdraw_15 (by rw [← hR]; exact ⟨Nat.le_of_ble_eq_true rfl, Nat.le_of_ble_eq_true rfl⟩)) hS (fun H locs hz hM hS => ?_)
  refine lv_if_eq (tgt := 31) hx hb dM_withdraw_18 rfl (fun h18 => ?_) (fun h18 => absurd hw h18)
  refine lv_aload_n hx hb dM_withdraw_31 rfl (lv_at hl 0 rfl) ?_
  refine lv_iconst (v := 1) hx hb dM_withdraw_32 (by decide) ?_
  refine bm_call (va_runV (As := [.int 1]) (rest := []) ⟨hx, hb, hml, hown, hts⟩ (bc_M_fail l D ct base ad M1 sz m 0 tr bl np nd f1 f2 f3 f4 g5 g6 f7 g8 g9 g10 g11 g12 g13 g14 g15 f16 g17 1 hP) (cwV 1 hts (bm_goodV bw_682 bw_684 bs_10 bw_5 bw_685) rfl rfl rfl (by decide +kernel) (by rw [← hR]; exact ⟨Nat.le_of_ble_eq_true rfl, Nat.le_of_ble_eq_true rfl⟩)) (bm_preV hM hG hS hz hP.c0 rfl) rfl rfl hl.1 rfl (lv_room (Nat.le_of_ble_eq_true rfl)) dM_withdraw_33 (by rw [← hR]; exact ⟨Nat.le_of_ble_eq_true rfl, Nat.le_of_ble_eq_true rfl⟩)) hS (fun v9 M2 H locs hq hM hS _ => ?_)
  obtain ⟨hz, ⟨rfl, hP⟩, hF9⟩ := hq
  have hF := hF.tr hF9
  exact bm_iret hQ hx hb hr hlk hM hS ⟨hz, ⟨rfl, hP⟩, hF⟩ (Nat.le_refl _) (Nat.le_refl _) dM_withdraw_36
set_option maxHeartbeats 4000000 in
set_option maxRecDepth 100000 in
theorem bc_M_withdraw_n3 (l : Launch) (D : va_G) (ct : Nat → ClassId) (base : Nat) (ad : Nat → Nat) (M : bm_Map) (sz : Nat) (m : Nat) (th : Int32) (tr : Int32) (bl : Int64) (np : Int32) (nd : Int32) (f1 : Nat → Int32) (f2 : Nat → Int32) (f3 : Nat → Int32) (f4 : Nat → Int32) (g5 : Nat → Int64) (g6 : Nat → Int64) (f7 : Nat → Int32) (g8 : Nat → Int64) (g9 : Nat → Int64) (g10 : Nat → Int64) (g11 : Nat → Int64) (g12 : Nat → Int64) (g13 : Nat → Int64) (g14 : Nat → Int64) (g15 : Nat → Int64) (f16 : Nat → Int32) (g17 : Nat → Int64) (j d : Nat) (seed : Int64) (ch : Int32) (hP : bm_MD ct m th tr bl np nd f1 f2 f3 f4 g5 g6 f7 g8 g9 g10 g11 g12 g13 g14 g15 f16 g17 M) (hj : j < 4) (hd : d < 3) (hc64 : bm_bl ch 64 = 0) : Met l yM_withdraw (bm_ws yM_withdraw cM_withdraw 10 (some .int)) { frames := 3, cells := 0, slots := 0, locals := 93 } (bm_Pre D ct base ad M sz [.ref m, .int (nI j), .int (nI d), .long seed, .int ch]) (bm_Post D base (bm_Pm m M sz (fun v M1 => v = some (.int 0) ∧ bm_MD ct m 1 tr bl np nd f1 f2 f3 f4 g5 g6 f7 g8 g9 g10 g11 g12 g13 g14 g15 f16 g17 M1))) 0 0 (bm_A base) := by
  refine bm_ofB (cc := cM_withdraw) (maxL := 10) (ret := (some .int)) (by decide +kernel) (Nat.le_of_ble_eq_true rfl) ?_
  intro vp ve s vm args below meth vc hx hb hr hlk hts hown hml hnm ls hl hz hM hG R Q hR hQ
  have hown : s.vm.findClass "BlindMintModel" = some vm.cls := hown
  have hK := hG.K
  have hS : va_S (bm_A base) s.heap s.heap [] := va_S.rf
  have hl : lv_has ls 10 [(0, .ref m), (1, .int (nI j)), (2, .int (nI d)), (3, .long seed), (5, .int ch)] := hl
  have hF : bm_fr m M M := bm_fr.rf
  refine lv_aload_n hx hb dM_withdraw_0 rfl (lv_at hl 0 rfl) ?_
  refine lv_iconst (v := 0) hx hb dM_withdraw_1 (by decide) ?_
  refine bm_put (ci := 7) (v := .int 0) (ty := .int) (C := "BlindMintModel") (T := bt_M) (N := 22) hx hb hts bu_M by_M bo_M bn_M hown hK hM hS hP.c0 rfl 0 (by decide) (hts _ bw_602) (fun _ h9 => h9) rfl (by decide +kernel) rfl rfl (Nat.le_of_ble_eq_true rfl) dM_withdraw_2 (fun H locs hz1 hM hS => ?_)
  have hz := hz1.trans hz
  obtain ⟨M1, hM, hP, hF⟩ : ∃ X, bm_M D base X H ∧ bm_MD ct m 0 tr bl np nd f1 f2 f3 f4 g5 g6 f7 g8 g9 g10 g11 g12 g13 g14 g15 f16 g17 X ∧ bm_fr m M X := ⟨_, hM, hP.s_th _, hF.up0⟩
  refine lv_iload_n hx hb dM_withdraw_5 rfl (lv_at hl 1 rfl) ?_
  refine lv_iconst (v := 4) hx hb dM_withdraw_6 (by decide) ?_
  refine bm_callE (va_runS (As := [.int (nI j), .int 4]) (rest := []) ⟨hx, hb, hml, hown, hts⟩ (bc_M_below l D ct base ad M1 sz (nI j) 4) (va_cwS 2 hts (bm_goodS bw_679 bw_680 bw_5 bw_681) rfl rfl rfl (by decide +kernel) (by rw [← hR]; exact ⟨Nat.le_of_ble_eq_true rfl, Nat.le_of_ble_eq_true rfl⟩)) (bm_preS hM hG hS hz) rfl rfl hl.1 rfl (lv_room (Nat.le_of_ble_eq_true rfl)) dM_withdraw_7 (by rw [← hR]; exact ⟨Nat.le_of_ble_eq_true rfl, Nat.le_of_ble_eq_true rfl⟩)) hS (fun H locs hz hM hS => ?_)
  refine lv_if_eq (tgt := 31) hx hb dM_withdraw_10 rfl (fun h10 => absurd h10 (by rw [show bm_bl (nI j) 4 = 1 from (bm_bl_nI (N := 4) hj (by decide))]; decide)) (fun h10 => ?_)
  refine lv_iload_n hx hb dM_withdraw_13 rfl (lv_at hl 2 rfl) ?_
  refine lv_iconst (v := 3) hx hb dM_withdraw_14 (by decide) ?_
  refine bm_callE (va_runS (As := [.int (nI d), .int 3]) (rest := []) ⟨hx, hb, hml, hown, hts⟩ (bc_M_below l D ct base ad M1 sz (nI d) 3) (va_cwS 2 hts (bm_goodS bw_679 bw_680 bw_5 bw_681) rfl rfl rfl (by decide +kernel) (by rw [← hR]; exact ⟨Nat.le_of_ble_eq_true rfl, Nat.le_of_ble_eq_true rfl⟩)) (bm_preS hM hG hS hz) rfl rfl hl.1 rfl (lv_room (Nat.le_of_ble_eq_true rfl)) dM_withdraw_15 (by rw [← hR]; exact ⟨Nat.le_of_ble_eq_true rfl, Nat.le_of_ble_eq_true rfl⟩)) hS (fun H locs hz hM hS => ?_)
  refine lv_if_eq (tgt := 31) hx hb dM_withdraw_18 rfl (fun h18 => absurd h18 (by rw [show bm_bl (nI d) 3 = 1 from bm_bl_nI (N := 3) hd (by decide)]; decide)) (fun h18 => ?_)
  refine lv_iload hx hb dM_withdraw_21 (lv_at hl 4 rfl) ?_
  refine lv_bipush (v := 64) hx hb dM_withdraw_23 (by decide) ?_
  refine bm_callE (va_runS (As := [.int ch, .int 64]) (rest := []) ⟨hx, hb, hml, hown, hts⟩ (bc_M_below l D ct base ad M1 sz ch 64) (va_cwS 2 hts (bm_goodS bw_679 bw_680 bw_5 bw_681) rfl rfl rfl (by decide +kernel) (by rw [← hR]; exact ⟨Nat.le_of_ble_eq_true rfl, Nat.le_of_ble_eq_true rfl⟩)) (bm_preS hM hG hS hz) rfl rfl hl.1 rfl (lv_room (Nat.le_of_ble_eq_true rfl)) dM_withdraw_25 (by rw [← hR]; exact ⟨Nat.le_of_ble_eq_true rfl, Nat.le_of_ble_eq_true rfl⟩)) hS (fun H locs hz hM hS => ?_)
  refine lv_if_ne (tgt := 37) hx hb dM_withdraw_28 rfl (fun h28 => absurd hc64 h28) (fun h28 => ?_)
  refine lv_aload_n hx hb dM_withdraw_31 rfl (lv_at hl 0 rfl) ?_
  refine lv_iconst (v := 1) hx hb dM_withdraw_32 (by decide) ?_
  refine bm_call (va_runV (As := [.int 1]) (rest := []) ⟨hx, hb, hml, hown, hts⟩ (bc_M_fail l D ct base ad M1 sz m 0 tr bl np nd f1 f2 f3 f4 g5 g6 f7 g8 g9 g10 g11 g12 g13 g14 g15 f16 g17 1 hP) (cwV 1 hts (bm_goodV bw_682 bw_684 bs_10 bw_5 bw_685) rfl rfl rfl (by decide +kernel) (by rw [← hR]; exact ⟨Nat.le_of_ble_eq_true rfl, Nat.le_of_ble_eq_true rfl⟩)) (bm_preV hM hG hS hz hP.c0 rfl) rfl rfl hl.1 rfl (lv_room (Nat.le_of_ble_eq_true rfl)) dM_withdraw_33 (by rw [← hR]; exact ⟨Nat.le_of_ble_eq_true rfl, Nat.le_of_ble_eq_true rfl⟩)) hS (fun v9 M2 H locs hq hM hS _ => ?_)
  obtain ⟨hz, ⟨rfl, hP⟩, hF9⟩ := hq
  have hF := hF.tr hF9
  exact bm_iret hQ hx hb hr hlk hM hS ⟨hz, ⟨rfl, hP⟩, hF⟩ (Nat.le_refl _) (Nat.le_refl _) dM_withdraw_36
set_option maxHeartbeats 4000000 in
set_option maxRecDepth 100000 in
theorem bc_M_withdraw_q1 (l : Launch) (D : va_G) (ct : Nat → ClassId) (base : Nat) (ad : Nat → Nat) (M : bm_Map) (sz : Nat) (m : Nat) (th : Int32) (tr : Int32) (bl : Int64) (np : Int32) (nd : Int32) (f1 : Nat → Int32) (f2 : Nat → Int32) (f3 : Nat → Int32) (f4 : Nat → Int32) (g5 : Nat → Int64) (g6 : Nat → Int64) (f7 : Nat → Int32) (g8 : Nat → Int64) (g9 : Nat → Int64) (g10 : Nat → Int64) (g11 : Nat → Int64) (g12 : Nat → Int64) (g13 : Nat → Int64) (g14 : Nat → Int64) (g15 : Nat → Int64) (f16 : Nat → Int32) (g17 : Nat → Int64) (j d : Nat) (seed : Int64) (ch : Int32) (hP : bm_MD ct m th tr bl np nd f1 f2 f3 f4 g5 g6 f7 g8 g9 g10 g11 g12 g13 g14 g15 f16 g17 M) (hj : j < 4) (hd : d < 3) (hc64 : bm_bl ch 64 = 1) (hpoor : f1 j < bm_w d) : Met l yM_withdraw (bm_ws yM_withdraw cM_withdraw 10 (some .int)) { frames := 3, cells := 0, slots := 0, locals := 93 } (bm_Pre D ct base ad M sz [.ref m, .int (nI j), .int (nI d), .long seed, .int ch]) (bm_Post D base (bm_Pm m M sz (fun v M1 => v = some (.int 0) ∧ bm_MD ct m 2 tr bl np nd f1 f2 f3 f4 g5 g6 f7 g8 g9 g10 g11 g12 g13 g14 g15 f16 g17 M1))) 0 0 (bm_A base) := by
  refine bm_ofB (cc := cM_withdraw) (maxL := 10) (ret := (some .int)) (by decide +kernel) (Nat.le_of_ble_eq_true rfl) ?_
  intro vp ve s vm args below meth vc hx hb hr hlk hts hown hml hnm ls hl hz hM hG R Q hR hQ
  have hown : s.vm.findClass "BlindMintModel" = some vm.cls := hown
  have hK := hG.K
  have hS : va_S (bm_A base) s.heap s.heap [] := va_S.rf
  have hl : lv_has ls 10 [(0, .ref m), (1, .int (nI j)), (2, .int (nI d)), (3, .long seed), (5, .int ch)] := hl
  have hF : bm_fr m M M := bm_fr.rf
  refine lv_aload_n hx hb dM_withdraw_0 rfl (lv_at hl 0 rfl) ?_
  refine lv_iconst (v := 0) hx hb dM_withdraw_1 (by decide) ?_
  refine bm_put (ci := 7) (v := .int 0) (ty := .int) (C := "BlindMintModel") (T := bt_M) (N := 22) hx hb hts bu_M by_M bo_M bn_M hown hK hM hS hP.c0 rfl 0 (by decide) (hts _ bw_602) (fun _ h9 => h9) rfl (by decide +kernel) rfl rfl (Nat.le_of_ble_eq_true rfl) dM_withdraw_2 (fun H locs hz1 hM hS => ?_)
  have hz := hz1.trans hz
  obtain ⟨M1, hM, hP, hF⟩ : ∃ X, bm_M D base X H ∧ bm_MD ct m 0 tr bl np nd f1 f2 f3 f4 g5 g6 f7 g8 g9 g10 g11 g12 g13 g14 g15 f16 g17 X ∧ bm_fr m M X := ⟨_, hM, hP.s_th _, hF.up0⟩
  refine lv_iload_n hx hb dM_withdraw_5 rfl (lv_at hl 1 rfl) ?_
  refine lv_iconst (v := 4) hx hb dM_withdraw_6 (by decide) ?_
  refine bm_callE (va_runS (As := [.int (nI j), .int 4]) (rest := []) ⟨hx, hb, hml, hown, hts⟩ (bc_M_below l D ct base ad M1 sz (nI j) 4) (va_cwS 2 hts (bm_goodS bw_679 bw_680 bw_5 bw_681) rfl rfl rfl (by decide +kernel) (by rw [← hR]; exact ⟨Nat.le_of_ble_eq_true rfl, Nat.le_of_ble_eq_true rfl⟩)) (bm_preS hM hG hS hz) rfl rfl hl.1 rfl (lv_room (Nat.le_of_ble_eq_true rfl)) dM_withdraw_7 (by rw [← hR]; exact ⟨Nat.le_of_ble_eq_true rfl, Nat.le_of_ble_eq_true rfl⟩)) hS (fun H locs hz hM hS => ?_)
  refine lv_if_eq (tgt := 31) hx hb dM_withdraw_10 rfl (fun h10 => absurd h10 (by rw [show bm_bl (nI j) 4 = 1 from (bm_bl_nI (N := 4) hj (by decide))]; decide)) (fun h10 => ?_)
  refine lv_iload_n hx hb dM_withdraw_13 rfl (lv_at hl 2 rfl) ?_
  refine lv_iconst (v := 3) hx hb dM_withdraw_14 (by decide) ?_
  refine bm_callE (va_runS (As := [.int (nI d), .int 3]) (rest := []) ⟨hx, hb, hml, hown, hts⟩ (bc_M_below l D ct base ad M1 sz (nI d) 3) (va_cwS 2 hts (bm_goodS bw_679 bw_680 bw_5 bw_681) rfl rfl rfl (by decide +kernel) (by rw [← hR]; exact ⟨Nat.le_of_ble_eq_true rfl, Nat.le_of_ble_eq_true rfl⟩)) (bm_preS hM hG hS hz) rfl rfl hl.1 rfl (lv_room (Nat.le_of_ble_eq_true rfl)) dM_withdraw_15 (by rw [← hR]; exact ⟨Nat.le_of_ble_eq_true rfl, Nat.le_of_ble_eq_true rfl⟩)) hS (fun H locs hz hM hS => ?_)
  refine lv_if_eq (tgt := 31) hx hb dM_withdraw_18 rfl (fun h18 => absurd h18 (by rw [show bm_bl (nI d) 3 = 1 from bm_bl_nI (N := 3) hd (by decide)]; decide)) (fun h18 => ?_)
  refine lv_iload hx hb dM_withdraw_21 (lv_at hl 4 rfl) ?_
  refine lv_bipush (v := 64) hx hb dM_withdraw_23 (by decide) ?_
  refine bm_callE (va_runS (As := [.int ch, .int 64]) (rest := []) ⟨hx, hb, hml, hown, hts⟩ (bc_M_below l D ct base ad M1 sz ch 64) (va_cwS 2 hts (bm_goodS bw_679 bw_680 bw_5 bw_681) rfl rfl rfl (by decide +kernel) (by rw [← hR]; exact ⟨Nat.le_of_ble_eq_true rfl, Nat.le_of_ble_eq_true rfl⟩)) (bm_preS hM hG hS hz) rfl rfl hl.1 rfl (lv_room (Nat.le_of_ble_eq_true rfl)) dM_withdraw_25 (by rw [← hR]; exact ⟨Nat.le_of_ble_eq_true rfl, Nat.le_of_ble_eq_true rfl⟩)) hS (fun H locs hz hM hS => ?_)
  refine lv_if_ne (tgt := 37) hx hb dM_withdraw_28 rfl (fun h28 => ?_) (fun h28 => absurd h28 (by rw [hc64]; decide))
  refine lv_aload_n hx hb dM_withdraw_37 rfl (lv_at hl 0 rfl) ?_
  refine bm_get (ci := 7) (v := .ref (m + 1)) (C := "BlindMintModel") (T := bt_M) (N := 22) hx hb hts bu_M hown hK hM hP.c0 rfl 1 (by decide) (hts _ bw_603) (fun _ h9 => h9) rfl dM_withdraw_38 ?_
  refine lv_iload_n hx hb dM_withdraw_41 rfl (lv_at hl 1 rfl) ?_
  refine bm_iald hx hb hK hM 0 hP.c1 rfl j (bm_ix_nI (by omega)) (by omega) dM_withdraw_42 ?_
  refine lv_iload_n hx hb dM_withdraw_43 rfl (lv_at hl 2 rfl) ?_
  refine bm_callE (va_runS (As := [.int (nI d)]) (rest := [.int (f1 j)]) ⟨hx, hb, hml, hown, hts⟩ (bc_M_worth l D ct base ad M1 sz d hd) (va_cwS 1 hts (bm_goodS bw_686 bw_687 bw_5 bw_688) rfl rfl rfl (by decide +kernel) (by rw [← hR]; exact ⟨Nat.le_of_ble_eq_true rfl, Nat.le_of_ble_eq_true rfl⟩)) (bm_preS hM hG hS hz) rfl rfl hl.1 rfl (lv_room (Nat.le_of_ble_eq_true rfl)) dM_withdraw_44 (by rw [← hR]; exact ⟨Nat.le_of_ble_eq_true rfl, Nat.le_of_ble_eq_true rfl⟩)) hS (fun H locs hz hM hS => ?_)
  refine lv_icmp_lt (tgt := 61) hx hb dM_withdraw_47 rfl (fun h47 => ?_) (fun h47 => absurd hpoor h47)
  refine lv_aload_n hx hb dM_withdraw_61 rfl (lv_at hl 0 rfl) ?_
  refine lv_iconst (v := 2) hx hb dM_withdraw_62 (by decide) ?_
  refine bm_call (va_runV (As := [.int 2]) (rest := []) ⟨hx, hb, hml, hown, hts⟩ (bc_M_fail l D ct base ad M1 sz m 0 tr bl np nd f1 f2 f3 f4 g5 g6 f7 g8 g9 g10 g11 g12 g13 g14 g15 f16 g17 2 hP) (cwV 1 hts (bm_goodV bw_682 bw_684 bs_10 bw_5 bw_685) rfl rfl rfl (by decide +kernel) (by rw [← hR]; exact ⟨Nat.le_of_ble_eq_true rfl, Nat.le_of_ble_eq_true rfl⟩)) (bm_preV hM hG hS hz hP.c0 rfl) rfl rfl hl.1 rfl (lv_room (Nat.le_of_ble_eq_true rfl)) dM_withdraw_63 (by rw [← hR]; exact ⟨Nat.le_of_ble_eq_true rfl, Nat.le_of_ble_eq_true rfl⟩)) hS (fun v9 M2 H locs hq hM hS _ => ?_)
  obtain ⟨hz, ⟨rfl, hP⟩, hF9⟩ := hq
  have hF := hF.tr hF9
  exact bm_iret hQ hx hb hr hlk hM hS ⟨hz, ⟨rfl, hP⟩, hF⟩ (Nat.le_refl _) (Nat.le_refl _) dM_withdraw_66
set_option maxHeartbeats 4000000 in
set_option maxRecDepth 100000 in
theorem bc_M_withdraw_q2 (l : Launch) (D : va_G) (ct : Nat → ClassId) (base : Nat) (ad : Nat → Nat) (M : bm_Map) (sz : Nat) (m : Nat) (th : Int32) (tr : Int32) (bl : Int64) (np : Int32) (nd : Int32) (f1 : Nat → Int32) (f2 : Nat → Int32) (f3 : Nat → Int32) (f4 : Nat → Int32) (g5 : Nat → Int64) (g6 : Nat → Int64) (f7 : Nat → Int32) (g8 : Nat → Int64) (g9 : Nat → Int64) (g10 : Nat → Int64) (g11 : Nat → Int64) (g12 : Nat → Int64) (g13 : Nat → Int64) (g14 : Nat → Int64) (g15 : Nat → Int64) (f16 : Nat → Int32) (g17 : Nat → Int64) (j d : Nat) (seed : Int64) (ch : Int32) (hP : bm_MD ct m th tr bl np nd f1 f2 f3 f4 g5 g6 f7 g8 g9 g10 g11 g12 g13 g14 g15 f16 g17 M) (hj : j < 4) (hd : d < 3) (hc64 : bm_bl ch 64 = 1) (hrich : ¬ f1 j < bm_w d) (hfull : f3 j = 8) : Met l yM_withdraw (bm_ws yM_withdraw cM_withdraw 10 (some .int)) { frames := 3, cells := 0, slots := 0, locals := 93 } (bm_Pre D ct base ad M sz [.ref m, .int (nI j), .int (nI d), .long seed, .int ch]) (bm_Post D base (bm_Pm m M sz (fun v M1 => v = some (.int 0) ∧ bm_MD ct m 2 tr bl np nd f1 f2 f3 f4 g5 g6 f7 g8 g9 g10 g11 g12 g13 g14 g15 f16 g17 M1))) 0 0 (bm_A base) := by
  refine bm_ofB (cc := cM_withdraw) (maxL := 10) (ret := (some .int)) (by decide +kernel) (Nat.le_of_ble_eq_true rfl) ?_
  intro vp ve s vm args below meth vc hx hb hr hlk hts hown hml hnm ls hl hz hM hG R Q hR hQ
  have hown : s.vm.findClass "BlindMintModel" = some vm.cls := hown
  have hK := hG.K
  have hS : va_S (bm_A base) s.heap s.heap [] := va_S.rf
  have hl : lv_has ls 10 [(0, .ref m), (1, .int (nI j)), (2, .int (nI d)), (3, .long seed), (5, .int ch)] := hl
  have hF : bm_fr m M M := bm_fr.rf
  refine lv_aload_n hx hb dM_withdraw_0 rfl (lv_at hl 0 rfl) ?_
  refine lv_iconst (v := 0) hx hb dM_withdraw_1 (by decide) ?_
  refine bm_put (ci := 7) (v := .int 0) (ty := .int) (C := "BlindMintModel") (T := bt_M) (N := 22) hx hb hts bu_M by_M bo_M bn_M hown hK hM hS hP.c0 rfl 0 (by decide) (hts _ bw_602) (fun _ h9 => h9) rfl (by decide +kernel) rfl rfl (Nat.le_of_ble_eq_true rfl) dM_withdraw_2 (fun H locs hz1 hM hS => ?_)
  have hz := hz1.trans hz
  obtain ⟨M1, hM, hP, hF⟩ : ∃ X, bm_M D base X H ∧ bm_MD ct m 0 tr bl np nd f1 f2 f3 f4 g5 g6 f7 g8 g9 g10 g11 g12 g13 g14 g15 f16 g17 X ∧ bm_fr m M X := ⟨_, hM, hP.s_th _, hF.up0⟩
  refine lv_iload_n hx hb dM_withdraw_5 rfl (lv_at hl 1 rfl) ?_
  refine lv_iconst (v := 4) hx hb dM_withdraw_6 (by decide) ?_
  refine bm_callE (va_runS (As := [.int (nI j), .int 4]) (rest := []) ⟨hx, hb, hml, hown, hts⟩ (bc_M_below l D ct base ad M1 sz (nI j) 4) (va_cwS 2 hts (bm_goodS bw_679 bw_680 bw_5 bw_681) rfl rfl rfl (by decide +kernel) (by rw [← hR]; exact ⟨Nat.le_of_ble_eq_true rfl, Nat.le_of_ble_eq_true rfl⟩)) (bm_preS hM hG hS hz) rfl rfl hl.1 rfl (lv_room (Nat.le_of_ble_eq_true rfl)) dM_withdraw_7 (by rw [← hR]; exact ⟨Nat.le_of_ble_eq_true rfl, Nat.le_of_ble_eq_true rfl⟩)) hS (fun H locs hz hM hS => ?_)
  refine lv_if_eq (tgt := 31) hx hb dM_withdraw_10 rfl (fun h10 => absurd h10 (by rw [show bm_bl (nI j) 4 = 1 from (bm_bl_nI (N := 4) hj (by decide))]; decide)) (fun h10 => ?_)
  refine lv_iload_n hx hb dM_withdraw_13 rfl (lv_at hl 2 rfl) ?_
  refine lv_iconst (v := 3) hx hb dM_withdraw_14 (by decide) ?_
  refine bm_callE (va_runS (As := [.int (nI d), .int 3]) (rest := []) ⟨hx, hb, hml, hown, hts⟩ (bc_M_below l D ct base ad M1 sz (nI d) 3) (va_cwS 2 hts (bm_goodS bw_679 bw_680 bw_5 bw_681) rfl rfl rfl (by decide +kernel) (by rw [← hR]; exact ⟨Nat.le_of_ble_eq_true rfl, Nat.le_of_ble_eq_true rfl⟩)) (bm_preS hM hG hS hz) rfl rfl hl.1 rfl (lv_room (Nat.le_of_ble_eq_true rfl)) dM_withdraw_15 (by rw [← hR]; exact ⟨Nat.le_of_ble_eq_true rfl, Nat.le_of_ble_eq_true rfl⟩)) hS (fun H locs hz hM hS => ?_)
  refine lv_if_eq (tgt := 31) hx hb dM_withdraw_18 rfl (fun h18 => absurd h18 (by rw [show bm_bl (nI d) 3 = 1 from bm_bl_nI (N := 3) hd (by decide)]; decide)) (fun h18 => ?_)
  refine lv_iload hx hb dM_withdraw_21 (lv_at hl 4 rfl) ?_
  refine lv_bipush (v := 64) hx hb dM_withdraw_23 (by decide) ?_
  refine bm_callE (va_runS (As := [.int ch, .int 64]) (rest := []) ⟨hx, hb, hml, hown, hts⟩ (bc_M_below l D ct base ad M1 sz ch 64) (va_cwS 2 hts (bm_goodS bw_679 bw_680 bw_5 bw_681) rfl rfl rfl (by decide +kernel) (by rw [← hR]; exact ⟨Nat.le_of_ble_eq_true rfl, Nat.le_of_ble_eq_true rfl⟩)) (bm_preS hM hG hS hz) rfl rfl hl.1 rfl (lv_room (Nat.le_of_ble_eq_true rfl)) dM_withdraw_25 (by rw [← hR]; exact ⟨Nat.le_of_ble_eq_true rfl, Nat.le_of_ble_eq_true rfl⟩)) hS (fun H locs hz hM hS => ?_)
  refine lv_if_ne (tgt := 37) hx hb dM_withdraw_28 rfl (fun h28 => ?_) (fun h28 => absurd h28 (by rw [hc64]; decide))
  refine lv_aload_n hx hb dM_withdraw_37 rfl (lv_at hl 0 rfl) ?_
  refine bm_get (ci := 7) (v := .ref (m + 1)) (C := "BlindMintModel") (T := bt_M) (N := 22) hx hb hts bu_M hown hK hM hP.c0 rfl 1 (by decide) (hts _ bw_603) (fun _ h9 => h9) rfl dM_withdraw_38 ?_
  refine lv_iload_n hx hb dM_withdraw_41 rfl (lv_at hl 1 rfl) ?_
  refine bm_iald hx hb hK hM 0 hP.c1 rfl j (bm_ix_nI (by omega)) (by omega) dM_withdraw_42 ?_
  refine lv_iload_n hx hb dM_withdraw_43 rfl (lv_at hl 2 rfl) ?_
  refine bm_callE (va_runS (As := [.int (nI d)]) (rest := [.int (f1 j)]) ⟨hx, hb, hml, hown, hts⟩ (bc_M_worth l D ct base ad M1 sz d hd) (va_cwS 1 hts (bm_goodS bw_686 bw_687 bw_5 bw_688) rfl rfl rfl (by decide +kernel) (by rw [← hR]; exact ⟨Nat.le_of_ble_eq_true rfl, Nat.le_of_ble_eq_true rfl⟩)) (bm_preS hM hG hS hz) rfl rfl hl.1 rfl (lv_room (Nat.le_of_ble_eq_true rfl)) dM_withdraw_44 (by rw [← hR]; exact ⟨Nat.le_of_ble_eq_true rfl, Nat.le_of_ble_eq_true rfl⟩)) hS (fun H locs hz hM hS => ?_)
  refine lv_icmp_lt (tgt := 61) hx hb dM_withdraw_47 rfl (fun h47 => absurd h47 hrich) (fun h47 => ?_)
  refine lv_aload_n hx hb dM_withdraw_50 rfl (lv_at hl 0 rfl) ?_
  refine bm_get (ci := 7) (v := .ref (m + 3)) (C := "BlindMintModel") (T := bt_M) (N := 22) hx hb hts bu_M hown hK hM hP.c0 rfl 5 (by decide) (hts _ bw_607) (fun _ h9 => h9) rfl dM_withdraw_51 ?_
  refine lv_iload_n hx hb dM_withdraw_54 rfl (lv_at hl 1 rfl) ?_
  refine bm_iald hx hb hK hM 0 hP.c3 rfl j (bm_ix_nI (by omega)) (by omega) dM_withdraw_55 ?_
  refine lv_bipush (v := 8) hx hb dM_withdraw_56 (by decide) ?_
  refine lv_icmp_ne (tgt := 67) hx hb dM_withdraw_58 rfl (fun h58 => absurd hfull h58) (fun h58 => ?_)
  refine lv_aload_n hx hb dM_withdraw_61 rfl (lv_at hl 0 rfl) ?_
  refine lv_iconst (v := 2) hx hb dM_withdraw_62 (by decide) ?_
  refine bm_call (va_runV (As := [.int 2]) (rest := []) ⟨hx, hb, hml, hown, hts⟩ (bc_M_fail l D ct base ad M1 sz m 0 tr bl np nd f1 f2 f3 f4 g5 g6 f7 g8 g9 g10 g11 g12 g13 g14 g15 f16 g17 2 hP) (cwV 1 hts (bm_goodV bw_682 bw_684 bs_10 bw_5 bw_685) rfl rfl rfl (by decide +kernel) (by rw [← hR]; exact ⟨Nat.le_of_ble_eq_true rfl, Nat.le_of_ble_eq_true rfl⟩)) (bm_preV hM hG hS hz hP.c0 rfl) rfl rfl hl.1 rfl (lv_room (Nat.le_of_ble_eq_true rfl)) dM_withdraw_63 (by rw [← hR]; exact ⟨Nat.le_of_ble_eq_true rfl, Nat.le_of_ble_eq_true rfl⟩)) hS (fun v9 M2 H locs hq hM hS _ => ?_)
  obtain ⟨hz, ⟨rfl, hP⟩, hF9⟩ := hq
  have hF := hF.tr hF9
  exact bm_iret hQ hx hb hr hlk hM hS ⟨hz, ⟨rfl, hP⟩, hF⟩ (Nat.le_refl _) (Nat.le_refl _) dM_withdraw_66
set_option maxHeartbeats 4000000 in
set_option maxRecDepth 100000 in
theorem bc_M_withdraw_c (l : Launch) (D : va_G) (ct : Nat → ClassId) (base : Nat) (ad : Nat → Nat) (M : bm_Map) (sz : Nat) (m : Nat) (th : Int32) (tr : Int32) (bl : Int64) (np : Int32) (nd : Int32) (f1 : Nat → Int32) (f2 : Nat → Int32) (f3 : Nat → Int32) (f4 : Nat → Int32) (g5 : Nat → Int64) (g6 : Nat → Int64) (f7 : Nat → Int32) (g8 : Nat → Int64) (g9 : Nat → Int64) (g10 : Nat → Int64) (g11 : Nat → Int64) (g12 : Nat → Int64) (g13 : Nat → Int64) (g14 : Nat → Int64) (g15 : Nat → Int64) (f16 : Nat → Int32) (g17 : Nat → Int64) (j d : Nat) (seed : Int64) (ch : Int32) (hP : bm_MD ct m th tr bl np nd f1 f2 f3 f4 g5 g6 f7 g8 g9 g10 g11 g12 g13 g14 g15 f16 g17 M) (hj : j < 4) (hd : d < 3) (hc64 : bm_bl ch 64 = 1) (k n : Nat) (hrich : ¬ f1 j < bm_w d) (hk8 : f3 j = nI k) (hk : k < 8) (ht : bm_tt (bm_cp seed j ch) = lN n) (hn : n < 2 ^ 59) (hcaught : 0 < bm_chb ch (bm_o1 n) + bm_chb ch (bm_o2 n)) : Met l yM_withdraw (bm_ws yM_withdraw cM_withdraw 10 (some .int)) { frames := 3, cells := 0, slots := 0, locals := 93 } (bm_Pre D ct base ad M sz [.ref m, .int (nI j), .int (nI d), .long seed, .int ch]) (bm_Post D base (bm_Pm m M sz (fun v M1 => v = some (.int 0) ∧ ∃ (y11 y12 y13 y14 y15 : Nat → Int64) (y16 : Nat → Int32), bm_MD ct m 2 tr bl np nd (upd f1 j (f1 j - 1)) (upd f2 2 (f2 2 + (bm_chb ch (bm_o1 n) + bm_chb ch (bm_o2 n)))) f3 f4 g5 g6 f7 g8 g9 g10 y11 y12 y13 y14 y15 y16 g17 M1))) 0 0 (bm_A base) := by
  refine bm_ofB (cc := cM_withdraw) (maxL := 10) (ret := (some .int)) (by decide +kernel) (Nat.le_of_ble_eq_true rfl) ?_
  intro vp ve s vm args below meth vc hx hb hr hlk hts hown hml hnm ls hl hz hM hG R Q hR hQ
  have hown : s.vm.findClass "BlindMintModel" = some vm.cls := hown
  have hK := hG.K
  have hS : va_S (bm_A base) s.heap s.heap [] := va_S.rf
  have hl : lv_has ls 10 [(0, .ref m), (1, .int (nI j)), (2, .int (nI d)), (3, .long seed), (5, .int ch)] := hl
  have hF : bm_fr m M M := bm_fr.rf
  refine lv_aload_n hx hb dM_withdraw_0 rfl (lv_at hl 0 rfl) ?_
  refine lv_iconst (v := 0) hx hb dM_withdraw_1 (by decide) ?_
  refine bm_put (ci := 7) (v := .int 0) (ty := .int) (C := "BlindMintModel") (T := bt_M) (N := 22) hx hb hts bu_M by_M bo_M bn_M hown hK hM hS hP.c0 rfl 0 (by decide) (hts _ bw_602) (fun _ h9 => h9) rfl (by decide +kernel) rfl rfl (Nat.le_of_ble_eq_true rfl) dM_withdraw_2 (fun H locs hz1 hM hS => ?_)
  have hz := hz1.trans hz
  obtain ⟨M1, hM, hP, hF⟩ : ∃ X, bm_M D base X H ∧ bm_MD ct m 0 tr bl np nd f1 f2 f3 f4 g5 g6 f7 g8 g9 g10 g11 g12 g13 g14 g15 f16 g17 X ∧ bm_fr m M X := ⟨_, hM, hP.s_th _, hF.up0⟩
  refine lv_iload_n hx hb dM_withdraw_5 rfl (lv_at hl 1 rfl) ?_
  refine lv_iconst (v := 4) hx hb dM_withdraw_6 (by decide) ?_
  refine bm_callE (va_runS (As := [.int (nI j), .int 4]) (rest := []) ⟨hx, hb, hml, hown, hts⟩ (bc_M_below l D ct base ad M1 sz (nI j) 4) (va_cwS 2 hts (bm_goodS bw_679 bw_680 bw_5 bw_681) rfl rfl rfl (by decide +kernel) (by rw [← hR]; exact ⟨Nat.le_of_ble_eq_true rfl, Nat.le_of_ble_eq_true rfl⟩)) (bm_preS hM hG hS hz) rfl rfl hl.1 rfl (lv_room (Nat.le_of_ble_eq_true rfl)) dM_withdraw_7 (by rw [← hR]; exact ⟨Nat.le_of_ble_eq_true rfl, Nat.le_of_ble_eq_true rfl⟩)) hS (fun H locs hz hM hS => ?_)
  refine lv_if_eq (tgt := 31) hx hb dM_withdraw_10 rfl (fun h10 => absurd h10 (by rw [show bm_bl (nI j) 4 = 1 from (bm_bl_nI (N := 4) hj (by decide))]; decide)) (fun h10 => ?_)
  refine lv_iload_n hx hb dM_withdraw_13 rfl (lv_at hl 2 rfl) ?_
  refine lv_iconst (v := 3) hx hb dM_withdraw_14 (by decide) ?_
  refine bm_callE (va_runS (As := [.int (nI d), .int 3]) (rest := []) ⟨hx, hb, hml, hown, hts⟩ (bc_M_below l D ct base ad M1 sz (nI d) 3) (va_cwS 2 hts (bm_goodS bw_679 bw_680 bw_5 bw_681) rfl rfl rfl (by decide +kernel) (by rw [← hR]; exact ⟨Nat.le_of_ble_eq_true rfl, Nat.le_of_ble_eq_true rfl⟩)) (bm_preS hM hG hS hz) rfl rfl hl.1 rfl (lv_room (Nat.le_of_ble_eq_true rfl)) dM_withdraw_15 (by rw [← hR]; exact ⟨Nat.le_of_ble_eq_true rfl, Nat.le_of_ble_eq_true rfl⟩)) hS (fun H locs hz hM hS => ?_)
  refine lv_if_eq (tgt := 31) hx hb dM_withdraw_18 rfl (fun h18 => absurd h18 (by rw [show bm_bl (nI d) 3 = 1 from bm_bl_nI (N := 3) hd (by decide)]; decide)) (fun h18 => ?_)
  refine lv_iload hx hb dM_withdraw_21 (lv_at hl 4 rfl) ?_
  refine lv_bipush (v := 64) hx hb dM_withdraw_23 (by decide) ?_
  refine bm_callE (va_runS (As := [.int ch, .int 64]) (rest := []) ⟨hx, hb, hml, hown, hts⟩ (bc_M_below l D ct base ad M1 sz ch 64) (va_cwS 2 hts (bm_goodS bw_679 bw_680 bw_5 bw_681) rfl rfl rfl (by decide +kernel) (by rw [← hR]; exact ⟨Nat.le_of_ble_eq_true rfl, Nat.le_of_ble_eq_true rfl⟩)) (bm_preS hM hG hS hz) rfl rfl hl.1 rfl (lv_room (Nat.le_of_ble_eq_true rfl)) dM_withdraw_25 (by rw [← hR]; exact ⟨Nat.le_of_ble_eq_true rfl, Nat.le_of_ble_eq_true rfl⟩)) hS (fun H locs hz hM hS => ?_)
  refine lv_if_ne (tgt := 37) hx hb dM_withdraw_28 rfl (fun h28 => ?_) (fun h28 => absurd h28 (by rw [hc64]; decide))
  refine lv_aload_n hx hb dM_withdraw_37 rfl (lv_at hl 0 rfl) ?_
  refine bm_get (ci := 7) (v := .ref (m + 1)) (C := "BlindMintModel") (T := bt_M) (N := 22) hx hb hts bu_M hown hK hM hP.c0 rfl 1 (by decide) (hts _ bw_603) (fun _ h9 => h9) rfl dM_withdraw_38 ?_
  refine lv_iload_n hx hb dM_withdraw_41 rfl (lv_at hl 1 rfl) ?_
  refine bm_iald hx hb hK hM 0 hP.c1 rfl j (bm_ix_nI (by omega)) (by omega) dM_withdraw_42 ?_
  refine lv_iload_n hx hb dM_withdraw_43 rfl (lv_at hl 2 rfl) ?_
  refine bm_callE (va_runS (As := [.int (nI d)]) (rest := [.int (f1 j)]) ⟨hx, hb, hml, hown, hts⟩ (bc_M_worth l D ct base ad M1 sz d hd) (va_cwS 1 hts (bm_goodS bw_686 bw_687 bw_5 bw_688) rfl rfl rfl (by decide +kernel) (by rw [← hR]; exact ⟨Nat.le_of_ble_eq_true rfl, Nat.le_of_ble_eq_true rfl⟩)) (bm_preS hM hG hS hz) rfl rfl hl.1 rfl (lv_room (Nat.le_of_ble_eq_true rfl)) dM_withdraw_44 (by rw [← hR]; exact ⟨Nat.le_of_ble_eq_true rfl, Nat.le_of_ble_eq_true rfl⟩)) hS (fun H locs hz hM hS => ?_)
  refine lv_icmp_lt (tgt := 61) hx hb dM_withdraw_47 rfl (fun h47 => absurd h47 hrich) (fun h47 => ?_)
  refine lv_aload_n hx hb dM_withdraw_50 rfl (lv_at hl 0 rfl) ?_
  refine bm_get (ci := 7) (v := .ref (m + 3)) (C := "BlindMintModel") (T := bt_M) (N := 22) hx hb hts bu_M hown hK hM hP.c0 rfl 5 (by decide) (hts _ bw_607) (fun _ h9 => h9) rfl dM_withdraw_51 ?_
  refine lv_iload_n hx hb dM_withdraw_54 rfl (lv_at hl 1 rfl) ?_
  refine bm_iald hx hb hK hM 0 hP.c3 rfl j (bm_ix_nI (by omega)) (by omega) dM_withdraw_55 ?_
  refine lv_bipush (v := 8) hx hb dM_withdraw_56 (by decide) ?_
  refine lv_icmp_ne (tgt := 67) hx hb dM_withdraw_58 rfl (fun h58 => ?_) (fun h58 => absurd (hk8 ▸ h58) (by intro z; exact absurd ((nI_eq (b := 8) (by omega) (by decide)).mp z) (by omega)))
  refine lv_aload_n hx hb dM_withdraw_67 rfl (lv_at hl 0 rfl) ?_
  refine lv_iload_n hx hb dM_withdraw_68 rfl (lv_at hl 1 rfl) ?_
  refine lv_lload_n hx hb dM_withdraw_69 rfl (lv_at hl 3 rfl) ?_
  refine lv_iload hx hb dM_withdraw_70 (lv_at hl 4 rfl) ?_
  refine bm_call (va_runV (As := [.int (nI j), .long seed, .int ch]) (rest := []) ⟨hx, hb, hml, hown, hts⟩ (bc_M_candidates l D ct base ad M1 sz m 0 tr bl np nd f1 f2 f3 f4 g5 g6 f7 g8 g9 g10 g11 g12 g13 g14 g15 f16 g17 j seed ch hP hj) (cwV 3 hts (bm_goodV bw_689 bw_691 bs_11 bw_5 bw_692) rfl rfl rfl (by decide +kernel) (by rw [← hR]; exact ⟨Nat.le_of_ble_eq_true rfl, Nat.le_of_ble_eq_true rfl⟩)) (bm_preV hM hG hS hz hP.c0 rfl) rfl rfl hl.1 rfl (lv_room (Nat.le_of_ble_eq_true rfl)) dM_withdraw_72 (by rw [← hR]; exact ⟨Nat.le_of_ble_eq_true rfl, Nat.le_of_ble_eq_true rfl⟩)) hS (fun v9 M2 H locs hq hM hS _ => ?_)
  obtain ⟨hz, ⟨rfl, y11, y12, y13, y14, y15, y16, hP, e11, e12, e13, e14, e15, e16⟩, hF9⟩ := hq
  have hF := hF.tr hF9
  have ht9 : bm_tt y15 = lN n := (bm_tt_eq e15).trans ht
  refine lv_aload_n hx hb dM_withdraw_75 rfl (lv_at hl 0 rfl) ?_
  refine lv_iload hx hb dM_withdraw_76 (lv_at hl 4 rfl) ?_
  refine bm_call (va_runV (As := [.int ch]) (rest := []) ⟨hx, hb, hml, hown, hts⟩ (bc_M_open l D ct base ad M2 sz m 0 tr bl np nd f1 f2 f3 f4 g5 g6 f7 g8 g9 g10 y11 y12 y13 y14 y15 y16 g17 ch n hP ht9 hn) (cwV 1 hts (bm_goodV bw_709 bw_711 bs_12 bw_5 bw_712) rfl rfl rfl (by decide +kernel) (by rw [← hR]; exact ⟨Nat.le_of_ble_eq_true rfl, Nat.le_of_ble_eq_true rfl⟩)) (bm_preV hM hG hS hz hP.c0 rfl) rfl rfl hl.1 rfl (lv_room (Nat.le_of_ble_eq_true rfl)) dM_withdraw_78 (by rw [← hR]; exact ⟨Nat.le_of_ble_eq_true rfl, Nat.le_of_ble_eq_true rfl⟩)) hS (fun v9 M3 H locs hq hM hS _ => ?_)
  obtain ⟨hz, ⟨rfl, hP⟩, hF9⟩ := hq
  have hF := hF.tr hF9
  refine lv_istore hx hb dM_withdraw_81 hl (by decide) rfl (fun ls hl => ?_)
  have hl : lv_has ls 10 [(6, .int (bm_chb ch (bm_o1 n) + bm_chb ch (bm_o2 n))), (0, .ref m), (1, .int (nI j)), (2, .int (nI d)), (3, .long seed), (5, .int ch)] := hl
  refine lv_iload hx hb dM_withdraw_83 (lv_at hl 0 rfl) ?_
  refine lv_if_le (tgt := 115) hx hb dM_withdraw_85 rfl (fun h85 => absurd h85 (Int32.not_le.mpr hcaught)) (fun h85 => ?_)
  refine lv_aload_n hx hb dM_withdraw_88 rfl (lv_at hl 1 rfl) ?_
  refine bm_get (ci := 7) (v := .ref (m + 1)) (C := "BlindMintModel") (T := bt_M) (N := 22) hx hb hts bu_M hown hK hM hP.c0 rfl 1 (by decide) (hts _ bw_603) (fun _ h9 => h9) rfl dM_withdraw_89 ?_
  refine lv_iload_n hx hb dM_withdraw_92 rfl (lv_at hl 2 rfl) ?_
  refine lv_dup2_11 hx hb dM_withdraw_93 rfl rfl ?_
  refine bm_iald hx hb hK hM 0 hP.c1 rfl j (bm_ix_nI (by omega)) (by omega) dM_withdraw_94 ?_
  refine lv_iconst (v := 1) hx hb dM_withdraw_95 (by decide) ?_
  refine lv_isub hx hb dM_withdraw_96 ?_
  refine bm_iast hx hb hK hM hS 0 hP.c1 rfl j (bm_ix_nI (by omega)) (by omega) dM_withdraw_97 (fun H locs hz1 hM hS => ?_)
  have hz := hz1.trans hz
  obtain ⟨M4, hM, hP, hF⟩ : ∃ X, bm_M D base X H ∧ bm_MD ct m 0 tr bl np nd (upd f1 j ((f1 j) - 1)) f2 f3 f4 g5 g6 f7 g8 g9 g10 y11 y12 y13 y14 y15 (upd (upd y16 (bm_o1 n) 0) (bm_o2 n) 0) g17 X ∧ bm_fr m M X := ⟨_, hM, hP.s1 _, hF.up (by decide)⟩
  refine lv_aload_n hx hb dM_withdraw_98 rfl (lv_at hl 1 rfl) ?_
  refine bm_get (ci := 7) (v := .ref (m + 2)) (C := "BlindMintModel") (T := bt_M) (N := 22) hx hb hts bu_M hown hK hM hP.c0 rfl 2 (by decide) (hts _ bw_604) (fun _ h9 => h9) rfl dM_withdraw_99 ?_
  refine lv_iconst (v := 2) hx hb dM_withdraw_102 (by decide) ?_
  refine lv_dup2_11 hx hb dM_withdraw_103 rfl rfl ?_
  refine bm_iald hx hb hK hM 0 hP.c2 rfl 2 (bm_ix_nI (k := 2) (by decide)) (by decide) dM_withdraw_104 ?_
  refine lv_iload hx hb dM_withdraw_105 (lv_at hl 0 rfl) ?_
  refine lv_iadd hx hb dM_withdraw_107 ?_
  refine bm_iast hx hb hK hM hS 0 hP.c2 rfl 2 (bm_ix_nI (k := 2) (by decide)) (by decide) dM_withdraw_108 (fun H locs hz1 hM hS => ?_)
  have hz := hz1.trans hz
  obtain ⟨M5, hM, hP, hF⟩ : ∃ X, bm_M D base X H ∧ bm_MD ct m 0 tr bl np nd (upd f1 j ((f1 j) - 1)) (upd f2 2 ((f2 2) + (bm_chb ch (bm_o1 n) + bm_chb ch (bm_o2 n)))) f3 f4 g5 g6 f7 g8 g9 g10 y11 y12 y13 y14 y15 (upd (upd y16 (bm_o1 n) 0) (bm_o2 n) 0) g17 X ∧ bm_fr m M X := ⟨_, hM, hP.s2 _, hF.up (by decide)⟩
  refine lv_aload_n hx hb dM_withdraw_109 rfl (lv_at hl 1 rfl) ?_
  refine lv_iconst (v := 2) hx hb dM_withdraw_110 (by decide) ?_
  refine bm_call (va_runV (As := [.int 2]) (rest := []) ⟨hx, hb, hml, hown, hts⟩ (bc_M_fail l D ct base ad M5 sz m 0 tr bl np nd (upd f1 j ((f1 j) - 1)) (upd f2 2 ((f2 2) + (bm_chb ch (bm_o1 n) + bm_chb ch (bm_o2 n)))) f3 f4 g5 g6 f7 g8 g9 g10 y11 y12 y13 y14 y15 (upd (upd y16 (bm_o1 n) 0) (bm_o2 n) 0) g17 2 hP) (cwV 1 hts (bm_goodV bw_682 bw_684 bs_10 bw_5 bw_685) rfl rfl rfl (by decide +kernel) (by rw [← hR]; exact ⟨Nat.le_of_ble_eq_true rfl, Nat.le_of_ble_eq_true rfl⟩)) (bm_preV hM hG hS hz hP.c0 rfl) rfl rfl hl.1 rfl (lv_room (Nat.le_of_ble_eq_true rfl)) dM_withdraw_111 (by rw [← hR]; exact ⟨Nat.le_of_ble_eq_true rfl, Nat.le_of_ble_eq_true rfl⟩)) hS (fun v9 M6 H locs hq hM hS _ => ?_)
  obtain ⟨hz, ⟨rfl, hP⟩, hF9⟩ := hq
  have hF := hF.tr hF9
  exact bm_iret hQ hx hb hr hlk hM hS ⟨hz, ⟨rfl, _, _, _, _, _, _, hP⟩, hF⟩ (Nat.le_refl _) (Nat.le_refl _) dM_withdraw_114
set_option maxHeartbeats 4000000 in
set_option maxRecDepth 100000 in
theorem bc_M_withdraw_ok (l : Launch) (D : va_G) (ct : Nat → ClassId) (base : Nat) (ad : Nat → Nat) (M : bm_Map) (sz : Nat) (m : Nat) (th : Int32) (tr : Int32) (bl : Int64) (np : Int32) (nd : Int32) (f1 : Nat → Int32) (f2 : Nat → Int32) (f3 : Nat → Int32) (f4 : Nat → Int32) (g5 : Nat → Int64) (g6 : Nat → Int64) (f7 : Nat → Int32) (g8 : Nat → Int64) (g9 : Nat → Int64) (g10 : Nat → Int64) (g11 : Nat → Int64) (g12 : Nat → Int64) (g13 : Nat → Int64) (g14 : Nat → Int64) (g15 : Nat → Int64) (f16 : Nat → Int32) (g17 : Nat → Int64) (j d : Nat) (seed : Int64) (ch : Int32) (hP : bm_MD ct m th tr bl np nd f1 f2 f3 f4 g5 g6 f7 g8 g9 g10 g11 g12 g13 g14 g15 f16 g17 M) (hj : j < 4) (hd : d < 3) (hc64 : bm_bl ch 64 = 1) (k n : Nat) (hrich : ¬ f1 j < bm_w d) (hk8 : f3 j = nI k) (hk : k < 8) (ht : bm_tt (bm_cp seed j ch) = lN n) (hn : n < 2 ^ 59) (hcaught : bm_chb ch (bm_o1 n) + bm_chb ch (bm_o2 n) = 0) (q : Nat → Nat) (hq : ∀ i, i < 4 → bm_lst (bm_lf (bm_lf0 n) (bm_cp seed j ch) i) (bm_cp seed j ch) 6 = nI (q i)) (hq6 : ∀ i, i < 4 → q i < 6) (nn r : Nat) (hnum : bm_hc (lN d) (fun i => bm_cp seed j ch (q i)) = lN nn) (hnn : nn < 2 ^ 59) (hsd : bm_h2 seed 100 = lN r) (hr1 : r < 2 ^ 59) : Met l yM_withdraw (bm_ws yM_withdraw cM_withdraw 10 (some .int)) { frames := 3, cells := 0, slots := 0, locals := 93 } (bm_Pre D ct base ad M sz [.ref m, .int (nI j), .int (nI d), .long seed, .int ch]) (bm_Post D base (bm_Pm m M sz (fun v M1 => v = some (.int (nI k)) ∧ ∃ (y8 y11 y12 y13 y14 y15 : Nat → Int64) (y16 : Nat → Int32) (y17 : Nat → Int64), bm_MD ct m 0 tr (lN (bm_bn d nn (bm_bf d r))) np nd (upd f1 j (f1 j - bm_w d)) (upd f2 0 (f2 0 + 1)) (upd f3 j (f3 j + 1)) (upd f4 (8 * j + k) (nI d)) (vp_updL g5 (8 * j + k) (lN nn)) (vp_updL g6 (8 * j + k) (lN (bm_sg d nn))) (upd f7 (8 * j + k) 0) y8 g9 g10 y11 y12 y13 y14 y15 y16 y17 M1 ∧ (∀ t, t < 16 → y8 (16 * (8 * j + k) + t) = bm_cr seed j ch q t) ∧ ∀ i, (i < 16 * (8 * j + k) ∨ 16 * (8 * j + k) + 16 ≤ i) → y8 i = g8 i))) 0 0 (bm_A base) := by
  refine bm_ofB (cc := cM_withdraw) (maxL := 10) (ret := (some .int)) (by decide +kernel) (Nat.le_of_ble_eq_true rfl) ?_
  intro vp ve s vm args below meth vc hx hb hr hlk hts hown hml hnm ls hl hz hM hG R Q hR hQ
  have hown : s.vm.findClass "BlindMintModel" = some vm.cls := hown
  have hK := hG.K
  have hS : va_S (bm_A base) s.heap s.heap [] := va_S.rf
  have hl : lv_has ls 10 [(0, .ref m), (1, .int (nI j)), (2, .int (nI d)), (3, .long seed), (5, .int ch)] := hl
  have hF : bm_fr m M M := bm_fr.rf
  refine lv_aload_n hx hb dM_withdraw_0 rfl (lv_at hl 0 rfl) ?_
  refine lv_iconst (v := 0) hx hb dM_withdraw_1 (by decide) ?_
  refine bm_put (ci := 7) (v := .int 0) (ty := .int) (C := "BlindMintModel") (T := bt_M) (N := 22) hx hb hts bu_M by_M bo_M bn_M hown hK hM hS hP.c0 rfl 0 (by decide) (hts _ bw_602) (fun _ h9 => h9) rfl (by decide +kernel) rfl rfl (Nat.le_of_ble_eq_true rfl) dM_withdraw_2 (fun H locs hz1 hM hS => ?_)
  have hz := hz1.trans hz
  obtain ⟨M1, hM, hP, hF⟩ : ∃ X, bm_M D base X H ∧ bm_MD ct m 0 tr bl np nd f1 f2 f3 f4 g5 g6 f7 g8 g9 g10 g11 g12 g13 g14 g15 f16 g17 X ∧ bm_fr m M X := ⟨_, hM, hP.s_th _, hF.up0⟩
  refine lv_iload_n hx hb dM_withdraw_5 rfl (lv_at hl 1 rfl) ?_
  refine lv_iconst (v := 4) hx hb dM_withdraw_6 (by decide) ?_
  refine bm_callE (va_runS (As := [.int (nI j), .int 4]) (rest := []) ⟨hx, hb, hml, hown, hts⟩ (bc_M_below l D ct base ad M1 sz (nI j) 4) (va_cwS 2 hts (bm_goodS bw_679 bw_680 bw_5 bw_681) rfl rfl rfl (by decide +kernel) (by rw [← hR]; exact ⟨Nat.le_of_ble_eq_true rfl, Nat.le_of_ble_eq_true rfl⟩)) (bm_preS hM hG hS hz) rfl rfl hl.1 rfl (lv_room (Nat.le_of_ble_eq_true rfl)) dM_withdraw_7 (by rw [← hR]; exact ⟨Nat.le_of_ble_eq_true rfl, Nat.le_of_ble_eq_true rfl⟩)) hS (fun H locs hz hM hS => ?_)
  refine lv_if_eq (tgt := 31) hx hb dM_withdraw_10 rfl (fun h10 => absurd h10 (by rw [show bm_bl (nI j) 4 = 1 from (bm_bl_nI (N := 4) hj (by decide))]; decide)) (fun h10 => ?_)
  refine lv_iload_n hx hb dM_withdraw_13 rfl (lv_at hl 2 rfl) ?_
  refine lv_iconst (v := 3) hx hb dM_withdraw_14 (by decide) ?_
  refine bm_callE (va_runS (As := [.int (nI d), .int 3]) (rest := []) ⟨hx, hb, hml, hown, hts⟩ (bc_M_below l D ct base ad M1 sz (nI d) 3) (va_cwS 2 hts (bm_goodS bw_679 bw_680 bw_5 bw_681) rfl rfl rfl (by decide +kernel) (by rw [← hR]; exact ⟨Nat.le_of_ble_eq_true rfl, Nat.le_of_ble_eq_true rfl⟩)) (bm_preS hM hG hS hz) rfl rfl hl.1 rfl (lv_room (Nat.le_of_ble_eq_true rfl)) dM_withdraw_15 (by rw [← hR]; exact ⟨Nat.le_of_ble_eq_true rfl, Nat.le_of_ble_eq_true rfl⟩)) hS (fun H locs hz hM hS => ?_)
  refine lv_if_eq (tgt := 31) hx hb dM_withdraw_18 rfl (fun h18 => absurd h18 (by rw [show bm_bl (nI d) 3 = 1 from bm_bl_nI (N := 3) hd (by decide)]; decide)) (fun h18 => ?_)
  refine lv_iload hx hb dM_withdraw_21 (lv_at hl 4 rfl) ?_
  refine lv_bipush (v := 64) hx hb dM_withdraw_23 (by decide) ?_
  refine bm_callE (va_runS (As := [.int ch, .int 64]) (rest := []) ⟨hx, hb, hml, hown, hts⟩ (bc_M_below l D ct base ad M1 sz ch 64) (va_cwS 2 hts (bm_goodS bw_679 bw_680 bw_5 bw_681) rfl rfl rfl (by decide +kernel) (by rw [← hR]; exact ⟨Nat.le_of_ble_eq_true rfl, Nat.le_of_ble_eq_true rfl⟩)) (bm_preS hM hG hS hz) rfl rfl hl.1 rfl (lv_room (Nat.le_of_ble_eq_true rfl)) dM_withdraw_25 (by rw [← hR]; exact ⟨Nat.le_of_ble_eq_true rfl, Nat.le_of_ble_eq_true rfl⟩)) hS (fun H locs hz hM hS => ?_)
  refine lv_if_ne (tgt := 37) hx hb dM_withdraw_28 rfl (fun h28 => ?_) (fun h28 => absurd h28 (by rw [hc64]; decide))
  refine lv_aload_n hx hb dM_withdraw_37 rfl (lv_at hl 0 rfl) ?_
  refine bm_get (ci := 7) (v := .ref (m + 1)) (C := "BlindMintModel") (T := bt_M) (N := 22) hx hb hts bu_M hown hK hM hP.c0 rfl 1 (by decide) (hts _ bw_603) (fun _ h9 => h9) rfl dM_withdraw_38 ?_
  refine lv_iload_n hx hb dM_withdraw_41 rfl (lv_at hl 1 rfl) ?_
  refine bm_iald hx hb hK hM 0 hP.c1 rfl j (bm_ix_nI (by omega)) (by omega) dM_withdraw_42 ?_
  refine lv_iload_n hx hb dM_withdraw_43 rfl (lv_at hl 2 rfl) ?_
  refine bm_callE (va_runS (As := [.int (nI d)]) (rest := [.int (f1 j)]) ⟨hx, hb, hml, hown, hts⟩ (bc_M_worth l D ct base ad M1 sz d hd) (va_cwS 1 hts (bm_goodS bw_686 bw_687 bw_5 bw_688) rfl rfl rfl (by decide +kernel) (by rw [← hR]; exact ⟨Nat.le_of_ble_eq_true rfl, Nat.le_of_ble_eq_true rfl⟩)) (bm_preS hM hG hS hz) rfl rfl hl.1 rfl (lv_room (Nat.le_of_ble_eq_true rfl)) dM_withdraw_44 (by rw [← hR]; exact ⟨Nat.le_of_ble_eq_true rfl, Nat.le_of_ble_eq_true rfl⟩)) hS (fun H locs hz hM hS => ?_)
  refine lv_icmp_lt (tgt := 61) hx hb dM_withdraw_47 rfl (fun h47 => absurd h47 hrich) (fun h47 => ?_)
  refine lv_aload_n hx hb dM_withdraw_50 rfl (lv_at hl 0 rfl) ?_
  refine bm_get (ci := 7) (v := .ref (m + 3)) (C := "BlindMintModel") (T := bt_M) (N := 22) hx hb hts bu_M hown hK hM hP.c0 rfl 5 (by decide) (hts _ bw_607) (fun _ h9 => h9) rfl dM_withdraw_51 ?_
  refine lv_iload_n hx hb dM_withdraw_54 rfl (lv_at hl 1 rfl) ?_
  refine bm_iald hx hb hK hM 0 hP.c3 rfl j (bm_ix_nI (by omega)) (by omega) dM_withdraw_55 ?_
  refine lv_bipush (v := 8) hx hb dM_withdraw_56 (by decide) ?_
  refine lv_icmp_ne (tgt := 67) hx hb dM_withdraw_58 rfl (fun h58 => ?_) (fun h58 => absurd (hk8 ▸ h58) (by intro z; exact absurd ((nI_eq (b := 8) (by omega) (by decide)).mp z) (by omega)))
  refine lv_aload_n hx hb dM_withdraw_67 rfl (lv_at hl 0 rfl) ?_
  refine lv_iload_n hx hb dM_withdraw_68 rfl (lv_at hl 1 rfl) ?_
  refine lv_lload_n hx hb dM_withdraw_69 rfl (lv_at hl 3 rfl) ?_
  refine lv_iload hx hb dM_withdraw_70 (lv_at hl 4 rfl) ?_
  refine bm_call (va_runV (As := [.int (nI j), .long seed, .int ch]) (rest := []) ⟨hx, hb, hml, hown, hts⟩ (bc_M_candidates l D ct base ad M1 sz m 0 tr bl np nd f1 f2 f3 f4 g5 g6 f7 g8 g9 g10 g11 g12 g13 g14 g15 f16 g17 j seed ch hP hj) (cwV 3 hts (bm_goodV bw_689 bw_691 bs_11 bw_5 bw_692) rfl rfl rfl (by decide +kernel) (by rw [← hR]; exact ⟨Nat.le_of_ble_eq_true rfl, Nat.le_of_ble_eq_true rfl⟩)) (bm_preV hM hG hS hz hP.c0 rfl) rfl rfl hl.1 rfl (lv_room (Nat.le_of_ble_eq_true rfl)) dM_withdraw_72 (by rw [← hR]; exact ⟨Nat.le_of_ble_eq_true rfl, Nat.le_of_ble_eq_true rfl⟩)) hS (fun v9 M2 H locs hq hM hS _ => ?_)
  obtain ⟨hz, ⟨rfl, y11, y12, y13, y14, y15, y16, hP, e11, e12, e13, e14, e15, e16⟩, hF9⟩ := hq
  have hF := hF.tr hF9
  have ht9 : bm_tt y15 = lN n := (bm_tt_eq e15).trans ht
  refine lv_aload_n hx hb dM_withdraw_75 rfl (lv_at hl 0 rfl) ?_
  refine lv_iload hx hb dM_withdraw_76 (lv_at hl 4 rfl) ?_
  refine bm_call (va_runV (As := [.int ch]) (rest := []) ⟨hx, hb, hml, hown, hts⟩ (bc_M_open l D ct base ad M2 sz m 0 tr bl np nd f1 f2 f3 f4 g5 g6 f7 g8 g9 g10 y11 y12 y13 y14 y15 y16 g17 ch n hP ht9 hn) (cwV 1 hts (bm_goodV bw_709 bw_711 bs_12 bw_5 bw_712) rfl rfl rfl (by decide +kernel) (by rw [← hR]; exact ⟨Nat.le_of_ble_eq_true rfl, Nat.le_of_ble_eq_true rfl⟩)) (bm_preV hM hG hS hz hP.c0 rfl) rfl rfl hl.1 rfl (lv_room (Nat.le_of_ble_eq_true rfl)) dM_withdraw_78 (by rw [← hR]; exact ⟨Nat.le_of_ble_eq_true rfl, Nat.le_of_ble_eq_true rfl⟩)) hS (fun v9 M3 H locs hq hM hS _ => ?_)
  obtain ⟨hz, ⟨rfl, hP⟩, hF9⟩ := hq
  have hF := hF.tr hF9
  refine lv_istore hx hb dM_withdraw_81 hl (by decide) rfl (fun ls hl => ?_)
  have hl : lv_has ls 10 [(6, .int (bm_chb ch (bm_o1 n) + bm_chb ch (bm_o2 n))), (0, .ref m), (1, .int (nI j)), (2, .int (nI d)), (3, .long seed), (5, .int ch)] := hl
  refine lv_iload hx hb dM_withdraw_83 (lv_at hl 0 rfl) ?_
  refine lv_if_le (tgt := 115) hx hb dM_withdraw_85 rfl (fun h85 => ?_) (fun h85 => absurd hcaught (fun z => h85 (by rw [z]; decide)))
  refine lv_bipush (v := 8) hx hb dM_withdraw_115 (by decide) ?_
  refine lv_iload_n hx hb dM_withdraw_117 rfl (lv_at hl 2 rfl) ?_
  refine lv_imul hx hb dM_withdraw_118 ?_
  refine lv_aload_n hx hb dM_withdraw_119 rfl (lv_at hl 1 rfl) ?_
  refine bm_get (ci := 7) (v := .ref (m + 3)) (C := "BlindMintModel") (T := bt_M) (N := 22) hx hb hts bu_M hown hK hM hP.c0 rfl 5 (by decide) (hts _ bw_607) (fun _ h9 => h9) rfl dM_withdraw_120 ?_
  refine lv_iload_n hx hb dM_withdraw_123 rfl (lv_at hl 2 rfl) ?_
  refine bm_iald hx hb hK hM 0 hP.c3 rfl j (bm_ix_nI (by omega)) (by omega) dM_withdraw_124 ?_
  refine lv_iadd hx hb dM_withdraw_125 ?_
  refine lv_topi (fun t4 e_t4 => ?_)
  have e_t4 : t4 = nI (8 * j + k) := by rw [e_t4]; rw [hk8]; show nI 8 * nI j + nI k = _; rw [pk_mul, nI_add]
  subst e_t4
  refine lv_istore hx hb dM_withdraw_126 hl (by decide) rfl (fun ls hl => ?_)
  have hl : lv_has ls 10 [(7, .int (nI (8 * j + k))), (6, .int (bm_chb ch (bm_o1 n) + bm_chb ch (bm_o2 n))), (0, .ref m), (1, .int (nI j)), (2, .int (nI d)), (3, .long seed), (5, .int ch)] := hl
  refine lv_iconst (v := 0) hx hb dM_withdraw_128 (by decide) ?_
  refine lv_istore hx hb dM_withdraw_129 hl (by decide) rfl (fun ls hl => ?_)
  have hl : lv_has ls 10 [(8, .int 0), (7, .int (nI (8 * j + k))), (6, .int (bm_chb ch (bm_o1 n) + bm_chb ch (bm_o2 n))), (0, .ref m), (1, .int (nI j)), (2, .int (nI d)), (3, .long seed), (5, .int ch)] := hl
  have hL0 : ∀ i, i < 6 → upd (upd y16 (bm_o1 n) 0) (bm_o2 n) 0 i = bm_lf (bm_lf0 n) (bm_cp seed j ch) 0 i := bm_lf0_ok e16 n
  refine lv_iload hx hb dM_withdraw_131 (lv_at hl 0 rfl) ?_
  refine lv_iconst (v := 4) hx hb dM_withdraw_133 (by decide) ?_
  refine lv_icmp_ge (tgt := 265) hx hb dM_withdraw_134 rfl (fun h => absurd h (by decide)) (fun _ => ?_)
  refine lv_aload_n hx hb dM_withdraw_137 rfl (lv_at hl 3 rfl) ?_
  have hls0 : bm_lst (upd (upd y16 (bm_o1 n) 0) (bm_o2 n) 0) y15 6 = nI (q 0) := (bm_lst_cg 6 (Nat.le_refl _) hL0 e15).trans (hq 0 (by decide))
  have hq6_0 := hq6 0 (by decide)
  refine bm_call (va_runV (As := []) (rest := []) ⟨hx, hb, hml, hown, hts⟩ (bc_M_least l D ct base ad M3 sz m 0 tr bl np nd f1 f2 f3 f4 g5 g6 f7 g8 g9 g10 y11 y12 y13 y14 y15 (upd (upd y16 (bm_o1 n) 0) (bm_o2 n) 0) g17 hP) (cwV 0 hts (bm_goodV bw_715 bw_717 bs_13 bw_5 bw_718) rfl rfl rfl (by decide +kernel) (by rw [← hR]; exact ⟨Nat.le_of_ble_eq_true rfl, Nat.le_of_ble_eq_true rfl⟩)) (bm_preV hM hG hS hz hP.c0 rfl) rfl rfl hl.1 rfl (lv_room (Nat.le_of_ble_eq_true rfl)) dM_withdraw_138 (by rw [← hR]; exact ⟨Nat.le_of_ble_eq_true rfl, Nat.le_of_ble_eq_true rfl⟩)) hS (fun v9 M5 H locs hq hM hS _ => ?_)
  obtain ⟨hz, ⟨rfl, hP⟩, hF9⟩ := hq
  have hF := hF.tr hF9
  refine lv_topi (fun t6 e_t6 => ?_)
  have e_t6 : t6 = nI (q 0) := by rw [e_t6]; exact hls0
  subst e_t6
  refine lv_istore hx hb dM_withdraw_141 hl (by decide) rfl (fun ls hl => ?_)
  have hl : lv_has ls 10 [(9, .int (nI (q 0))), (8, .int 0), (7, .int (nI (8 * j + k))), (6, .int (bm_chb ch (bm_o1 n) + bm_chb ch (bm_o2 n))), (0, .ref m), (1, .int (nI j)), (2, .int (nI d)), (3, .long seed), (5, .int ch)] := hl
  refine lv_aload_n hx hb dM_withdraw_143 rfl (lv_at hl 4 rfl) ?_
  refine bm_get (ci := 7) (v := .ref (m + 16)) (C := "BlindMintModel") (T := bt_M) (N := 22) hx hb hts bu_M hown hK hM hP.c0 rfl 20 (by decide) (hts _ bw_622) (fun _ h9 => h9) rfl dM_withdraw_144 ?_
  refine lv_iload hx hb dM_withdraw_147 (lv_at hl 0 rfl) ?_
  refine lv_iconst (v := 0) hx hb dM_withdraw_149 (by decide) ?_
  refine bm_zast hx hb hK hM hS 2 hP.c16 rfl (q 0) (bm_ix_nI (by omega)) (by omega) dM_withdraw_150 (fun H locs hz1 hM hS => ?_)
  have hz := hz1.trans hz
  obtain ⟨M7, hM, hP, hF⟩ : ∃ X, bm_M D base X H ∧ bm_MD ct m 0 tr bl np nd f1 f2 f3 f4 g5 g6 f7 g8 g9 g10 y11 y12 y13 y14 y15 (upd (upd (upd y16 (bm_o1 n) 0) (bm_o2 n) 0) (q 0) (vp_nar .boolean 0)) g17 X ∧ bm_fr m M X := ⟨_, hM, hP.s16 _, hF.up (by decide)⟩
  have hL1 := bm_lf_s hL0 (hq 0 (by decide)) hq6_0
  refine lv_aload_n hx hb dM_withdraw_151 rfl (lv_at hl 4 rfl) ?_
  refine bm_get (ci := 7) (v := .ref (m + 17)) (C := "BlindMintModel") (T := bt_M) (N := 22) hx hb hts bu_M hown hK hM hP.c0 rfl 21 (by decide) (hts _ bw_623) (fun _ h9 => h9) rfl dM_withdraw_152 ?_
  refine lv_iload hx hb dM_withdraw_155 (lv_at hl 1 rfl) ?_
  refine lv_aload_n hx hb dM_withdraw_157 rfl (lv_at hl 4 rfl) ?_
  refine bm_get (ci := 7) (v := .ref (m + 15)) (C := "BlindMintModel") (T := bt_M) (N := 22) hx hb hts bu_M hown hK hM hP.c0 rfl 19 (by decide) (hts _ bw_621) (fun _ h9 => h9) rfl dM_withdraw_158 ?_
  refine lv_iload hx hb dM_withdraw_161 (lv_at hl 0 rfl) ?_
  refine bm_lald hx hb hK hM 1 hP.c15 rfl (q 0) (bm_ix_nI (by omega)) (by omega) dM_withdraw_163 ?_
  refine lv_topl (fun t8 e_t8 => ?_)
  have e_t8 : t8 = bm_cp seed j ch (q 0) := by rw [e_t8]; exact e15 _ hq6_0
  subst e_t8
  refine bm_last hx hb hK hM hS 1 hP.c17 rfl 0 (bm_ix_nI (k := 0) (by decide)) (by decide) dM_withdraw_164 (fun H locs hz1 hM hS => ?_)
  have hz := hz1.trans hz
  obtain ⟨M9, hM, hP, hF⟩ : ∃ X, bm_M D base X H ∧ bm_MD ct m 0 tr bl np nd f1 f2 f3 f4 g5 g6 f7 g8 g9 g10 y11 y12 y13 y14 y15 (upd (upd (upd y16 (bm_o1 n) 0) (bm_o2 n) 0) (q 0) (vp_nar .boolean 0)) (vp_updL g17 0 (bm_cp seed j ch (q 0))) X ∧ bm_fr m M X := ⟨_, hM, hP.s17 _, hF.up (by decide)⟩
  refine lv_aload_n hx hb dM_withdraw_165 rfl (lv_at hl 4 rfl) ?_
  refine bm_get (ci := 7) (v := .ref (m + 8)) (C := "BlindMintModel") (T := bt_M) (N := 22) hx hb hts bu_M hown hK hM hP.c0 rfl 10 (by decide) (hts _ bw_612) (fun _ h9 => h9) rfl dM_withdraw_166 ?_
  refine lv_bipush (v := 16) hx hb dM_withdraw_169 (by decide) ?_
  refine lv_iload hx hb dM_withdraw_171 (lv_at hl 2 rfl) ?_
  refine lv_imul hx hb dM_withdraw_173 ?_
  refine lv_iconst (v := 4) hx hb dM_withdraw_174 (by decide) ?_
  refine lv_iload hx hb dM_withdraw_175 (lv_at hl 1 rfl) ?_
  refine lv_imul hx hb dM_withdraw_177 ?_
  refine lv_iadd hx hb dM_withdraw_178 ?_
  refine lv_aload_n hx hb dM_withdraw_179 rfl (lv_at hl 4 rfl) ?_
  refine bm_get (ci := 7) (v := .ref (m + 11)) (C := "BlindMintModel") (T := bt_M) (N := 22) hx hb hts bu_M hown hK hM hP.c0 rfl 15 (by decide) (hts _ bw_617) (fun _ h9 => h9) rfl dM_withdraw_180 ?_
  refine lv_iload hx hb dM_withdraw_183 (lv_at hl 0 rfl) ?_
  refine bm_lald hx hb hK hM 1 hP.c11 rfl (q 0) (bm_ix_nI (by omega)) (by omega) dM_withdraw_185 ?_
  refine lv_topl (fun t10 e_t10 => ?_)
  have e_t10 : t10 = bm_ca seed (q 0) := by rw [e_t10]; exact e11 _ hq6_0
  subst e_t10
  refine bm_last hx hb hK hM hS 1 hP.c8 rfl (16 * (8 * j + k) + 0) (bm_ixp0 (c := 0) (by decide) (by omega)) (by omega) dM_withdraw_186 (fun H locs hz1 hM hS => ?_)
  have hz := hz1.trans hz
  obtain ⟨M11, hM, hP, hF⟩ : ∃ X, bm_M D base X H ∧ bm_MD ct m 0 tr bl np nd f1 f2 f3 f4 g5 g6 f7 (vp_updL g8 (16 * (8 * j + k) + 0) (bm_ca seed (q 0))) g9 g10 y11 y12 y13 y14 y15 (upd (upd (upd y16 (bm_o1 n) 0) (bm_o2 n) 0) (q 0) (vp_nar .boolean 0)) (vp_updL g17 0 (bm_cp seed j ch (q 0))) X ∧ bm_fr m M X := ⟨_, hM, hP.s8 _, hF.up (by decide)⟩
  refine lv_aload_n hx hb dM_withdraw_187 rfl (lv_at hl 4 rfl) ?_
  refine bm_get (ci := 7) (v := .ref (m + 8)) (C := "BlindMintModel") (T := bt_M) (N := 22) hx hb hts bu_M hown hK hM hP.c0 rfl 10 (by decide) (hts _ bw_612) (fun _ h9 => h9) rfl dM_withdraw_188 ?_
  refine lv_bipush (v := 16) hx hb dM_withdraw_191 (by decide) ?_
  refine lv_iload hx hb dM_withdraw_193 (lv_at hl 2 rfl) ?_
  refine lv_imul hx hb dM_withdraw_195 ?_
  refine lv_iconst (v := 4) hx hb dM_withdraw_196 (by decide) ?_
  refine lv_iload hx hb dM_withdraw_197 (lv_at hl 1 rfl) ?_
  refine lv_imul hx hb dM_withdraw_199 ?_
  refine lv_iadd hx hb dM_withdraw_200 ?_
  refine lv_iconst (v := 1) hx hb dM_withdraw_201 (by decide) ?_
  refine lv_iadd hx hb dM_withdraw_202 ?_
  refine lv_aload_n hx hb dM_withdraw_203 rfl (lv_at hl 4 rfl) ?_
  refine bm_get (ci := 7) (v := .ref (m + 12)) (C := "BlindMintModel") (T := bt_M) (N := 22) hx hb hts bu_M hown hK hM hP.c0 rfl 16 (by decide) (hts _ bw_618) (fun _ h9 => h9) rfl dM_withdraw_204 ?_
  refine lv_iload hx hb dM_withdraw_207 (lv_at hl 0 rfl) ?_
  refine bm_lald hx hb hK hM 1 hP.c12 rfl (q 0) (bm_ix_nI (by omega)) (by omega) dM_withdraw_209 ?_
  refine lv_topl (fun t12 e_t12 => ?_)
  have e_t12 : t12 = bm_cb seed j ch (q 0) := by rw [e_t12]; exact e12 _ hq6_0
  subst e_t12
  refine bm_last hx hb hK hM hS 1 hP.c8 rfl (16 * (8 * j + k) + 1) (bm_ixp (c := 0) (t := 1) (by decide) (by omega)) (by omega) dM_withdraw_210 (fun H locs hz1 hM hS => ?_)
  have hz := hz1.trans hz
  obtain ⟨M13, hM, hP, hF⟩ : ∃ X, bm_M D base X H ∧ bm_MD ct m 0 tr bl np nd f1 f2 f3 f4 g5 g6 f7 (vp_updL (vp_updL g8 (16 * (8 * j + k) + 0) (bm_ca seed (q 0))) (16 * (8 * j + k) + 1) (bm_cb seed j ch (q 0))) g9 g10 y11 y12 y13 y14 y15 (upd (upd (upd y16 (bm_o1 n) 0) (bm_o2 n) 0) (q 0) (vp_nar .boolean 0)) (vp_updL g17 0 (bm_cp seed j ch (q 0))) X ∧ bm_fr m M X := ⟨_, hM, hP.s8 _, hF.up (by decide)⟩
  refine lv_aload_n hx hb dM_withdraw_211 rfl (lv_at hl 4 rfl) ?_
  refine bm_get (ci := 7) (v := .ref (m + 8)) (C := "BlindMintModel") (T := bt_M) (N := 22) hx hb hts bu_M hown hK hM hP.c0 rfl 10 (by decide) (hts _ bw_612) (fun _ h9 => h9) rfl dM_withdraw_212 ?_
  refine lv_bipush (v := 16) hx hb dM_withdraw_215 (by decide) ?_
  refine lv_iload hx hb dM_withdraw_217 (lv_at hl 2 rfl) ?_
  refine lv_imul hx hb dM_withdraw_219 ?_
  refine lv_iconst (v := 4) hx hb dM_withdraw_220 (by decide) ?_
  refine lv_iload hx hb dM_withdraw_221 (lv_at hl 1 rfl) ?_
  refine lv_imul hx hb dM_withdraw_223 ?_
  refine lv_iadd hx hb dM_withdraw_224 ?_
  refine lv_iconst (v := 2) hx hb dM_withdraw_225 (by decide) ?_
  refine lv_iadd hx hb dM_withdraw_226 ?_
  refine lv_aload_n hx hb dM_withdraw_227 rfl (lv_at hl 4 rfl) ?_
  refine bm_get (ci := 7) (v := .ref (m + 13)) (C := "BlindMintModel") (T := bt_M) (N := 22) hx hb hts bu_M hown hK hM hP.c0 rfl 17 (by decide) (hts _ bw_619) (fun _ h9 => h9) rfl dM_withdraw_228 ?_
  refine lv_iload hx hb dM_withdraw_231 (lv_at hl 0 rfl) ?_
  refine bm_lald hx hb hK hM 1 hP.c13 rfl (q 0) (bm_ix_nI (by omega)) (by omega) dM_withdraw_233 ?_
  refine lv_topl (fun t14 e_t14 => ?_)
  have e_t14 : t14 = bm_cc seed (q 0) := by rw [e_t14]; exact e13 _ hq6_0
  subst e_t14
  refine bm_last hx hb hK hM hS 1 hP.c8 rfl (16 * (8 * j + k) + 2) (bm_ixp (c := 0) (t := 2) (by decide) (by omega)) (by omega) dM_withdraw_234 (fun H locs hz1 hM hS => ?_)
  have hz := hz1.trans hz
  obtain ⟨M15, hM, hP, hF⟩ : ∃ X, bm_M D base X H ∧ bm_MD ct m 0 tr bl np nd f1 f2 f3 f4 g5 g6 f7 (vp_updL (vp_updL (vp_updL g8 (16 * (8 * j + k) + 0) (bm_ca seed (q 0))) (16 * (8 * j + k) + 1) (bm_cb seed j ch (q 0))) (16 * (8 * j + k) + 2) (bm_cc seed (q 0))) g9 g10 y11 y12 y13 y14 y15 (upd (upd (upd y16 (bm_o1 n) 0) (bm_o2 n) 0) (q 0) (vp_nar .boolean 0)) (vp_updL g17 0 (bm_cp seed j ch (q 0))) X ∧ bm_fr m M X := ⟨_, hM, hP.s8 _, hF.up (by decide)⟩
  refine lv_aload_n hx hb dM_withdraw_235 rfl (lv_at hl 4 rfl) ?_
  refine bm_get (ci := 7) (v := .ref (m + 8)) (C := "BlindMintModel") (T := bt_M) (N := 22) hx hb hts bu_M hown hK hM hP.c0 rfl 10 (by decide) (hts _ bw_612) (fun _ h9 => h9) rfl dM_withdraw_236 ?_
  refine lv_bipush (v := 16) hx hb dM_withdraw_239 (by decide) ?_
  refine lv_iload hx hb dM_withdraw_241 (lv_at hl 2 rfl) ?_
  refine lv_imul hx hb dM_withdraw_243 ?_
  refine lv_iconst (v := 4) hx hb dM_withdraw_244 (by decide) ?_
  refine lv_iload hx hb dM_withdraw_245 (lv_at hl 1 rfl) ?_
  refine lv_imul hx hb dM_withdraw_247 ?_
  refine lv_iadd hx hb dM_withdraw_248 ?_
  refine lv_iconst (v := 3) hx hb dM_withdraw_249 (by decide) ?_
  refine lv_iadd hx hb dM_withdraw_250 ?_
  refine lv_aload_n hx hb dM_withdraw_251 rfl (lv_at hl 4 rfl) ?_
  refine bm_get (ci := 7) (v := .ref (m + 14)) (C := "BlindMintModel") (T := bt_M) (N := 22) hx hb hts bu_M hown hK hM hP.c0 rfl 18 (by decide) (hts _ bw_620) (fun _ h9 => h9) rfl dM_withdraw_252 ?_
  refine lv_iload hx hb dM_withdraw_255 (lv_at hl 0 rfl) ?_
  refine bm_lald hx hb hK hM 1 hP.c14 rfl (q 0) (bm_ix_nI (by omega)) (by omega) dM_withdraw_257 ?_
  refine lv_topl (fun t16 e_t16 => ?_)
  have e_t16 : t16 = bm_ce seed (q 0) := by rw [e_t16]; exact e14 _ hq6_0
  subst e_t16
  refine bm_last hx hb hK hM hS 1 hP.c8 rfl (16 * (8 * j + k) + 3) (bm_ixp (c := 0) (t := 3) (by decide) (by omega)) (by omega) dM_withdraw_258 (fun H locs hz1 hM hS => ?_)
  have hz := hz1.trans hz
  obtain ⟨M17, hM, hP, hF⟩ : ∃ X, bm_M D base X H ∧ bm_MD ct m 0 tr bl np nd f1 f2 f3 f4 g5 g6 f7 (vp_updL (vp_updL (vp_updL (vp_updL g8 (16 * (8 * j + k) + 0) (bm_ca seed (q 0))) (16 * (8 * j + k) + 1) (bm_cb seed j ch (q 0))) (16 * (8 * j + k) + 2) (bm_cc seed (q 0))) (16 * (8 * j + k) + 3) (bm_ce seed (q 0))) g9 g10 y11 y12 y13 y14 y15 (upd (upd (upd y16 (bm_o1 n) 0) (bm_o2 n) 0) (q 0) (vp_nar .boolean 0)) (vp_updL g17 0 (bm_cp seed j ch (q 0))) X ∧ bm_fr m M X := ⟨_, hM, hP.s8 _, hF.up (by decide)⟩
  refine lv_iinc (v := 1) (k := 1) hx hb dM_withdraw_259 hl rfl (by decide) (by decide) rfl (fun ls hl => ?_)
  have hl : lv_has ls 10 [(8, .int 1), (9, .int (nI (q 0))), (7, .int (nI (8 * j + k))), (6, .int (bm_chb ch (bm_o1 n) + bm_chb ch (bm_o2 n))), (0, .ref m), (1, .int (nI j)), (2, .int (nI d)), (3, .long seed), (5, .int ch)] := hl
  refine lv_goto (tgt := 131) hx hb dM_withdraw_262 rfl ?_
  refine lv_iload hx hb dM_withdraw_131 (lv_at hl 0 rfl) ?_
  refine lv_iconst (v := 4) hx hb dM_withdraw_133 (by decide) ?_
  refine lv_icmp_ge (tgt := 265) hx hb dM_withdraw_134 rfl (fun h => absurd h (by decide)) (fun _ => ?_)
  refine lv_aload_n hx hb dM_withdraw_137 rfl (lv_at hl 4 rfl) ?_
  have hls1 : bm_lst (upd (upd (upd y16 (bm_o1 n) 0) (bm_o2 n) 0) (q 0) (vp_nar .boolean 0)) y15 6 = nI (q 1) := (bm_lst_cg 6 (Nat.le_refl _) hL1 e15).trans (hq 1 (by decide))
  have hq6_1 := hq6 1 (by decide)
  refine bm_call (va_runV (As := []) (rest := []) ⟨hx, hb, hml, hown, hts⟩ (bc_M_least l D ct base ad M17 sz m 0 tr bl np nd f1 f2 f3 f4 g5 g6 f7 (vp_updL (vp_updL (vp_updL (vp_updL g8 (16 * (8 * j + k) + 0) (bm_ca seed (q 0))) (16 * (8 * j + k) + 1) (bm_cb seed j ch (q 0))) (16 * (8 * j + k) + 2) (bm_cc seed (q 0))) (16 * (8 * j + k) + 3) (bm_ce seed (q 0))) g9 g10 y11 y12 y13 y14 y15 (upd (upd (upd y16 (bm_o1 n) 0) (bm_o2 n) 0) (q 0) (vp_nar .boolean 0)) (vp_updL g17 0 (bm_cp seed j ch (q 0))) hP) (cwV 0 hts (bm_goodV bw_715 bw_717 bs_13 bw_5 bw_718) rfl rfl rfl (by decide +kernel) (by rw [← hR]; exact ⟨Nat.le_of_ble_eq_true rfl, Nat.le_of_ble_eq_true rfl⟩)) (bm_preV hM hG hS hz hP.c0 rfl) rfl rfl hl.1 rfl (lv_room (Nat.le_of_ble_eq_true rfl)) dM_withdraw_138 (by rw [← hR]; exact ⟨Nat.le_of_ble_eq_true rfl, Nat.le_of_ble_eq_true rfl⟩)) hS (fun v9 M18 H locs hq hM hS _ => ?_)
  obtain ⟨hz, ⟨rfl, hP⟩, hF9⟩ := hq
  have hF := hF.tr hF9
  refine lv_topi (fun t19 e_t19 => ?_)
  have e_t19 : t19 = nI (q 1) := by rw [e_t19]; exact hls1
  subst e_t19
  refine lv_istore hx hb dM_withdraw_141 hl (by decide) rfl (fun ls hl => ?_)
  have hl : lv_has ls 10 [(9, .int (nI (q 1))), (8, .int 1), (7, .int (nI (8 * j + k))), (6, .int (bm_chb ch (bm_o1 n) + bm_chb ch (bm_o2 n))), (0, .ref m), (1, .int (nI j)), (2, .int (nI d)), (3, .long seed), (5, .int ch)] := hl
  refine lv_aload_n hx hb dM_withdraw_143 rfl (lv_at hl 4 rfl) ?_
  refine bm_get (ci := 7) (v := .ref (m + 16)) (C := "BlindMintModel") (T := bt_M) (N := 22) hx hb hts bu_M hown hK hM hP.c0 rfl 20 (by decide) (hts _ bw_622) (fun _ h9 => h9) rfl dM_withdraw_144 ?_
  refine lv_iload hx hb dM_withdraw_147 (lv_at hl 0 rfl) ?_
  refine lv_iconst (v := 0) hx hb dM_withdraw_149 (by decide) ?_
  refine bm_zast hx hb hK hM hS 2 hP.c16 rfl (q 1) (bm_ix_nI (by omega)) (by omega) dM_withdraw_150 (fun H locs hz1 hM hS => ?_)
  have hz := hz1.trans hz
  obtain ⟨M20, hM, hP, hF⟩ : ∃ X, bm_M D base X H ∧ bm_MD ct m 0 tr bl np nd f1 f2 f3 f4 g5 g6 f7 (vp_updL (vp_updL (vp_updL (vp_updL g8 (16 * (8 * j + k) + 0) (bm_ca seed (q 0))) (16 * (8 * j + k) + 1) (bm_cb seed j ch (q 0))) (16 * (8 * j + k) + 2) (bm_cc seed (q 0))) (16 * (8 * j + k) + 3) (bm_ce seed (q 0))) g9 g10 y11 y12 y13 y14 y15 (upd (upd (upd (upd y16 (bm_o1 n) 0) (bm_o2 n) 0) (q 0) (vp_nar .boolean 0)) (q 1) (vp_nar .boolean 0)) (vp_updL g17 0 (bm_cp seed j ch (q 0))) X ∧ bm_fr m M X := ⟨_, hM, hP.s16 _, hF.up (by decide)⟩
  have hL2 := bm_lf_s hL1 (hq 1 (by decide)) hq6_1
  refine lv_aload_n hx hb dM_withdraw_151 rfl (lv_at hl 4 rfl) ?_
  refine bm_get (ci := 7) (v := .ref (m + 17)) (C := "BlindMintModel") (T := bt_M) (N := 22) hx hb hts bu_M hown hK hM hP.c0 rfl 21 (by decide) (hts _ bw_623) (fun _ h9 => h9) rfl dM_withdraw_152 ?_
  refine lv_iload hx hb dM_withdraw_155 (lv_at hl 1 rfl) ?_
  refine lv_aload_n hx hb dM_withdraw_157 rfl (lv_at hl 4 rfl) ?_
  refine bm_get (ci := 7) (v := .ref (m + 15)) (C := "BlindMintModel") (T := bt_M) (N := 22) hx hb hts bu_M hown hK hM hP.c0 rfl 19 (by decide) (hts _ bw_621) (fun _ h9 => h9) rfl dM_withdraw_158 ?_
  refine lv_iload hx hb dM_withdraw_161 (lv_at hl 0 rfl) ?_
  refine bm_lald hx hb hK hM 1 hP.c15 rfl (q 1) (bm_ix_nI (by omega)) (by omega) dM_withdraw_163 ?_
  refine lv_topl (fun t21 e_t21 => ?_)
  have e_t21 : t21 = bm_cp seed j ch (q 1) := by rw [e_t21]; exact e15 _ hq6_1
  subst e_t21
  refine bm_last hx hb hK hM hS 1 hP.c17 rfl 1 (bm_ix_nI (k := 1) (by decide)) (by decide) dM_withdraw_164 (fun H locs hz1 hM hS => ?_)
  have hz := hz1.trans hz
  obtain ⟨M22, hM, hP, hF⟩ : ∃ X, bm_M D base X H ∧ bm_MD ct m 0 tr bl np nd f1 f2 f3 f4 g5 g6 f7 (vp_updL (vp_updL (vp_updL (vp_updL g8 (16 * (8 * j + k) + 0) (bm_ca seed (q 0))) (16 * (8 * j + k) + 1) (bm_cb seed j ch (q 0))) (16 * (8 * j + k) + 2) (bm_cc seed (q 0))) (16 * (8 * j + k) + 3) (bm_ce seed (q 0))) g9 g10 y11 y12 y13 y14 y15 (upd (upd (upd (upd y16 (bm_o1 n) 0) (bm_o2 n) 0) (q 0) (vp_nar .boolean 0)) (q 1) (vp_nar .boolean 0)) (vp_updL (vp_updL g17 0 (bm_cp seed j ch (q 0))) 1 (bm_cp seed j ch (q 1))) X ∧ bm_fr m M X := ⟨_, hM, hP.s17 _, hF.up (by decide)⟩
  refine lv_aload_n hx hb dM_withdraw_165 rfl (lv_at hl 4 rfl) ?_
  refine bm_get (ci := 7) (v := .ref (m + 8)) (C := "BlindMintModel") (T := bt_M) (N := 22) hx hb hts bu_M hown hK hM hP.c0 rfl 10 (by decide) (hts _ bw_612) (fun _ h9 => h9) rfl dM_withdraw_166 ?_
  refine lv_bipush (v := 16) hx hb dM_withdraw_169 (by decide) ?_
  refine lv_iload hx hb dM_withdraw_171 (lv_at hl 2 rfl) ?_
  refine lv_imul hx hb dM_withdraw_173 ?_
  refine lv_iconst (v := 4) hx hb dM_withdraw_174 (by decide) ?_
  refine lv_iload hx hb dM_withdraw_175 (lv_at hl 1 rfl) ?_
  refine lv_imul hx hb dM_withdraw_177 ?_
  refine lv_iadd hx hb dM_withdraw_178 ?_
  refine lv_aload_n hx hb dM_withdraw_179 rfl (lv_at hl 4 rfl) ?_
  refine bm_get (ci := 7) (v := .ref (m + 11)) (C := "BlindMintModel") (T := bt_M) (N := 22) hx hb hts bu_M hown hK hM hP.c0 rfl 15 (by decide) (hts _ bw_617) (fun _ h9 => h9) rfl dM_withdraw_180 ?_
  refine lv_iload hx hb dM_withdraw_183 (lv_at hl 0 rfl) ?_
  refine bm_lald hx hb hK hM 1 hP.c11 rfl (q 1) (bm_ix_nI (by omega)) (by omega) dM_withdraw_185 ?_
  refine lv_topl (fun t23 e_t23 => ?_)
  have e_t23 : t23 = bm_ca seed (q 1) := by rw [e_t23]; exact e11 _ hq6_1
  subst e_t23
  refine bm_last hx hb hK hM hS 1 hP.c8 rfl (16 * (8 * j + k) + 4) (bm_ixp0 (c := 4) (by decide) (by omega)) (by omega) dM_withdraw_186 (fun H locs hz1 hM hS => ?_)
  have hz := hz1.trans hz
  obtain ⟨M24, hM, hP, hF⟩ : ∃ X, bm_M D base X H ∧ bm_MD ct m 0 tr bl np nd f1 f2 f3 f4 g5 g6 f7 (vp_updL (vp_updL (vp_updL (vp_updL (vp_updL g8 (16 * (8 * j + k) + 0) (bm_ca seed (q 0))) (16 * (8 * j + k) + 1) (bm_cb seed j ch (q 0))) (16 * (8 * j + k) + 2) (bm_cc seed (q 0))) (16 * (8 * j + k) + 3) (bm_ce seed (q 0))) (16 * (8 * j + k) + 4) (bm_ca seed (q 1))) g9 g10 y11 y12 y13 y14 y15 (upd (upd (upd (upd y16 (bm_o1 n) 0) (bm_o2 n) 0) (q 0) (vp_nar .boolean 0)) (q 1) (vp_nar .boolean 0)) (vp_updL (vp_updL g17 0 (bm_cp seed j ch (q 0))) 1 (bm_cp seed j ch (q 1))) X ∧ bm_fr m M X := ⟨_, hM, hP.s8 _, hF.up (by decide)⟩
  refine lv_aload_n hx hb dM_withdraw_187 rfl (lv_at hl 4 rfl) ?_
  refine bm_get (ci := 7) (v := .ref (m + 8)) (C := "BlindMintModel") (T := bt_M) (N := 22) hx hb hts bu_M hown hK hM hP.c0 rfl 10 (by decide) (hts _ bw_612) (fun _ h9 => h9) rfl dM_withdraw_188 ?_
  refine lv_bipush (v := 16) hx hb dM_withdraw_191 (by decide) ?_
  refine lv_iload hx hb dM_withdraw_193 (lv_at hl 2 rfl) ?_
  refine lv_imul hx hb dM_withdraw_195 ?_
  refine lv_iconst (v := 4) hx hb dM_withdraw_196 (by decide) ?_
  refine lv_iload hx hb dM_withdraw_197 (lv_at hl 1 rfl) ?_
  refine lv_imul hx hb dM_withdraw_199 ?_
  refine lv_iadd hx hb dM_withdraw_200 ?_
  refine lv_iconst (v := 1) hx hb dM_withdraw_201 (by decide) ?_
  refine lv_iadd hx hb dM_withdraw_202 ?_
  refine lv_aload_n hx hb dM_withdraw_203 rfl (lv_at hl 4 rfl) ?_
  refine bm_get (ci := 7) (v := .ref (m + 12)) (C := "BlindMintModel") (T := bt_M) (N := 22) hx hb hts bu_M hown hK hM hP.c0 rfl 16 (by decide) (hts _ bw_618) (fun _ h9 => h9) rfl dM_withdraw_204 ?_
  refine lv_iload hx hb dM_withdraw_207 (lv_at hl 0 rfl) ?_
  refine bm_lald hx hb hK hM 1 hP.c12 rfl (q 1) (bm_ix_nI (by omega)) (by omega) dM_withdraw_209 ?_
  refine lv_topl (fun t25 e_t25 => ?_)
  have e_t25 : t25 = bm_cb seed j ch (q 1) := by rw [e_t25]; exact e12 _ hq6_1
  subst e_t25
  refine bm_last hx hb hK hM hS 1 hP.c8 rfl (16 * (8 * j + k) + 5) (bm_ixp (c := 4) (t := 1) (by decide) (by omega)) (by omega) dM_withdraw_210 (fun H locs hz1 hM hS => ?_)
  have hz := hz1.trans hz
  obtain ⟨M26, hM, hP, hF⟩ : ∃ X, bm_M D base X H ∧ bm_MD ct m 0 tr bl np nd f1 f2 f3 f4 g5 g6 f7 (vp_updL (vp_updL (vp_updL (vp_updL (vp_updL (vp_updL g8 (16 * (8 * j + k) + 0) (bm_ca seed (q 0))) (16 * (8 * j + k) + 1) (bm_cb seed j ch (q 0))) (16 * (8 * j + k) + 2) (bm_cc seed (q 0))) (16 * (8 * j + k) + 3) (bm_ce seed (q 0))) (16 * (8 * j + k) + 4) (bm_ca seed (q 1))) (16 * (8 * j + k) + 5) (bm_cb seed j ch (q 1))) g9 g10 y11 y12 y13 y14 y15 (upd (upd (upd (upd y16 (bm_o1 n) 0) (bm_o2 n) 0) (q 0) (vp_nar .boolean 0)) (q 1) (vp_nar .boolean 0)) (vp_updL (vp_updL g17 0 (bm_cp seed j ch (q 0))) 1 (bm_cp seed j ch (q 1))) X ∧ bm_fr m M X := ⟨_, hM, hP.s8 _, hF.up (by decide)⟩
  refine lv_aload_n hx hb dM_withdraw_211 rfl (lv_at hl 4 rfl) ?_
  refine bm_get (ci := 7) (v := .ref (m + 8)) (C := "BlindMintModel") (T := bt_M) (N := 22) hx hb hts bu_M hown hK hM hP.c0 rfl 10 (by decide) (hts _ bw_612) (fun _ h9 => h9) rfl dM_withdraw_212 ?_
  refine lv_bipush (v := 16) hx hb dM_withdraw_215 (by decide) ?_
  refine lv_iload hx hb dM_withdraw_217 (lv_at hl 2 rfl) ?_
  refine lv_imul hx hb dM_withdraw_219 ?_
  refine lv_iconst (v := 4) hx hb dM_withdraw_220 (by decide) ?_
  refine lv_iload hx hb dM_withdraw_221 (lv_at hl 1 rfl) ?_
  refine lv_imul hx hb dM_withdraw_223 ?_
  refine lv_iadd hx hb dM_withdraw_224 ?_
  refine lv_iconst (v := 2) hx hb dM_withdraw_225 (by decide) ?_
  refine lv_iadd hx hb dM_withdraw_226 ?_
  refine lv_aload_n hx hb dM_withdraw_227 rfl (lv_at hl 4 rfl) ?_
  refine bm_get (ci := 7) (v := .ref (m + 13)) (C := "BlindMintModel") (T := bt_M) (N := 22) hx hb hts bu_M hown hK hM hP.c0 rfl 17 (by decide) (hts _ bw_619) (fun _ h9 => h9) rfl dM_withdraw_228 ?_
  refine lv_iload hx hb dM_withdraw_231 (lv_at hl 0 rfl) ?_
  refine bm_lald hx hb hK hM 1 hP.c13 rfl (q 1) (bm_ix_nI (by omega)) (by omega) dM_withdraw_233 ?_
  refine lv_topl (fun t27 e_t27 => ?_)
  have e_t27 : t27 = bm_cc seed (q 1) := by rw [e_t27]; exact e13 _ hq6_1
  subst e_t27
  refine bm_last hx hb hK hM hS 1 hP.c8 rfl (16 * (8 * j + k) + 6) (bm_ixp (c := 4) (t := 2) (by decide) (by omega)) (by omega) dM_withdraw_234 (fun H locs hz1 hM hS => ?_)
  have hz := hz1.trans hz
  obtain ⟨M28, hM, hP, hF⟩ : ∃ X, bm_M D base X H ∧ bm_MD ct m 0 tr bl np nd f1 f2 f3 f4 g5 g6 f7 (vp_updL (vp_updL (vp_updL (vp_updL (vp_updL (vp_updL (vp_updL g8 (16 * (8 * j + k) + 0) (bm_ca seed (q 0))) (16 * (8 * j + k) + 1) (bm_cb seed j ch (q 0))) (16 * (8 * j + k) + 2) (bm_cc seed (q 0))) (16 * (8 * j + k) + 3) (bm_ce seed (q 0))) (16 * (8 * j + k) + 4) (bm_ca seed (q 1))) (16 * (8 * j + k) + 5) (bm_cb seed j ch (q 1))) (16 * (8 * j + k) + 6) (bm_cc seed (q 1))) g9 g10 y11 y12 y13 y14 y15 (upd (upd (upd (upd y16 (bm_o1 n) 0) (bm_o2 n) 0) (q 0) (vp_nar .boolean 0)) (q 1) (vp_nar .boolean 0)) (vp_updL (vp_updL g17 0 (bm_cp seed j ch (q 0))) 1 (bm_cp seed j ch (q 1))) X ∧ bm_fr m M X := ⟨_, hM, hP.s8 _, hF.up (by decide)⟩
  refine lv_aload_n hx hb dM_withdraw_235 rfl (lv_at hl 4 rfl) ?_
  refine bm_get (ci := 7) (v := .ref (m + 8)) (C := "BlindMintModel") (T := bt_M) (N := 22) hx hb hts bu_M hown hK hM hP.c0 rfl 10 (by decide) (hts _ bw_612) (fun _ h9 => h9) rfl dM_withdraw_236 ?_
  refine lv_bipush (v := 16) hx hb dM_withdraw_239 (by decide) ?_
  refine lv_iload hx hb dM_withdraw_241 (lv_at hl 2 rfl) ?_
  refine lv_imul hx hb dM_withdraw_243 ?_
  refine lv_iconst (v := 4) hx hb dM_withdraw_244 (by decide) ?_
  refine lv_iload hx hb dM_withdraw_245 (lv_at hl 1 rfl) ?_
  refine lv_imul hx hb dM_withdraw_247 ?_
  refine lv_iadd hx hb dM_withdraw_248 ?_
  refine lv_iconst (v := 3) hx hb dM_withdraw_249 (by decide) ?_
  refine lv_iadd hx hb dM_withdraw_250 ?_
  refine lv_aload_n hx hb dM_withdraw_251 rfl (lv_at hl 4 rfl) ?_
  refine bm_get (ci := 7) (v := .ref (m + 14)) (C := "BlindMintModel") (T := bt_M) (N := 22) hx hb hts bu_M hown hK hM hP.c0 rfl 18 (by decide) (hts _ bw_620) (fun _ h9 => h9) rfl dM_withdraw_252 ?_
  refine lv_iload hx hb dM_withdraw_255 (lv_at hl 0 rfl) ?_
  refine bm_lald hx hb hK hM 1 hP.c14 rfl (q 1) (bm_ix_nI (by omega)) (by omega) dM_withdraw_257 ?_
  refine lv_topl (fun t29 e_t29 => ?_)
  have e_t29 : t29 = bm_ce seed (q 1) := by rw [e_t29]; exact e14 _ hq6_1
  subst e_t29
  refine bm_last hx hb hK hM hS 1 hP.c8 rfl (16 * (8 * j + k) + 7) (bm_ixp (c := 4) (t := 3) (by decide) (by omega)) (by omega) dM_withdraw_258 (fun H locs hz1 hM hS => ?_)
  have hz := hz1.trans hz
  obtain ⟨M30, hM, hP, hF⟩ : ∃ X, bm_M D base X H ∧ bm_MD ct m 0 tr bl np nd f1 f2 f3 f4 g5 g6 f7 (vp_updL (vp_updL (vp_updL (vp_updL (vp_updL (vp_updL (vp_updL (vp_updL g8 (16 * (8 * j + k) + 0) (bm_ca seed (q 0))) (16 * (8 * j + k) + 1) (bm_cb seed j ch (q 0))) (16 * (8 * j + k) + 2) (bm_cc seed (q 0))) (16 * (8 * j + k) + 3) (bm_ce seed (q 0))) (16 * (8 * j + k) + 4) (bm_ca seed (q 1))) (16 * (8 * j + k) + 5) (bm_cb seed j ch (q 1))) (16 * (8 * j + k) + 6) (bm_cc seed (q 1))) (16 * (8 * j + k) + 7) (bm_ce seed (q 1))) g9 g10 y11 y12 y13 y14 y15 (upd (upd (upd (upd y16 (bm_o1 n) 0) (bm_o2 n) 0) (q 0) (vp_nar .boolean 0)) (q 1) (vp_nar .boolean 0)) (vp_updL (vp_updL g17 0 (bm_cp seed j ch (q 0))) 1 (bm_cp seed j ch (q 1))) X ∧ bm_fr m M X := ⟨_, hM, hP.s8 _, hF.up (by decide)⟩
  refine lv_iinc (v := 2) (k := 1) hx hb dM_withdraw_259 hl rfl (by decide) (by decide) rfl (fun ls hl => ?_)
  have hl : lv_has ls 10 [(8, .int 2), (9, .int (nI (q 1))), (7, .int (nI (8 * j + k))), (6, .int (bm_chb ch (bm_o1 n) + bm_chb ch (bm_o2 n))), (0, .ref m), (1, .int (nI j)), (2, .int (nI d)), (3, .long seed), (5, .int ch)] := hl
  refine lv_goto (tgt := 131) hx hb dM_withdraw_262 rfl ?_
  refine lv_iload hx hb dM_withdraw_131 (lv_at hl 0 rfl) ?_
  refine lv_iconst (v := 4) hx hb dM_withdraw_133 (by decide) ?_
  refine lv_icmp_ge (tgt := 265) hx hb dM_withdraw_134 rfl (fun h => absurd h (by decide)) (fun _ => ?_)
  refine lv_aload_n hx hb dM_withdraw_137 rfl (lv_at hl 4 rfl) ?_
  have hls2 : bm_lst (upd (upd (upd (upd y16 (bm_o1 n) 0) (bm_o2 n) 0) (q 0) (vp_nar .boolean 0)) (q 1) (vp_nar .boolean 0)) y15 6 = nI (q 2) := (bm_lst_cg 6 (Nat.le_refl _) hL2 e15).trans (hq 2 (by decide))
  have hq6_2 := hq6 2 (by decide)
  refine bm_call (va_runV (As := []) (rest := []) ⟨hx, hb, hml, hown, hts⟩ (bc_M_least l D ct base ad M30 sz m 0 tr bl np nd f1 f2 f3 f4 g5 g6 f7 (vp_updL (vp_updL (vp_updL (vp_updL (vp_updL (vp_updL (vp_updL (vp_updL g8 (16 * (8 * j + k) + 0) (bm_ca seed (q 0))) (16 * (8 * j + k) + 1) (bm_cb seed j ch (q 0))) (16 * (8 * j + k) + 2) (bm_cc seed (q 0))) (16 * (8 * j + k) + 3) (bm_ce seed (q 0))) (16 * (8 * j + k) + 4) (bm_ca seed (q 1))) (16 * (8 * j + k) + 5) (bm_cb seed j ch (q 1))) (16 * (8 * j + k) + 6) (bm_cc seed (q 1))) (16 * (8 * j + k) + 7) (bm_ce seed (q 1))) g9 g10 y11 y12 y13 y14 y15 (upd (upd (upd (upd y16 (bm_o1 n) 0) (bm_o2 n) 0) (q 0) (vp_nar .boolean 0)) (q 1) (vp_nar .boolean 0)) (vp_updL (vp_updL g17 0 (bm_cp seed j ch (q 0))) 1 (bm_cp seed j ch (q 1))) hP) (cwV 0 hts (bm_goodV bw_715 bw_717 bs_13 bw_5 bw_718) rfl rfl rfl (by decide +kernel) (by rw [← hR]; exact ⟨Nat.le_of_ble_eq_true rfl, Nat.le_of_ble_eq_true rfl⟩)) (bm_preV hM hG hS hz hP.c0 rfl) rfl rfl hl.1 rfl (lv_room (Nat.le_of_ble_eq_true rfl)) dM_withdraw_138 (by rw [← hR]; exact ⟨Nat.le_of_ble_eq_true rfl, Nat.le_of_ble_eq_true rfl⟩)) hS (fun v9 M31 H locs hq hM hS _ => ?_)
  obtain ⟨hz, ⟨rfl, hP⟩, hF9⟩ := hq
  have hF := hF.tr hF9
  refine lv_topi (fun t32 e_t32 => ?_)
  have e_t32 : t32 = nI (q 2) := by rw [e_t32]; exact hls2
  subst e_t32
  refine lv_istore hx hb dM_withdraw_141 hl (by decide) rfl (fun ls hl => ?_)
  have hl : lv_has ls 10 [(9, .int (nI (q 2))), (8, .int 2), (7, .int (nI (8 * j + k))), (6, .int (bm_chb ch (bm_o1 n) + bm_chb ch (bm_o2 n))), (0, .ref m), (1, .int (nI j)), (2, .int (nI d)), (3, .long seed), (5, .int ch)] := hl
  refine lv_aload_n hx hb dM_withdraw_143 rfl (lv_at hl 4 rfl) ?_
  refine bm_get (ci := 7) (v := .ref (m + 16)) (C := "BlindMintModel") (T := bt_M) (N := 22) hx hb hts bu_M hown hK hM hP.c0 rfl 20 (by decide) (hts _ bw_622) (fun _ h9 => h9) rfl dM_withdraw_144 ?_
  refine lv_iload hx hb dM_withdraw_147 (lv_at hl 0 rfl) ?_
  refine lv_iconst (v := 0) hx hb dM_withdraw_149 (by decide) ?_
  refine bm_zast hx hb hK hM hS 2 hP.c16 rfl (q 2) (bm_ix_nI (by omega)) (by omega) dM_withdraw_150 (fun H locs hz1 hM hS => ?_)
  have hz := hz1.trans hz
  obtain ⟨M33, hM, hP, hF⟩ : ∃ X, bm_M D base X H ∧ bm_MD ct m 0 tr bl np nd f1 f2 f3 f4 g5 g6 f7 (vp_updL (vp_updL (vp_updL (vp_updL (vp_updL (vp_updL (vp_updL (vp_updL g8 (16 * (8 * j + k) + 0) (bm_ca seed (q 0))) (16 * (8 * j + k) + 1) (bm_cb seed j ch (q 0))) (16 * (8 * j + k) + 2) (bm_cc seed (q 0))) (16 * (8 * j + k) + 3) (bm_ce seed (q 0))) (16 * (8 * j + k) + 4) (bm_ca seed (q 1))) (16 * (8 * j + k) + 5) (bm_cb seed j ch (q 1))) (16 * (8 * j + k) + 6) (bm_cc seed (q 1))) (16 * (8 * j + k) + 7) (bm_ce seed (q 1))) g9 g10 y11 y12 y13 y14 y15 (upd (upd (upd (upd (upd y16 (bm_o1 n) 0) (bm_o2 n) 0) (q 0) (vp_nar .boolean 0)) (q 1) (vp_nar .boolean 0)) (q 2) (vp_nar .boolean 0)) (vp_updL (vp_updL g17 0 (bm_cp seed j ch (q 0))) 1 (bm_cp seed j ch (q 1))) X ∧ bm_fr m M X := ⟨_, hM, hP.s16 _, hF.up (by decide)⟩
  have hL3 := bm_lf_s hL2 (hq 2 (by decide)) hq6_2
  refine lv_aload_n hx hb dM_withdraw_151 rfl (lv_at hl 4 rfl) ?_
  refine bm_get (ci := 7) (v := .ref (m + 17)) (C := "BlindMintModel") (T := bt_M) (N := 22) hx hb hts bu_M hown hK hM hP.c0 rfl 21 (by decide) (hts _ bw_623) (fun _ h9 => h9) rfl dM_withdraw_152 ?_
  refine lv_iload hx hb dM_withdraw_155 (lv_at hl 1 rfl) ?_
  refine lv_aload_n hx hb dM_withdraw_157 rfl (lv_at hl 4 rfl) ?_
  refine bm_get (ci := 7) (v := .ref (m + 15)) (C := "BlindMintModel") (T := bt_M) (N := 22) hx hb hts bu_M hown hK hM hP.c0 rfl 19 (by decide) (hts _ bw_621) (fun _ h9 => h9) rfl dM_withdraw_158 ?_
  refine lv_iload hx hb dM_withdraw_161 (lv_at hl 0 rfl) ?_
  refine bm_lald hx hb hK hM 1 hP.c15 rfl (q 2) (bm_ix_nI (by omega)) (by omega) dM_withdraw_163 ?_
  refine lv_topl (fun t34 e_t34 => ?_)
  have e_t34 : t34 = bm_cp seed j ch (q 2) := by rw [e_t34]; exact e15 _ hq6_2
  subst e_t34
  refine bm_last hx hb hK hM hS 1 hP.c17 rfl 2 (bm_ix_nI (k := 2) (by decide)) (by decide) dM_withdraw_164 (fun H locs hz1 hM hS => ?_)
  have hz := hz1.trans hz
  obtain ⟨M35, hM, hP, hF⟩ : ∃ X, bm_M D base X H ∧ bm_MD ct m 0 tr bl np nd f1 f2 f3 f4 g5 g6 f7 (vp_updL (vp_updL (vp_updL (vp_updL (vp_updL (vp_updL (vp_updL (vp_updL g8 (16 * (8 * j + k) + 0) (bm_ca seed (q 0))) (16 * (8 * j + k) + 1) (bm_cb seed j ch (q 0))) (16 * (8 * j + k) + 2) (bm_cc seed (q 0))) (16 * (8 * j + k) + 3) (bm_ce seed (q 0))) (16 * (8 * j + k) + 4) (bm_ca seed (q 1))) (16 * (8 * j + k) + 5) (bm_cb seed j ch (q 1))) (16 * (8 * j + k) + 6) (bm_cc seed (q 1))) (16 * (8 * j + k) + 7) (bm_ce seed (q 1))) g9 g10 y11 y12 y13 y14 y15 (upd (upd (upd (upd (upd y16 (bm_o1 n) 0) (bm_o2 n) 0) (q 0) (vp_nar .boolean 0)) (q 1) (vp_nar .boolean 0)) (q 2) (vp_nar .boolean 0)) (vp_updL (vp_updL (vp_updL g17 0 (bm_cp seed j ch (q 0))) 1 (bm_cp seed j ch (q 1))) 2 (bm_cp seed j ch (q 2))) X ∧ bm_fr m M X := ⟨_, hM, hP.s17 _, hF.up (by decide)⟩
  refine lv_aload_n hx hb dM_withdraw_165 rfl (lv_at hl 4 rfl) ?_
  refine bm_get (ci := 7) (v := .ref (m + 8)) (C := "BlindMintModel") (T := bt_M) (N := 22) hx hb hts bu_M hown hK hM hP.c0 rfl 10 (by decide) (hts _ bw_612) (fun _ h9 => h9) rfl dM_withdraw_166 ?_
  refine lv_bipush (v := 16) hx hb dM_withdraw_169 (by decide) ?_
  refine lv_iload hx hb dM_withdraw_171 (lv_at hl 2 rfl) ?_
  refine lv_imul hx hb dM_withdraw_173 ?_
  refine lv_iconst (v := 4) hx hb dM_withdraw_174 (by decide) ?_
  refine lv_iload hx hb dM_withdraw_175 (lv_at hl 1 rfl) ?_
  refine lv_imul hx hb dM_withdraw_177 ?_
  refine lv_iadd hx hb dM_withdraw_178 ?_
  refine lv_aload_n hx hb dM_withdraw_179 rfl (lv_at hl 4 rfl) ?_
  refine bm_get (ci := 7) (v := .ref (m + 11)) (C := "BlindMintModel") (T := bt_M) (N := 22) hx hb hts bu_M hown hK hM hP.c0 rfl 15 (by decide) (hts _ bw_617) (fun _ h9 => h9) rfl dM_withdraw_180 ?_
  refine lv_iload hx hb dM_withdraw_183 (lv_at hl 0 rfl) ?_
  refine bm_lald hx hb hK hM 1 hP.c11 rfl (q 2) (bm_ix_nI (by omega)) (by omega) dM_withdraw_185 ?_
  refine lv_topl (fun t36 e_t36 => ?_)
  have e_t36 : t36 = bm_ca seed (q 2) := by rw [e_t36]; exact e11 _ hq6_2
  subst e_t36
  refine bm_last hx hb hK hM hS 1 hP.c8 rfl (16 * (8 * j + k) + 8) (bm_ixp0 (c := 8) (by decide) (by omega)) (by omega) dM_withdraw_186 (fun H locs hz1 hM hS => ?_)
  have hz := hz1.trans hz
  obtain ⟨M37, hM, hP, hF⟩ : ∃ X, bm_M D base X H ∧ bm_MD ct m 0 tr bl np nd f1 f2 f3 f4 g5 g6 f7 (vp_updL (vp_updL (vp_updL (vp_updL (vp_updL (vp_updL (vp_updL (vp_updL (vp_updL g8 (16 * (8 * j + k) + 0) (bm_ca seed (q 0))) (16 * (8 * j + k) + 1) (bm_cb seed j ch (q 0))) (16 * (8 * j + k) + 2) (bm_cc seed (q 0))) (16 * (8 * j + k) + 3) (bm_ce seed (q 0))) (16 * (8 * j + k) + 4) (bm_ca seed (q 1))) (16 * (8 * j + k) + 5) (bm_cb seed j ch (q 1))) (16 * (8 * j + k) + 6) (bm_cc seed (q 1))) (16 * (8 * j + k) + 7) (bm_ce seed (q 1))) (16 * (8 * j + k) + 8) (bm_ca seed (q 2))) g9 g10 y11 y12 y13 y14 y15 (upd (upd (upd (upd (upd y16 (bm_o1 n) 0) (bm_o2 n) 0) (q 0) (vp_nar .boolean 0)) (q 1) (vp_nar .boolean 0)) (q 2) (vp_nar .boolean 0)) (vp_updL (vp_updL (vp_updL g17 0 (bm_cp seed j ch (q 0))) 1 (bm_cp seed j ch (q 1))) 2 (bm_cp seed j ch (q 2))) X ∧ bm_fr m M X := ⟨_, hM, hP.s8 _, hF.up (by decide)⟩
  refine lv_aload_n hx hb dM_withdraw_187 rfl (lv_at hl 4 rfl) ?_
  refine bm_get (ci := 7) (v := .ref (m + 8)) (C := "BlindMintModel") (T := bt_M) (N := 22) hx hb hts bu_M hown hK hM hP.c0 rfl 10 (by decide) (hts _ bw_612) (fun _ h9 => h9) rfl dM_withdraw_188 ?_
  refine lv_bipush (v := 16) hx hb dM_withdraw_191 (by decide) ?_
  refine lv_iload hx hb dM_withdraw_193 (lv_at hl 2 rfl) ?_
  refine lv_imul hx hb dM_withdraw_195 ?_
  refine lv_iconst (v := 4) hx hb dM_withdraw_196 (by decide) ?_
  refine lv_iload hx hb dM_withdraw_197 (lv_at hl 1 rfl) ?_
  refine lv_imul hx hb dM_withdraw_199 ?_
  refine lv_iadd hx hb dM_withdraw_200 ?_
  refine lv_iconst (v := 1) hx hb dM_withdraw_201 (by decide) ?_
  refine lv_iadd hx hb dM_withdraw_202 ?_
  refine lv_aload_n hx hb dM_withdraw_203 rfl (lv_at hl 4 rfl) ?_
  refine bm_get (ci := 7) (v := .ref (m + 12)) (C := "BlindMintModel") (T := bt_M) (N := 22) hx hb hts bu_M hown hK hM hP.c0 rfl 16 (by decide) (hts _ bw_618) (fun _ h9 => h9) rfl dM_withdraw_204 ?_
  refine lv_iload hx hb dM_withdraw_207 (lv_at hl 0 rfl) ?_
  refine bm_lald hx hb hK hM 1 hP.c12 rfl (q 2) (bm_ix_nI (by omega)) (by omega) dM_withdraw_209 ?_
  refine lv_topl (fun t38 e_t38 => ?_)
  have e_t38 : t38 = bm_cb seed j ch (q 2) := by rw [e_t38]; exact e12 _ hq6_2
  subst e_t38
  refine bm_last hx hb hK hM hS 1 hP.c8 rfl (16 * (8 * j + k) + 9) (bm_ixp (c := 8) (t := 1) (by decide) (by omega)) (by omega) dM_withdraw_210 (fun H locs hz1 hM hS => ?_)
  have hz := hz1.trans hz
  obtain ⟨M39, hM, hP, hF⟩ : ∃ X, bm_M D base X H ∧ bm_MD ct m 0 tr bl np nd f1 f2 f3 f4 g5 g6 f7 (vp_updL (vp_updL (vp_updL (vp_updL (vp_updL (vp_updL (vp_updL (vp_updL (vp_updL (vp_updL g8 (16 * (8 * j + k) + 0) (bm_ca seed (q 0))) (16 * (8 * j + k) + 1) (bm_cb seed j ch (q 0))) (16 * (8 * j + k) + 2) (bm_cc seed (q 0))) (16 * (8 * j + k) + 3) (bm_ce seed (q 0))) (16 * (8 * j + k) + 4) (bm_ca seed (q 1))) (16 * (8 * j + k) + 5) (bm_cb seed j ch (q 1))) (16 * (8 * j + k) + 6) (bm_cc seed (q 1))) (16 * (8 * j + k) + 7) (bm_ce seed (q 1))) (16 * (8 * j + k) + 8) (bm_ca seed (q 2))) (16 * (8 * j + k) + 9) (bm_cb seed j ch (q 2))) g9 g10 y11 y12 y13 y14 y15 (upd (upd (upd (upd (upd y16 (bm_o1 n) 0) (bm_o2 n) 0) (q 0) (vp_nar .boolean 0)) (q 1) (vp_nar .boolean 0)) (q 2) (vp_nar .boolean 0)) (vp_updL (vp_updL (vp_updL g17 0 (bm_cp seed j ch (q 0))) 1 (bm_cp seed j ch (q 1))) 2 (bm_cp seed j ch (q 2))) X ∧ bm_fr m M X := ⟨_, hM, hP.s8 _, hF.up (by decide)⟩
  refine lv_aload_n hx hb dM_withdraw_211 rfl (lv_at hl 4 rfl) ?_
  refine bm_get (ci := 7) (v := .ref (m + 8)) (C := "BlindMintModel") (T := bt_M) (N := 22) hx hb hts bu_M hown hK hM hP.c0 rfl 10 (by decide) (hts _ bw_612) (fun _ h9 => h9) rfl dM_withdraw_212 ?_
  refine lv_bipush (v := 16) hx hb dM_withdraw_215 (by decide) ?_
  refine lv_iload hx hb dM_withdraw_217 (lv_at hl 2 rfl) ?_
  refine lv_imul hx hb dM_withdraw_219 ?_
  refine lv_iconst (v := 4) hx hb dM_withdraw_220 (by decide) ?_
  refine lv_iload hx hb dM_withdraw_221 (lv_at hl 1 rfl) ?_
  refine lv_imul hx hb dM_withdraw_223 ?_
  refine lv_iadd hx hb dM_withdraw_224 ?_
  refine lv_iconst (v := 2) hx hb dM_withdraw_225 (by decide) ?_
  refine lv_iadd hx hb dM_withdraw_226 ?_
  refine lv_aload_n hx hb dM_withdraw_227 rfl (lv_at hl 4 rfl) ?_
  refine bm_get (ci := 7) (v := .ref (m + 13)) (C := "BlindMintModel") (T := bt_M) (N := 22) hx hb hts bu_M hown hK hM hP.c0 rfl 17 (by decide) (hts _ bw_619) (fun _ h9 => h9) rfl dM_withdraw_228 ?_
  refine lv_iload hx hb dM_withdraw_231 (lv_at hl 0 rfl) ?_
  refine bm_lald hx hb hK hM 1 hP.c13 rfl (q 2) (bm_ix_nI (by omega)) (by omega) dM_withdraw_233 ?_
  refine lv_topl (fun t40 e_t40 => ?_)
  have e_t40 : t40 = bm_cc seed (q 2) := by rw [e_t40]; exact e13 _ hq6_2
  subst e_t40
  refine bm_last hx hb hK hM hS 1 hP.c8 rfl (16 * (8 * j + k) + 10) (bm_ixp (c := 8) (t := 2) (by decide) (by omega)) (by omega) dM_withdraw_234 (fun H locs hz1 hM hS => ?_)
  have hz := hz1.trans hz
  obtain ⟨M41, hM, hP, hF⟩ : ∃ X, bm_M D base X H ∧ bm_MD ct m 0 tr bl np nd f1 f2 f3 f4 g5 g6 f7 (vp_updL (vp_updL (vp_updL (vp_updL (vp_updL (vp_updL (vp_updL (vp_updL (vp_updL (vp_updL (vp_updL g8 (16 * (8 * j + k) + 0) (bm_ca seed (q 0))) (16 * (8 * j + k) + 1) (bm_cb seed j ch (q 0))) (16 * (8 * j + k) + 2) (bm_cc seed (q 0))) (16 * (8 * j + k) + 3) (bm_ce seed (q 0))) (16 * (8 * j + k) + 4) (bm_ca seed (q 1))) (16 * (8 * j + k) + 5) (bm_cb seed j ch (q 1))) (16 * (8 * j + k) + 6) (bm_cc seed (q 1))) (16 * (8 * j + k) + 7) (bm_ce seed (q 1))) (16 * (8 * j + k) + 8) (bm_ca seed (q 2))) (16 * (8 * j + k) + 9) (bm_cb seed j ch (q 2))) (16 * (8 * j + k) + 10) (bm_cc seed (q 2))) g9 g10 y11 y12 y13 y14 y15 (upd (upd (upd (upd (upd y16 (bm_o1 n) 0) (bm_o2 n) 0) (q 0) (vp_nar .boolean 0)) (q 1) (vp_nar .boolean 0)) (q 2) (vp_nar .boolean 0)) (vp_updL (vp_updL (vp_updL g17 0 (bm_cp seed j ch (q 0))) 1 (bm_cp seed j ch (q 1))) 2 (bm_cp seed j ch (q 2))) X ∧ bm_fr m M X := ⟨_, hM, hP.s8 _, hF.up (by decide)⟩
  refine lv_aload_n hx hb dM_withdraw_235 rfl (lv_at hl 4 rfl) ?_
  refine bm_get (ci := 7) (v := .ref (m + 8)) (C := "BlindMintModel") (T := bt_M) (N := 22) hx hb hts bu_M hown hK hM hP.c0 rfl 10 (by decide) (hts _ bw_612) (fun _ h9 => h9) rfl dM_withdraw_236 ?_
  refine lv_bipush (v := 16) hx hb dM_withdraw_239 (by decide) ?_
  refine lv_iload hx hb dM_withdraw_241 (lv_at hl 2 rfl) ?_
  refine lv_imul hx hb dM_withdraw_243 ?_
  refine lv_iconst (v := 4) hx hb dM_withdraw_244 (by decide) ?_
  refine lv_iload hx hb dM_withdraw_245 (lv_at hl 1 rfl) ?_
  refine lv_imul hx hb dM_withdraw_247 ?_
  refine lv_iadd hx hb dM_withdraw_248 ?_
  refine lv_iconst (v := 3) hx hb dM_withdraw_249 (by decide) ?_
  refine lv_iadd hx hb dM_withdraw_250 ?_
  refine lv_aload_n hx hb dM_withdraw_251 rfl (lv_at hl 4 rfl) ?_
  refine bm_get (ci := 7) (v := .ref (m + 14)) (C := "BlindMintModel") (T := bt_M) (N := 22) hx hb hts bu_M hown hK hM hP.c0 rfl 18 (by decide) (hts _ bw_620) (fun _ h9 => h9) rfl dM_withdraw_252 ?_
  refine lv_iload hx hb dM_withdraw_255 (lv_at hl 0 rfl) ?_
  refine bm_lald hx hb hK hM 1 hP.c14 rfl (q 2) (bm_ix_nI (by omega)) (by omega) dM_withdraw_257 ?_
  refine lv_topl (fun t42 e_t42 => ?_)
  have e_t42 : t42 = bm_ce seed (q 2) := by rw [e_t42]; exact e14 _ hq6_2
  subst e_t42
  refine bm_last hx hb hK hM hS 1 hP.c8 rfl (16 * (8 * j + k) + 11) (bm_ixp (c := 8) (t := 3) (by decide) (by omega)) (by omega) dM_withdraw_258 (fun H locs hz1 hM hS => ?_)
  have hz := hz1.trans hz
  obtain ⟨M43, hM, hP, hF⟩ : ∃ X, bm_M D base X H ∧ bm_MD ct m 0 tr bl np nd f1 f2 f3 f4 g5 g6 f7 (vp_updL (vp_updL (vp_updL (vp_updL (vp_updL (vp_updL (vp_updL (vp_updL (vp_updL (vp_updL (vp_updL (vp_updL g8 (16 * (8 * j + k) + 0) (bm_ca seed (q 0))) (16 * (8 * j + k) + 1) (bm_cb seed j ch (q 0))) (16 * (8 * j + k) + 2) (bm_cc seed (q 0))) (16 * (8 * j + k) + 3) (bm_ce seed (q 0))) (16 * (8 * j + k) + 4) (bm_ca seed (q 1))) (16 * (8 * j + k) + 5) (bm_cb seed j ch (q 1))) (16 * (8 * j + k) + 6) (bm_cc seed (q 1))) (16 * (8 * j + k) + 7) (bm_ce seed (q 1))) (16 * (8 * j + k) + 8) (bm_ca seed (q 2))) (16 * (8 * j + k) + 9) (bm_cb seed j ch (q 2))) (16 * (8 * j + k) + 10) (bm_cc seed (q 2))) (16 * (8 * j + k) + 11) (bm_ce seed (q 2))) g9 g10 y11 y12 y13 y14 y15 (upd (upd (upd (upd (upd y16 (bm_o1 n) 0) (bm_o2 n) 0) (q 0) (vp_nar .boolean 0)) (q 1) (vp_nar .boolean 0)) (q 2) (vp_nar .boolean 0)) (vp_updL (vp_updL (vp_updL g17 0 (bm_cp seed j ch (q 0))) 1 (bm_cp seed j ch (q 1))) 2 (bm_cp seed j ch (q 2))) X ∧ bm_fr m M X := ⟨_, hM, hP.s8 _, hF.up (by decide)⟩
  refine lv_iinc (v := 3) (k := 1) hx hb dM_withdraw_259 hl rfl (by decide) (by decide) rfl (fun ls hl => ?_)
  have hl : lv_has ls 10 [(8, .int 3), (9, .int (nI (q 2))), (7, .int (nI (8 * j + k))), (6, .int (bm_chb ch (bm_o1 n) + bm_chb ch (bm_o2 n))), (0, .ref m), (1, .int (nI j)), (2, .int (nI d)), (3, .long seed), (5, .int ch)] := hl
  refine lv_goto (tgt := 131) hx hb dM_withdraw_262 rfl ?_
  refine lv_iload hx hb dM_withdraw_131 (lv_at hl 0 rfl) ?_
  refine lv_iconst (v := 4) hx hb dM_withdraw_133 (by decide) ?_
  refine lv_icmp_ge (tgt := 265) hx hb dM_withdraw_134 rfl (fun h => absurd h (by decide)) (fun _ => ?_)
  refine lv_aload_n hx hb dM_withdraw_137 rfl (lv_at hl 4 rfl) ?_
  have hls3 : bm_lst (upd (upd (upd (upd (upd y16 (bm_o1 n) 0) (bm_o2 n) 0) (q 0) (vp_nar .boolean 0)) (q 1) (vp_nar .boolean 0)) (q 2) (vp_nar .boolean 0)) y15 6 = nI (q 3) := (bm_lst_cg 6 (Nat.le_refl _) hL3 e15).trans (hq 3 (by decide))
  have hq6_3 := hq6 3 (by decide)
  refine bm_call (va_runV (As := []) (rest := []) ⟨hx, hb, hml, hown, hts⟩ (bc_M_least l D ct base ad M43 sz m 0 tr bl np nd f1 f2 f3 f4 g5 g6 f7 (vp_updL (vp_updL (vp_updL (vp_updL (vp_updL (vp_updL (vp_updL (vp_updL (vp_updL (vp_updL (vp_updL (vp_updL g8 (16 * (8 * j + k) + 0) (bm_ca seed (q 0))) (16 * (8 * j + k) + 1) (bm_cb seed j ch (q 0))) (16 * (8 * j + k) + 2) (bm_cc seed (q 0))) (16 * (8 * j + k) + 3) (bm_ce seed (q 0))) (16 * (8 * j + k) + 4) (bm_ca seed (q 1))) (16 * (8 * j + k) + 5) (bm_cb seed j ch (q 1))) (16 * (8 * j + k) + 6) (bm_cc seed (q 1))) (16 * (8 * j + k) + 7) (bm_ce seed (q 1))) (16 * (8 * j + k) + 8) (bm_ca seed (q 2))) (16 * (8 * j + k) + 9) (bm_cb seed j ch (q 2))) (16 * (8 * j + k) + 10) (bm_cc seed (q 2))) (16 * (8 * j + k) + 11) (bm_ce seed (q 2))) g9 g10 y11 y12 y13 y14 y15 (upd (upd (upd (upd (upd y16 (bm_o1 n) 0) (bm_o2 n) 0) (q 0) (vp_nar .boolean 0)) (q 1) (vp_nar .boolean 0)) (q 2) (vp_nar .boolean 0)) (vp_updL (vp_updL (vp_updL g17 0 (bm_cp seed j ch (q 0))) 1 (bm_cp seed j ch (q 1))) 2 (bm_cp seed j ch (q 2))) hP) (cwV 0 hts (bm_goodV bw_715 bw_717 bs_13 bw_5 bw_718) rfl rfl rfl (by decide +kernel) (by rw [← hR]; exact ⟨Nat.le_of_ble_eq_true rfl, Nat.le_of_ble_eq_true rfl⟩)) (bm_preV hM hG hS hz hP.c0 rfl) rfl rfl hl.1 rfl (lv_room (Nat.le_of_ble_eq_true rfl)) dM_withdraw_138 (by rw [← hR]; exact ⟨Nat.le_of_ble_eq_true rfl, Nat.le_of_ble_eq_true rfl⟩)) hS (fun v9 M44 H locs hq hM hS _ => ?_)
  obtain ⟨hz, ⟨rfl, hP⟩, hF9⟩ := hq
  have hF := hF.tr hF9
  refine lv_topi (fun t45 e_t45 => ?_)
  have e_t45 : t45 = nI (q 3) := by rw [e_t45]; exact hls3
  subst e_t45
  refine lv_istore hx hb dM_withdraw_141 hl (by decide) rfl (fun ls hl => ?_)
  have hl : lv_has ls 10 [(9, .int (nI (q 3))), (8, .int 3), (7, .int (nI (8 * j + k))), (6, .int (bm_chb ch (bm_o1 n) + bm_chb ch (bm_o2 n))), (0, .ref m), (1, .int (nI j)), (2, .int (nI d)), (3, .long seed), (5, .int ch)] := hl
  refine lv_aload_n hx hb dM_withdraw_143 rfl (lv_at hl 4 rfl) ?_
  refine bm_get (ci := 7) (v := .ref (m + 16)) (C := "BlindMintModel") (T := bt_M) (N := 22) hx hb hts bu_M hown hK hM hP.c0 rfl 20 (by decide) (hts _ bw_622) (fun _ h9 => h9) rfl dM_withdraw_144 ?_
  refine lv_iload hx hb dM_withdraw_147 (lv_at hl 0 rfl) ?_
  refine lv_iconst (v := 0) hx hb dM_withdraw_149 (by decide) ?_
  refine bm_zast hx hb hK hM hS 2 hP.c16 rfl (q 3) (bm_ix_nI (by omega)) (by omega) dM_withdraw_150 (fun H locs hz1 hM hS => ?_)
  have hz := hz1.trans hz
  obtain ⟨M46, hM, hP, hF⟩ : ∃ X, bm_M D base X H ∧ bm_MD ct m 0 tr bl np nd f1 f2 f3 f4 g5 g6 f7 (vp_updL (vp_updL (vp_updL (vp_updL (vp_updL (vp_updL (vp_updL (vp_updL (vp_updL (vp_updL (vp_updL (vp_updL g8 (16 * (8 * j + k) + 0) (bm_ca seed (q 0))) (16 * (8 * j + k) + 1) (bm_cb seed j ch (q 0))) (16 * (8 * j + k) + 2) (bm_cc seed (q 0))) (16 * (8 * j + k) + 3) (bm_ce seed (q 0))) (16 * (8 * j + k) + 4) (bm_ca seed (q 1))) (16 * (8 * j + k) + 5) (bm_cb seed j ch (q 1))) (16 * (8 * j + k) + 6) (bm_cc seed (q 1))) (16 * (8 * j + k) + 7) (bm_ce seed (q 1))) (16 * (8 * j + k) + 8) (bm_ca seed (q 2))) (16 * (8 * j + k) + 9) (bm_cb seed j ch (q 2))) (16 * (8 * j + k) + 10) (bm_cc seed (q 2))) (16 * (8 * j + k) + 11) (bm_ce seed (q 2))) g9 g10 y11 y12 y13 y14 y15 (upd (upd (upd (upd (upd (upd y16 (bm_o1 n) 0) (bm_o2 n) 0) (q 0) (vp_nar .boolean 0)) (q 1) (vp_nar .boolean 0)) (q 2) (vp_nar .boolean 0)) (q 3) (vp_nar .boolean 0)) (vp_updL (vp_updL (vp_updL g17 0 (bm_cp seed j ch (q 0))) 1 (bm_cp seed j ch (q 1))) 2 (bm_cp seed j ch (q 2))) X ∧ bm_fr m M X := ⟨_, hM, hP.s16 _, hF.up (by decide)⟩
  have hL4 := bm_lf_s hL3 (hq 3 (by decide)) hq6_3
  refine lv_aload_n hx hb dM_withdraw_151 rfl (lv_at hl 4 rfl) ?_
  refine bm_get (ci := 7) (v := .ref (m + 17)) (C := "BlindMintModel") (T := bt_M) (N := 22) hx hb hts bu_M hown hK hM hP.c0 rfl 21 (by decide) (hts _ bw_623) (fun _ h9 => h9) rfl dM_withdraw_152 ?_
  refine lv_iload hx hb dM_withdraw_155 (lv_at hl 1 rfl) ?_
  refine lv_aload_n hx hb dM_withdraw_157 rfl (lv_at hl 4 rfl) ?_
  refine bm_get (ci := 7) (v := .ref (m + 15)) (C := "BlindMintModel") (T := bt_M) (N := 22) hx hb hts bu_M hown hK hM hP.c0 rfl 19 (by decide) (hts _ bw_621) (fun _ h9 => h9) rfl dM_withdraw_158 ?_
  refine lv_iload hx hb dM_withdraw_161 (lv_at hl 0 rfl) ?_
  refine bm_lald hx hb hK hM 1 hP.c15 rfl (q 3) (bm_ix_nI (by omega)) (by omega) dM_withdraw_163 ?_
  refine lv_topl (fun t47 e_t47 => ?_)
  have e_t47 : t47 = bm_cp seed j ch (q 3) := by rw [e_t47]; exact e15 _ hq6_3
  subst e_t47
  refine bm_last hx hb hK hM hS 1 hP.c17 rfl 3 (bm_ix_nI (k := 3) (by decide)) (by decide) dM_withdraw_164 (fun H locs hz1 hM hS => ?_)
  have hz := hz1.trans hz
  obtain ⟨M48, hM, hP, hF⟩ : ∃ X, bm_M D base X H ∧ bm_MD ct m 0 tr bl np nd f1 f2 f3 f4 g5 g6 f7 (vp_updL (vp_updL (vp_updL (vp_updL (vp_updL (vp_updL (vp_updL (vp_updL (vp_updL (vp_updL (vp_updL (vp_updL g8 (16 * (8 * j + k) + 0) (bm_ca seed (q 0))) (16 * (8 * j + k) + 1) (bm_cb seed j ch (q 0))) (16 * (8 * j + k) + 2) (bm_cc seed (q 0))) (16 * (8 * j + k) + 3) (bm_ce seed (q 0))) (16 * (8 * j + k) + 4) (bm_ca seed (q 1))) (16 * (8 * j + k) + 5) (bm_cb seed j ch (q 1))) (16 * (8 * j + k) + 6) (bm_cc seed (q 1))) (16 * (8 * j + k) + 7) (bm_ce seed (q 1))) (16 * (8 * j + k) + 8) (bm_ca seed (q 2))) (16 * (8 * j + k) + 9) (bm_cb seed j ch (q 2))) (16 * (8 * j + k) + 10) (bm_cc seed (q 2))) (16 * (8 * j + k) + 11) (bm_ce seed (q 2))) g9 g10 y11 y12 y13 y14 y15 (upd (upd (upd (upd (upd (upd y16 (bm_o1 n) 0) (bm_o2 n) 0) (q 0) (vp_nar .boolean 0)) (q 1) (vp_nar .boolean 0)) (q 2) (vp_nar .boolean 0)) (q 3) (vp_nar .boolean 0)) (vp_updL (vp_updL (vp_updL (vp_updL g17 0 (bm_cp seed j ch (q 0))) 1 (bm_cp seed j ch (q 1))) 2 (bm_cp seed j ch (q 2))) 3 (bm_cp seed j ch (q 3))) X ∧ bm_fr m M X := ⟨_, hM, hP.s17 _, hF.up (by decide)⟩
  refine lv_aload_n hx hb dM_withdraw_165 rfl (lv_at hl 4 rfl) ?_
  refine bm_get (ci := 7) (v := .ref (m + 8)) (C := "BlindMintModel") (T := bt_M) (N := 22) hx hb hts bu_M hown hK hM hP.c0 rfl 10 (by decide) (hts _ bw_612) (fun _ h9 => h9) rfl dM_withdraw_166 ?_
  refine lv_bipush (v := 16) hx hb dM_withdraw_169 (by decide) ?_
  refine lv_iload hx hb dM_withdraw_171 (lv_at hl 2 rfl) ?_
  refine lv_imul hx hb dM_withdraw_173 ?_
  refine lv_iconst (v := 4) hx hb dM_withdraw_174 (by decide) ?_
  refine lv_iload hx hb dM_withdraw_175 (lv_at hl 1 rfl) ?_
  refine lv_imul hx hb dM_withdraw_177 ?_
  refine lv_iadd hx hb dM_withdraw_178 ?_
  refine lv_aload_n hx hb dM_withdraw_179 rfl (lv_at hl 4 rfl) ?_
  refine bm_get (ci := 7) (v := .ref (m + 11)) (C := "BlindMintModel") (T := bt_M) (N := 22) hx hb hts bu_M hown hK hM hP.c0 rfl 15 (by decide) (hts _ bw_617) (fun _ h9 => h9) rfl dM_withdraw_180 ?_
  refine lv_iload hx hb dM_withdraw_183 (lv_at hl 0 rfl) ?_
  refine bm_lald hx hb hK hM 1 hP.c11 rfl (q 3) (bm_ix_nI (by omega)) (by omega) dM_withdraw_185 ?_
  refine lv_topl (fun t49 e_t49 => ?_)
  have e_t49 : t49 = bm_ca seed (q 3) := by rw [e_t49]; exact e11 _ hq6_3
  subst e_t49
  refine bm_last hx hb hK hM hS 1 hP.c8 rfl (16 * (8 * j + k) + 12) (bm_ixp0 (c := 12) (by decide) (by omega)) (by omega) dM_withdraw_186 (fun H locs hz1 hM hS => ?_)
  have hz := hz1.trans hz
  obtain ⟨M50, hM, hP, hF⟩ : ∃ X, bm_M D base X H ∧ bm_MD ct m 0 tr bl np nd f1 f2 f3 f4 g5 g6 f7 (vp_updL (vp_updL (vp_updL (vp_updL (vp_updL (vp_updL (vp_updL (vp_updL (vp_updL (vp_updL (vp_updL (vp_updL (vp_updL g8 (16 * (8 * j + k) + 0) (bm_ca seed (q 0))) (16 * (8 * j + k) + 1) (bm_cb seed j ch (q 0))) (16 * (8 * j + k) + 2) (bm_cc seed (q 0))) (16 * (8 * j + k) + 3) (bm_ce seed (q 0))) (16 * (8 * j + k) + 4) (bm_ca seed (q 1))) (16 * (8 * j + k) + 5) (bm_cb seed j ch (q 1))) (16 * (8 * j + k) + 6) (bm_cc seed (q 1))) (16 * (8 * j + k) + 7) (bm_ce seed (q 1))) (16 * (8 * j + k) + 8) (bm_ca seed (q 2))) (16 * (8 * j + k) + 9) (bm_cb seed j ch (q 2))) (16 * (8 * j + k) + 10) (bm_cc seed (q 2))) (16 * (8 * j + k) + 11) (bm_ce seed (q 2))) (16 * (8 * j + k) + 12) (bm_ca seed (q 3))) g9 g10 y11 y12 y13 y14 y15 (upd (upd (upd (upd (upd (upd y16 (bm_o1 n) 0) (bm_o2 n) 0) (q 0) (vp_nar .boolean 0)) (q 1) (vp_nar .boolean 0)) (q 2) (vp_nar .boolean 0)) (q 3) (vp_nar .boolean 0)) (vp_updL (vp_updL (vp_updL (vp_updL g17 0 (bm_cp seed j ch (q 0))) 1 (bm_cp seed j ch (q 1))) 2 (bm_cp seed j ch (q 2))) 3 (bm_cp seed j ch (q 3))) X ∧ bm_fr m M X := ⟨_, hM, hP.s8 _, hF.up (by decide)⟩
  refine lv_aload_n hx hb dM_withdraw_187 rfl (lv_at hl 4 rfl) ?_
  refine bm_get (ci := 7) (v := .ref (m + 8)) (C := "BlindMintModel") (T := bt_M) (N := 22) hx hb hts bu_M hown hK hM hP.c0 rfl 10 (by decide) (hts _ bw_612) (fun _ h9 => h9) rfl dM_withdraw_188 ?_
  refine lv_bipush (v := 16) hx hb dM_withdraw_191 (by decide) ?_
  refine lv_iload hx hb dM_withdraw_193 (lv_at hl 2 rfl) ?_
  refine lv_imul hx hb dM_withdraw_195 ?_
  refine lv_iconst (v := 4) hx hb dM_withdraw_196 (by decide) ?_
  refine lv_iload hx hb dM_withdraw_197 (lv_at hl 1 rfl) ?_
  refine lv_imul hx hb dM_withdraw_199 ?_
  refine lv_iadd hx hb dM_withdraw_200 ?_
  refine lv_iconst (v := 1) hx hb dM_withdraw_201 (by decide) ?_
  refine lv_iadd hx hb dM_withdraw_202 ?_
  refine lv_aload_n hx hb dM_withdraw_203 rfl (lv_at hl 4 rfl) ?_
  refine bm_get (ci := 7) (v := .ref (m + 12)) (C := "BlindMintModel") (T := bt_M) (N := 22) hx hb hts bu_M hown hK hM hP.c0 rfl 16 (by decide) (hts _ bw_618) (fun _ h9 => h9) rfl dM_withdraw_204 ?_
  refine lv_iload hx hb dM_withdraw_207 (lv_at hl 0 rfl) ?_
  refine bm_lald hx hb hK hM 1 hP.c12 rfl (q 3) (bm_ix_nI (by omega)) (by omega) dM_withdraw_209 ?_
  refine lv_topl (fun t51 e_t51 => ?_)
  have e_t51 : t51 = bm_cb seed j ch (q 3) := by rw [e_t51]; exact e12 _ hq6_3
  subst e_t51
  refine bm_last hx hb hK hM hS 1 hP.c8 rfl (16 * (8 * j + k) + 13) (bm_ixp (c := 12) (t := 1) (by decide) (by omega)) (by omega) dM_withdraw_210 (fun H locs hz1 hM hS => ?_)
  have hz := hz1.trans hz
  obtain ⟨M52, hM, hP, hF⟩ : ∃ X, bm_M D base X H ∧ bm_MD ct m 0 tr bl np nd f1 f2 f3 f4 g5 g6 f7 (vp_updL (vp_updL (vp_updL (vp_updL (vp_updL (vp_updL (vp_updL (vp_updL (vp_updL (vp_updL (vp_updL (vp_updL (vp_updL (vp_updL g8 (16 * (8 * j + k) + 0) (bm_ca seed (q 0))) (16 * (8 * j + k) + 1) (bm_cb seed j ch (q 0))) (16 * (8 * j + k) + 2) (bm_cc seed (q 0))) (16 * (8 * j + k) + 3) (bm_ce seed (q 0))) (16 * (8 * j + k) + 4) (bm_ca seed (q 1))) (16 * (8 * j + k) + 5) (bm_cb seed j ch (q 1))) (16 * (8 * j + k) + 6) (bm_cc seed (q 1))) (16 * (8 * j + k) + 7) (bm_ce seed (q 1))) (16 * (8 * j + k) + 8) (bm_ca seed (q 2))) (16 * (8 * j + k) + 9) (bm_cb seed j ch (q 2))) (16 * (8 * j + k) + 10) (bm_cc seed (q 2))) (16 * (8 * j + k) + 11) (bm_ce seed (q 2))) (16 * (8 * j + k) + 12) (bm_ca seed (q 3))) (16 * (8 * j + k) + 13) (bm_cb seed j ch (q 3))) g9 g10 y11 y12 y13 y14 y15 (upd (upd (upd (upd (upd (upd y16 (bm_o1 n) 0) (bm_o2 n) 0) (q 0) (vp_nar .boolean 0)) (q 1) (vp_nar .boolean 0)) (q 2) (vp_nar .boolean 0)) (q 3) (vp_nar .boolean 0)) (vp_updL (vp_updL (vp_updL (vp_updL g17 0 (bm_cp seed j ch (q 0))) 1 (bm_cp seed j ch (q 1))) 2 (bm_cp seed j ch (q 2))) 3 (bm_cp seed j ch (q 3))) X ∧ bm_fr m M X := ⟨_, hM, hP.s8 _, hF.up (by decide)⟩
  refine lv_aload_n hx hb dM_withdraw_211 rfl (lv_at hl 4 rfl) ?_
  refine bm_get (ci := 7) (v := .ref (m + 8)) (C := "BlindMintModel") (T := bt_M) (N := 22) hx hb hts bu_M hown hK hM hP.c0 rfl 10 (by decide) (hts _ bw_612) (fun _ h9 => h9) rfl dM_withdraw_212 ?_
  refine lv_bipush (v := 16) hx hb dM_withdraw_215 (by decide) ?_
  refine lv_iload hx hb dM_withdraw_217 (lv_at hl 2 rfl) ?_
  refine lv_imul hx hb dM_withdraw_219 ?_
  refine lv_iconst (v := 4) hx hb dM_withdraw_220 (by decide) ?_
  refine lv_iload hx hb dM_withdraw_221 (lv_at hl 1 rfl) ?_
  refine lv_imul hx hb dM_withdraw_223 ?_
  refine lv_iadd hx hb dM_withdraw_224 ?_
  refine lv_iconst (v := 2) hx hb dM_withdraw_225 (by decide) ?_
  refine lv_iadd hx hb dM_withdraw_226 ?_
  refine lv_aload_n hx hb dM_withdraw_227 rfl (lv_at hl 4 rfl) ?_
  refine bm_get (ci := 7) (v := .ref (m + 13)) (C := "BlindMintModel") (T := bt_M) (N := 22) hx hb hts bu_M hown hK hM hP.c0 rfl 17 (by decide) (hts _ bw_619) (fun _ h9 => h9) rfl dM_withdraw_228 ?_
  refine lv_iload hx hb dM_withdraw_231 (lv_at hl 0 rfl) ?_
  refine bm_lald hx hb hK hM 1 hP.c13 rfl (q 3) (bm_ix_nI (by omega)) (by omega) dM_withdraw_233 ?_
  refine lv_topl (fun t53 e_t53 => ?_)
  have e_t53 : t53 = bm_cc seed (q 3) := by rw [e_t53]; exact e13 _ hq6_3
  subst e_t53
  refine bm_last hx hb hK hM hS 1 hP.c8 rfl (16 * (8 * j + k) + 14) (bm_ixp (c := 12) (t := 2) (by decide) (by omega)) (by omega) dM_withdraw_234 (fun H locs hz1 hM hS => ?_)
  have hz := hz1.trans hz
  obtain ⟨M54, hM, hP, hF⟩ : ∃ X, bm_M D base X H ∧ bm_MD ct m 0 tr bl np nd f1 f2 f3 f4 g5 g6 f7 (vp_updL (vp_updL (vp_updL (vp_updL (vp_updL (vp_updL (vp_updL (vp_updL (vp_updL (vp_updL (vp_updL (vp_updL (vp_updL (vp_updL (vp_updL g8 (16 * (8 * j + k) + 0) (bm_ca seed (q 0))) (16 * (8 * j + k) + 1) (bm_cb seed j ch (q 0))) (16 * (8 * j + k) + 2) (bm_cc seed (q 0))) (16 * (8 * j + k) + 3) (bm_ce seed (q 0))) (16 * (8 * j + k) + 4) (bm_ca seed (q 1))) (16 * (8 * j + k) + 5) (bm_cb seed j ch (q 1))) (16 * (8 * j + k) + 6) (bm_cc seed (q 1))) (16 * (8 * j + k) + 7) (bm_ce seed (q 1))) (16 * (8 * j + k) + 8) (bm_ca seed (q 2))) (16 * (8 * j + k) + 9) (bm_cb seed j ch (q 2))) (16 * (8 * j + k) + 10) (bm_cc seed (q 2))) (16 * (8 * j + k) + 11) (bm_ce seed (q 2))) (16 * (8 * j + k) + 12) (bm_ca seed (q 3))) (16 * (8 * j + k) + 13) (bm_cb seed j ch (q 3))) (16 * (8 * j + k) + 14) (bm_cc seed (q 3))) g9 g10 y11 y12 y13 y14 y15 (upd (upd (upd (upd (upd (upd y16 (bm_o1 n) 0) (bm_o2 n) 0) (q 0) (vp_nar .boolean 0)) (q 1) (vp_nar .boolean 0)) (q 2) (vp_nar .boolean 0)) (q 3) (vp_nar .boolean 0)) (vp_updL (vp_updL (vp_updL (vp_updL g17 0 (bm_cp seed j ch (q 0))) 1 (bm_cp seed j ch (q 1))) 2 (bm_cp seed j ch (q 2))) 3 (bm_cp seed j ch (q 3))) X ∧ bm_fr m M X := ⟨_, hM, hP.s8 _, hF.up (by decide)⟩
  refine lv_aload_n hx hb dM_withdraw_235 rfl (lv_at hl 4 rfl) ?_
  refine bm_get (ci := 7) (v := .ref (m + 8)) (C := "BlindMintModel") (T := bt_M) (N := 22) hx hb hts bu_M hown hK hM hP.c0 rfl 10 (by decide) (hts _ bw_612) (fun _ h9 => h9) rfl dM_withdraw_236 ?_
  refine lv_bipush (v := 16) hx hb dM_withdraw_239 (by decide) ?_
  refine lv_iload hx hb dM_withdraw_241 (lv_at hl 2 rfl) ?_
  refine lv_imul hx hb dM_withdraw_243 ?_
  refine lv_iconst (v := 4) hx hb dM_withdraw_244 (by decide) ?_
  refine lv_iload hx hb dM_withdraw_245 (lv_at hl 1 rfl) ?_
  refine lv_imul hx hb dM_withdraw_247 ?_
  refine lv_iadd hx hb dM_withdraw_248 ?_
  refine lv_iconst (v := 3) hx hb dM_withdraw_249 (by decide) ?_
  refine lv_iadd hx hb dM_withdraw_250 ?_
  refine lv_aload_n hx hb dM_withdraw_251 rfl (lv_at hl 4 rfl) ?_
  refine bm_get (ci := 7) (v := .ref (m + 14)) (C := "BlindMintModel") (T := bt_M) (N := 22) hx hb hts bu_M hown hK hM hP.c0 rfl 18 (by decide) (hts _ bw_620) (fun _ h9 => h9) rfl dM_withdraw_252 ?_
  refine lv_iload hx hb dM_withdraw_255 (lv_at hl 0 rfl) ?_
  refine bm_lald hx hb hK hM 1 hP.c14 rfl (q 3) (bm_ix_nI (by omega)) (by omega) dM_withdraw_257 ?_
  refine lv_topl (fun t55 e_t55 => ?_)
  have e_t55 : t55 = bm_ce seed (q 3) := by rw [e_t55]; exact e14 _ hq6_3
  subst e_t55
  refine bm_last hx hb hK hM hS 1 hP.c8 rfl (16 * (8 * j + k) + 15) (bm_ixp (c := 12) (t := 3) (by decide) (by omega)) (by omega) dM_withdraw_258 (fun H locs hz1 hM hS => ?_)
  have hz := hz1.trans hz
  obtain ⟨M56, hM, hP, hF⟩ : ∃ X, bm_M D base X H ∧ bm_MD ct m 0 tr bl np nd f1 f2 f3 f4 g5 g6 f7 (vp_updL (vp_updL (vp_updL (vp_updL (vp_updL (vp_updL (vp_updL (vp_updL (vp_updL (vp_updL (vp_updL (vp_updL (vp_updL (vp_updL (vp_updL (vp_updL g8 (16 * (8 * j + k) + 0) (bm_ca seed (q 0))) (16 * (8 * j + k) + 1) (bm_cb seed j ch (q 0))) (16 * (8 * j + k) + 2) (bm_cc seed (q 0))) (16 * (8 * j + k) + 3) (bm_ce seed (q 0))) (16 * (8 * j + k) + 4) (bm_ca seed (q 1))) (16 * (8 * j + k) + 5) (bm_cb seed j ch (q 1))) (16 * (8 * j + k) + 6) (bm_cc seed (q 1))) (16 * (8 * j + k) + 7) (bm_ce seed (q 1))) (16 * (8 * j + k) + 8) (bm_ca seed (q 2))) (16 * (8 * j + k) + 9) (bm_cb seed j ch (q 2))) (16 * (8 * j + k) + 10) (bm_cc seed (q 2))) (16 * (8 * j + k) + 11) (bm_ce seed (q 2))) (16 * (8 * j + k) + 12) (bm_ca seed (q 3))) (16 * (8 * j + k) + 13) (bm_cb seed j ch (q 3))) (16 * (8 * j + k) + 14) (bm_cc seed (q 3))) (16 * (8 * j + k) + 15) (bm_ce seed (q 3))) g9 g10 y11 y12 y13 y14 y15 (upd (upd (upd (upd (upd (upd y16 (bm_o1 n) 0) (bm_o2 n) 0) (q 0) (vp_nar .boolean 0)) (q 1) (vp_nar .boolean 0)) (q 2) (vp_nar .boolean 0)) (q 3) (vp_nar .boolean 0)) (vp_updL (vp_updL (vp_updL (vp_updL g17 0 (bm_cp seed j ch (q 0))) 1 (bm_cp seed j ch (q 1))) 2 (bm_cp seed j ch (q 2))) 3 (bm_cp seed j ch (q 3))) X ∧ bm_fr m M X := ⟨_, hM, hP.s8 _, hF.up (by decide)⟩
  refine lv_iinc (v := 4) (k := 1) hx hb dM_withdraw_259 hl rfl (by decide) (by decide) rfl (fun ls hl => ?_)
  have hl : lv_has ls 10 [(8, .int 4), (9, .int (nI (q 3))), (7, .int (nI (8 * j + k))), (6, .int (bm_chb ch (bm_o1 n) + bm_chb ch (bm_o2 n))), (0, .ref m), (1, .int (nI j)), (2, .int (nI d)), (3, .long seed), (5, .int ch)] := hl
  refine lv_goto (tgt := 131) hx hb dM_withdraw_262 rfl ?_
  refine lv_iload hx hb dM_withdraw_131 (lv_at hl 0 rfl) ?_
  refine lv_iconst (v := 4) hx hb dM_withdraw_133 (by decide) ?_
  refine lv_icmp_ge (tgt := 265) hx hb dM_withdraw_134 rfl (fun _ => ?_) (fun h => absurd h (by decide))
  refine lv_aload_n hx hb dM_withdraw_265 rfl (lv_at hl 4 rfl) ?_
  refine bm_get (ci := 7) (v := .ref (m + 4)) (C := "BlindMintModel") (T := bt_M) (N := 22) hx hb hts bu_M hown hK hM hP.c0 rfl 6 (by decide) (hts _ bw_608) (fun _ h9 => h9) rfl dM_withdraw_266 ?_
  refine lv_iload hx hb dM_withdraw_269 (lv_at hl 2 rfl) ?_
  refine lv_iload_n hx hb dM_withdraw_271 rfl (lv_at hl 6 rfl) ?_
  refine bm_iast hx hb hK hM hS 0 hP.c4 rfl (8 * j + k) (bm_ix_nI (by omega)) (by omega) dM_withdraw_272 (fun H locs hz1 hM hS => ?_)
  have hz := hz1.trans hz
  obtain ⟨M57, hM, hP, hF⟩ : ∃ X, bm_M D base X H ∧ bm_MD ct m 0 tr bl np nd f1 f2 f3 (upd f4 (8 * j + k) (nI d)) g5 g6 f7 (vp_updL (vp_updL (vp_updL (vp_updL (vp_updL (vp_updL (vp_updL (vp_updL (vp_updL (vp_updL (vp_updL (vp_updL (vp_updL (vp_updL (vp_updL (vp_updL g8 (16 * (8 * j + k) + 0) (bm_ca seed (q 0))) (16 * (8 * j + k) + 1) (bm_cb seed j ch (q 0))) (16 * (8 * j + k) + 2) (bm_cc seed (q 0))) (16 * (8 * j + k) + 3) (bm_ce seed (q 0))) (16 * (8 * j + k) + 4) (bm_ca seed (q 1))) (16 * (8 * j + k) + 5) (bm_cb seed j ch (q 1))) (16 * (8 * j + k) + 6) (bm_cc seed (q 1))) (16 * (8 * j + k) + 7) (bm_ce seed (q 1))) (16 * (8 * j + k) + 8) (bm_ca seed (q 2))) (16 * (8 * j + k) + 9) (bm_cb seed j ch (q 2))) (16 * (8 * j + k) + 10) (bm_cc seed (q 2))) (16 * (8 * j + k) + 11) (bm_ce seed (q 2))) (16 * (8 * j + k) + 12) (bm_ca seed (q 3))) (16 * (8 * j + k) + 13) (bm_cb seed j ch (q 3))) (16 * (8 * j + k) + 14) (bm_cc seed (q 3))) (16 * (8 * j + k) + 15) (bm_ce seed (q 3))) g9 g10 y11 y12 y13 y14 y15 (upd (upd (upd (upd (upd (upd y16 (bm_o1 n) 0) (bm_o2 n) 0) (q 0) (vp_nar .boolean 0)) (q 1) (vp_nar .boolean 0)) (q 2) (vp_nar .boolean 0)) (q 3) (vp_nar .boolean 0)) (vp_updL (vp_updL (vp_updL (vp_updL g17 0 (bm_cp seed j ch (q 0))) 1 (bm_cp seed j ch (q 1))) 2 (bm_cp seed j ch (q 2))) 3 (bm_cp seed j ch (q 3))) X ∧ bm_fr m M X := ⟨_, hM, hP.s4 _, hF.up (by decide)⟩
  refine lv_aload_n hx hb dM_withdraw_273 rfl (lv_at hl 4 rfl) ?_
  refine bm_get (ci := 7) (v := .ref (m + 5)) (C := "BlindMintModel") (T := bt_M) (N := 22) hx hb hts bu_M hown hK hM hP.c0 rfl 7 (by decide) (hts _ bw_609) (fun _ h9 => h9) rfl dM_withdraw_274 ?_
  refine lv_iload hx hb dM_withdraw_277 (lv_at hl 2 rfl) ?_
  refine lv_aload_n hx hb dM_withdraw_279 rfl (lv_at hl 4 rfl) ?_
  refine lv_iload_n hx hb dM_withdraw_280 rfl (lv_at hl 6 rfl) ?_
  refine lv_i2l (v := lN d) hx hb dM_withdraw_281 (nI_l (by omega)) ?_
  refine bm_call (va_runV (As := [.long (lN d)]) (rest := [.int (nI (8 * j + k)), .ref (m + 5)]) ⟨hx, hb, hml, hown, hts⟩ (bc_M_numberOf l D ct base ad M57 sz m 0 tr bl np nd f1 f2 f3 (upd f4 (8 * j + k) (nI d)) g5 g6 f7 (vp_updL (vp_updL (vp_updL (vp_updL (vp_updL (vp_updL (vp_updL (vp_updL (vp_updL (vp_updL (vp_updL (vp_updL (vp_updL (vp_updL (vp_updL (vp_updL g8 (16 * (8 * j + k) + 0) (bm_ca seed (q 0))) (16 * (8 * j + k) + 1) (bm_cb seed j ch (q 0))) (16 * (8 * j + k) + 2) (bm_cc seed (q 0))) (16 * (8 * j + k) + 3) (bm_ce seed (q 0))) (16 * (8 * j + k) + 4) (bm_ca seed (q 1))) (16 * (8 * j + k) + 5) (bm_cb seed j ch (q 1))) (16 * (8 * j + k) + 6) (bm_cc seed (q 1))) (16 * (8 * j + k) + 7) (bm_ce seed (q 1))) (16 * (8 * j + k) + 8) (bm_ca seed (q 2))) (16 * (8 * j + k) + 9) (bm_cb seed j ch (q 2))) (16 * (8 * j + k) + 10) (bm_cc seed (q 2))) (16 * (8 * j + k) + 11) (bm_ce seed (q 2))) (16 * (8 * j + k) + 12) (bm_ca seed (q 3))) (16 * (8 * j + k) + 13) (bm_cb seed j ch (q 3))) (16 * (8 * j + k) + 14) (bm_cc seed (q 3))) (16 * (8 * j + k) + 15) (bm_ce seed (q 3))) g9 g10 y11 y12 y13 y14 y15 (upd (upd (upd (upd (upd (upd y16 (bm_o1 n) 0) (bm_o2 n) 0) (q 0) (vp_nar .boolean 0)) (q 1) (vp_nar .boolean 0)) (q 2) (vp_nar .boolean 0)) (q 3) (vp_nar .boolean 0)) (vp_updL (vp_updL (vp_updL (vp_updL g17 0 (bm_cp seed j ch (q 0))) 1 (bm_cp seed j ch (q 1))) 2 (bm_cp seed j ch (q 2))) 3 (bm_cp seed j ch (q 3))) (lN d) hP) (cwV 1 hts (bm_goodV bw_719 bw_721 bs_14 bw_5 bw_722) rfl rfl rfl (by decide +kernel) (by rw [← hR]; exact ⟨Nat.le_of_ble_eq_true rfl, Nat.le_of_ble_eq_true rfl⟩)) (bm_preV hM hG hS hz hP.c0 rfl) rfl rfl hl.1 rfl (lv_room (Nat.le_of_ble_eq_true rfl)) dM_withdraw_282 (by rw [← hR]; exact ⟨Nat.le_of_ble_eq_true rfl, Nat.le_of_ble_eq_true rfl⟩)) hS (fun v9 M58 H locs hq hM hS _ => ?_)
  obtain ⟨hz, ⟨rfl, hP⟩, hF9⟩ := hq
  have hF := hF.tr hF9
  refine lv_topl (fun t59 e_t59 => ?_)
  have e_t59 : t59 = lN nn := by rw [e_t59]; exact (bm_hc4 (p := fun i => bm_cp seed j ch (q i))).trans hnum
  subst e_t59
  refine bm_last hx hb hK hM hS 1 hP.c5 rfl (8 * j + k) (bm_ix_nI (by omega)) (by omega) dM_withdraw_285 (fun H locs hz1 hM hS => ?_)
  have hz := hz1.trans hz
  obtain ⟨M60, hM, hP, hF⟩ : ∃ X, bm_M D base X H ∧ bm_MD ct m 0 tr bl np nd f1 f2 f3 (upd f4 (8 * j + k) (nI d)) (vp_updL g5 (8 * j + k) (lN nn)) g6 f7 (vp_updL (vp_updL (vp_updL (vp_updL (vp_updL (vp_updL (vp_updL (vp_updL (vp_updL (vp_updL (vp_updL (vp_updL (vp_updL (vp_updL (vp_updL (vp_updL g8 (16 * (8 * j + k) + 0) (bm_ca seed (q 0))) (16 * (8 * j + k) + 1) (bm_cb seed j ch (q 0))) (16 * (8 * j + k) + 2) (bm_cc seed (q 0))) (16 * (8 * j + k) + 3) (bm_ce seed (q 0))) (16 * (8 * j + k) + 4) (bm_ca seed (q 1))) (16 * (8 * j + k) + 5) (bm_cb seed j ch (q 1))) (16 * (8 * j + k) + 6) (bm_cc seed (q 1))) (16 * (8 * j + k) + 7) (bm_ce seed (q 1))) (16 * (8 * j + k) + 8) (bm_ca seed (q 2))) (16 * (8 * j + k) + 9) (bm_cb seed j ch (q 2))) (16 * (8 * j + k) + 10) (bm_cc seed (q 2))) (16 * (8 * j + k) + 11) (bm_ce seed (q 2))) (16 * (8 * j + k) + 12) (bm_ca seed (q 3))) (16 * (8 * j + k) + 13) (bm_cb seed j ch (q 3))) (16 * (8 * j + k) + 14) (bm_cc seed (q 3))) (16 * (8 * j + k) + 15) (bm_ce seed (q 3))) g9 g10 y11 y12 y13 y14 y15 (upd (upd (upd (upd (upd (upd y16 (bm_o1 n) 0) (bm_o2 n) 0) (q 0) (vp_nar .boolean 0)) (q 1) (vp_nar .boolean 0)) (q 2) (vp_nar .boolean 0)) (q 3) (vp_nar .boolean 0)) (vp_updL (vp_updL (vp_updL (vp_updL g17 0 (bm_cp seed j ch (q 0))) 1 (bm_cp seed j ch (q 1))) 2 (bm_cp seed j ch (q 2))) 3 (bm_cp seed j ch (q 3))) X ∧ bm_fr m M X := ⟨_, hM, hP.s5 _, hF.up (by decide)⟩
  refine lv_aload_n hx hb dM_withdraw_286 rfl (lv_at hl 4 rfl) ?_
  refine bm_get (ci := 7) (v := .ref (m + 6)) (C := "BlindMintModel") (T := bt_M) (N := 22) hx hb hts bu_M hown hK hM hP.c0 rfl 8 (by decide) (hts _ bw_610) (fun _ h9 => h9) rfl dM_withdraw_287 ?_
  refine lv_iload hx hb dM_withdraw_290 (lv_at hl 2 rfl) ?_
  refine lv_aload_n hx hb dM_withdraw_292 rfl (lv_at hl 4 rfl) ?_
  refine bm_get (ci := 7) (v := .ref (m + 5)) (C := "BlindMintModel") (T := bt_M) (N := 22) hx hb hts bu_M hown hK hM hP.c0 rfl 7 (by decide) (hts _ bw_609) (fun _ h9 => h9) rfl dM_withdraw_293 ?_
  refine lv_iload hx hb dM_withdraw_296 (lv_at hl 2 rfl) ?_
  refine bm_lald hx hb hK hM 1 hP.c5 rfl (8 * j + k) (bm_ix_nI (by omega)) (by omega) dM_withdraw_298 ?_
  refine lv_topl (fun t61 e_t61 => ?_)
  have e_t61 : t61 = lN nn := by rw [e_t61]; exact pk_uLs
  subst e_t61
  refine lv_iload_n hx hb dM_withdraw_299 rfl (lv_at hl 6 rfl) ?_
  refine bm_callE (va_runS (As := [.long (lN nn), .int (nI d)]) (rest := [.int (nI (8 * j + k)), .ref (m + 6)]) ⟨hx, hb, hml, hown, hts⟩ (bc_M_signed l D ct base ad M60 sz d nn hd (by omega)) (va_cwS 2 hts (bm_goodS bw_723 bw_724 bw_5 bw_725) rfl rfl rfl (by decide +kernel) (by rw [← hR]; exact ⟨Nat.le_of_ble_eq_true rfl, Nat.le_of_ble_eq_true rfl⟩)) (bm_preS hM hG hS hz) rfl rfl hl.1 rfl (lv_room (Nat.le_of_ble_eq_true rfl)) dM_withdraw_300 (by rw [← hR]; exact ⟨Nat.le_of_ble_eq_true rfl, Nat.le_of_ble_eq_true rfl⟩)) hS (fun H locs hz hM hS => ?_)
  refine bm_last hx hb hK hM hS 1 hP.c6 rfl (8 * j + k) (bm_ix_nI (by omega)) (by omega) dM_withdraw_303 (fun H locs hz1 hM hS => ?_)
  have hz := hz1.trans hz
  obtain ⟨M62, hM, hP, hF⟩ : ∃ X, bm_M D base X H ∧ bm_MD ct m 0 tr bl np nd f1 f2 f3 (upd f4 (8 * j + k) (nI d)) (vp_updL g5 (8 * j + k) (lN nn)) (vp_updL g6 (8 * j + k) (lN (bm_sg d nn))) f7 (vp_updL (vp_updL (vp_updL (vp_updL (vp_updL (vp_updL (vp_updL (vp_updL (vp_updL (vp_updL (vp_updL (vp_updL (vp_updL (vp_updL (vp_updL (vp_updL g8 (16 * (8 * j + k) + 0) (bm_ca seed (q 0))) (16 * (8 * j + k) + 1) (bm_cb seed j ch (q 0))) (16 * (8 * j + k) + 2) (bm_cc seed (q 0))) (16 * (8 * j + k) + 3) (bm_ce seed (q 0))) (16 * (8 * j + k) + 4) (bm_ca seed (q 1))) (16 * (8 * j + k) + 5) (bm_cb seed j ch (q 1))) (16 * (8 * j + k) + 6) (bm_cc seed (q 1))) (16 * (8 * j + k) + 7) (bm_ce seed (q 1))) (16 * (8 * j + k) + 8) (bm_ca seed (q 2))) (16 * (8 * j + k) + 9) (bm_cb seed j ch (q 2))) (16 * (8 * j + k) + 10) (bm_cc seed (q 2))) (16 * (8 * j + k) + 11) (bm_ce seed (q 2))) (16 * (8 * j + k) + 12) (bm_ca seed (q 3))) (16 * (8 * j + k) + 13) (bm_cb seed j ch (q 3))) (16 * (8 * j + k) + 14) (bm_cc seed (q 3))) (16 * (8 * j + k) + 15) (bm_ce seed (q 3))) g9 g10 y11 y12 y13 y14 y15 (upd (upd (upd (upd (upd (upd y16 (bm_o1 n) 0) (bm_o2 n) 0) (q 0) (vp_nar .boolean 0)) (q 1) (vp_nar .boolean 0)) (q 2) (vp_nar .boolean 0)) (q 3) (vp_nar .boolean 0)) (vp_updL (vp_updL (vp_updL (vp_updL g17 0 (bm_cp seed j ch (q 0))) 1 (bm_cp seed j ch (q 1))) 2 (bm_cp seed j ch (q 2))) 3 (bm_cp seed j ch (q 3))) X ∧ bm_fr m M X := ⟨_, hM, hP.s6 _, hF.up (by decide)⟩
  refine lv_aload_n hx hb dM_withdraw_304 rfl (lv_at hl 4 rfl) ?_
  refine bm_get (ci := 7) (v := .ref (m + 7)) (C := "BlindMintModel") (T := bt_M) (N := 22) hx hb hts bu_M hown hK hM hP.c0 rfl 9 (by decide) (hts _ bw_611) (fun _ h9 => h9) rfl dM_withdraw_305 ?_
  refine lv_iload hx hb dM_withdraw_308 (lv_at hl 2 rfl) ?_
  refine lv_iconst (v := 0) hx hb dM_withdraw_310 (by decide) ?_
  refine bm_zast hx hb hK hM hS 2 hP.c7 rfl (8 * j + k) (bm_ix_nI (by omega)) (by omega) dM_withdraw_311 (fun H locs hz1 hM hS => ?_)
  have hz := hz1.trans hz
  obtain ⟨M63, hM, hP, hF⟩ : ∃ X, bm_M D base X H ∧ bm_MD ct m 0 tr bl np nd f1 f2 f3 (upd f4 (8 * j + k) (nI d)) (vp_updL g5 (8 * j + k) (lN nn)) (vp_updL g6 (8 * j + k) (lN (bm_sg d nn))) (upd f7 (8 * j + k) (vp_nar .boolean 0)) (vp_updL (vp_updL (vp_updL (vp_updL (vp_updL (vp_updL (vp_updL (vp_updL (vp_updL (vp_updL (vp_updL (vp_updL (vp_updL (vp_updL (vp_updL (vp_updL g8 (16 * (8 * j + k) + 0) (bm_ca seed (q 0))) (16 * (8 * j + k) + 1) (bm_cb seed j ch (q 0))) (16 * (8 * j + k) + 2) (bm_cc seed (q 0))) (16 * (8 * j + k) + 3) (bm_ce seed (q 0))) (16 * (8 * j + k) + 4) (bm_ca seed (q 1))) (16 * (8 * j + k) + 5) (bm_cb seed j ch (q 1))) (16 * (8 * j + k) + 6) (bm_cc seed (q 1))) (16 * (8 * j + k) + 7) (bm_ce seed (q 1))) (16 * (8 * j + k) + 8) (bm_ca seed (q 2))) (16 * (8 * j + k) + 9) (bm_cb seed j ch (q 2))) (16 * (8 * j + k) + 10) (bm_cc seed (q 2))) (16 * (8 * j + k) + 11) (bm_ce seed (q 2))) (16 * (8 * j + k) + 12) (bm_ca seed (q 3))) (16 * (8 * j + k) + 13) (bm_cb seed j ch (q 3))) (16 * (8 * j + k) + 14) (bm_cc seed (q 3))) (16 * (8 * j + k) + 15) (bm_ce seed (q 3))) g9 g10 y11 y12 y13 y14 y15 (upd (upd (upd (upd (upd (upd y16 (bm_o1 n) 0) (bm_o2 n) 0) (q 0) (vp_nar .boolean 0)) (q 1) (vp_nar .boolean 0)) (q 2) (vp_nar .boolean 0)) (q 3) (vp_nar .boolean 0)) (vp_updL (vp_updL (vp_updL (vp_updL g17 0 (bm_cp seed j ch (q 0))) 1 (bm_cp seed j ch (q 1))) 2 (bm_cp seed j ch (q 2))) 3 (bm_cp seed j ch (q 3))) X ∧ bm_fr m M X := ⟨_, hM, hP.s7 _, hF.up (by decide)⟩
  refine lv_aload_n hx hb dM_withdraw_312 rfl (lv_at hl 4 rfl) ?_
  refine lv_aload_n hx hb dM_withdraw_313 rfl (lv_at hl 4 rfl) ?_
  refine bm_get (ci := 7) (v := .ref (m + 5)) (C := "BlindMintModel") (T := bt_M) (N := 22) hx hb hts bu_M hown hK hM hP.c0 rfl 7 (by decide) (hts _ bw_609) (fun _ h9 => h9) rfl dM_withdraw_314 ?_
  refine lv_iload hx hb dM_withdraw_317 (lv_at hl 2 rfl) ?_
  refine bm_lald hx hb hK hM 1 hP.c5 rfl (8 * j + k) (bm_ix_nI (by omega)) (by omega) dM_withdraw_319 ?_
  refine lv_topl (fun t64 e_t64 => ?_)
  have e_t64 : t64 = lN nn := by rw [e_t64]; exact pk_uLs
  subst e_t64
  refine lv_lload_n hx hb dM_withdraw_320 rfl (lv_at hl 7 rfl) ?_
  refine lv_iload_n hx hb dM_withdraw_321 rfl (lv_at hl 6 rfl) ?_
  refine bm_callE (va_runS (As := [.long (lN nn), .long seed, .int (nI d)]) (rest := [.ref m]) ⟨hx, hb, hml, hown, hts⟩ (bc_M_blind l D ct base ad M63 sz d nn r seed hd (by omega) hsd (by omega)) (va_cwS 3 hts (bm_goodS bw_745 bw_746 bw_5 bw_747) rfl rfl rfl (by decide +kernel) (by rw [← hR]; exact ⟨Nat.le_of_ble_eq_true rfl, Nat.le_of_ble_eq_true rfl⟩)) (bm_preS hM hG hS hz) rfl rfl hl.1 rfl (lv_room (Nat.le_of_ble_eq_true rfl)) dM_withdraw_322 (by rw [← hR]; exact ⟨Nat.le_of_ble_eq_true rfl, Nat.le_of_ble_eq_true rfl⟩)) hS (fun H locs hz hM hS => ?_)
  refine bm_put (ci := 7) (v := .long (lN (bm_bn d nn (bm_bf d r)))) (ty := .long) (C := "BlindMintModel") (T := bt_M) (N := 22) hx hb hts bu_M by_M bo_M bn_M hown hK hM hS hP.c0 rfl 4 (by decide) (hts _ bw_606) (fun _ h9 => h9) rfl (by decide +kernel) rfl rfl (Nat.le_of_ble_eq_true rfl) dM_withdraw_325 (fun H locs hz1 hM hS => ?_)
  have hz := hz1.trans hz
  obtain ⟨M65, hM, hP, hF⟩ : ∃ X, bm_M D base X H ∧ bm_MD ct m 0 tr (lN (bm_bn d nn (bm_bf d r))) np nd f1 f2 f3 (upd f4 (8 * j + k) (nI d)) (vp_updL g5 (8 * j + k) (lN nn)) (vp_updL g6 (8 * j + k) (lN (bm_sg d nn))) (upd f7 (8 * j + k) (vp_nar .boolean 0)) (vp_updL (vp_updL (vp_updL (vp_updL (vp_updL (vp_updL (vp_updL (vp_updL (vp_updL (vp_updL (vp_updL (vp_updL (vp_updL (vp_updL (vp_updL (vp_updL g8 (16 * (8 * j + k) + 0) (bm_ca seed (q 0))) (16 * (8 * j + k) + 1) (bm_cb seed j ch (q 0))) (16 * (8 * j + k) + 2) (bm_cc seed (q 0))) (16 * (8 * j + k) + 3) (bm_ce seed (q 0))) (16 * (8 * j + k) + 4) (bm_ca seed (q 1))) (16 * (8 * j + k) + 5) (bm_cb seed j ch (q 1))) (16 * (8 * j + k) + 6) (bm_cc seed (q 1))) (16 * (8 * j + k) + 7) (bm_ce seed (q 1))) (16 * (8 * j + k) + 8) (bm_ca seed (q 2))) (16 * (8 * j + k) + 9) (bm_cb seed j ch (q 2))) (16 * (8 * j + k) + 10) (bm_cc seed (q 2))) (16 * (8 * j + k) + 11) (bm_ce seed (q 2))) (16 * (8 * j + k) + 12) (bm_ca seed (q 3))) (16 * (8 * j + k) + 13) (bm_cb seed j ch (q 3))) (16 * (8 * j + k) + 14) (bm_cc seed (q 3))) (16 * (8 * j + k) + 15) (bm_ce seed (q 3))) g9 g10 y11 y12 y13 y14 y15 (upd (upd (upd (upd (upd (upd y16 (bm_o1 n) 0) (bm_o2 n) 0) (q 0) (vp_nar .boolean 0)) (q 1) (vp_nar .boolean 0)) (q 2) (vp_nar .boolean 0)) (q 3) (vp_nar .boolean 0)) (vp_updL (vp_updL (vp_updL (vp_updL g17 0 (bm_cp seed j ch (q 0))) 1 (bm_cp seed j ch (q 1))) 2 (bm_cp seed j ch (q 2))) 3 (bm_cp seed j ch (q 3))) X ∧ bm_fr m M X := ⟨_, hM, hP.s_bl _, hF.up0⟩
  refine lv_aload_n hx hb dM_withdraw_328 rfl (lv_at hl 4 rfl) ?_
  refine bm_get (ci := 7) (v := .ref (m + 1)) (C := "BlindMintModel") (T := bt_M) (N := 22) hx hb hts bu_M hown hK hM hP.c0 rfl 1 (by decide) (hts _ bw_603) (fun _ h9 => h9) rfl dM_withdraw_329 ?_
  refine lv_iload_n hx hb dM_withdraw_332 rfl (lv_at hl 5 rfl) ?_
  refine lv_dup2_11 hx hb dM_withdraw_333 rfl rfl ?_
  refine bm_iald hx hb hK hM 0 hP.c1 rfl j (bm_ix_nI (by omega)) (by omega) dM_withdraw_334 ?_
  refine lv_iload_n hx hb dM_withdraw_335 rfl (lv_at hl 6 rfl) ?_
  refine bm_callE (va_runS (As := [.int (nI d)]) (rest := [.int (f1 j), .int (nI j), .ref (m + 1)]) ⟨hx, hb, hml, hown, hts⟩ (bc_M_worth l D ct base ad M65 sz d hd) (va_cwS 1 hts (bm_goodS bw_686 bw_687 bw_5 bw_688) rfl rfl rfl (by decide +kernel) (by rw [← hR]; exact ⟨Nat.le_of_ble_eq_true rfl, Nat.le_of_ble_eq_true rfl⟩)) (bm_preS hM hG hS hz) rfl rfl hl.1 rfl (lv_room (Nat.le_of_ble_eq_true rfl)) dM_withdraw_336 (by rw [← hR]; exact ⟨Nat.le_of_ble_eq_true rfl, Nat.le_of_ble_eq_true rfl⟩)) hS (fun H locs hz hM hS => ?_)
  refine lv_isub hx hb dM_withdraw_339 ?_
  refine bm_iast hx hb hK hM hS 0 hP.c1 rfl j (bm_ix_nI (by omega)) (by omega) dM_withdraw_340 (fun H locs hz1 hM hS => ?_)
  have hz := hz1.trans hz
  obtain ⟨M66, hM, hP, hF⟩ : ∃ X, bm_M D base X H ∧ bm_MD ct m 0 tr (lN (bm_bn d nn (bm_bf d r))) np nd (upd f1 j ((f1 j) - (bm_w d))) f2 f3 (upd f4 (8 * j + k) (nI d)) (vp_updL g5 (8 * j + k) (lN nn)) (vp_updL g6 (8 * j + k) (lN (bm_sg d nn))) (upd f7 (8 * j + k) (vp_nar .boolean 0)) (vp_updL (vp_updL (vp_updL (vp_updL (vp_updL (vp_updL (vp_updL (vp_updL (vp_updL (vp_updL (vp_updL (vp_updL (vp_updL (vp_updL (vp_updL (vp_updL g8 (16 * (8 * j + k) + 0) (bm_ca seed (q 0))) (16 * (8 * j + k) + 1) (bm_cb seed j ch (q 0))) (16 * (8 * j + k) + 2) (bm_cc seed (q 0))) (16 * (8 * j + k) + 3) (bm_ce seed (q 0))) (16 * (8 * j + k) + 4) (bm_ca seed (q 1))) (16 * (8 * j + k) + 5) (bm_cb seed j ch (q 1))) (16 * (8 * j + k) + 6) (bm_cc seed (q 1))) (16 * (8 * j + k) + 7) (bm_ce seed (q 1))) (16 * (8 * j + k) + 8) (bm_ca seed (q 2))) (16 * (8 * j + k) + 9) (bm_cb seed j ch (q 2))) (16 * (8 * j + k) + 10) (bm_cc seed (q 2))) (16 * (8 * j + k) + 11) (bm_ce seed (q 2))) (16 * (8 * j + k) + 12) (bm_ca seed (q 3))) (16 * (8 * j + k) + 13) (bm_cb seed j ch (q 3))) (16 * (8 * j + k) + 14) (bm_cc seed (q 3))) (16 * (8 * j + k) + 15) (bm_ce seed (q 3))) g9 g10 y11 y12 y13 y14 y15 (upd (upd (upd (upd (upd (upd y16 (bm_o1 n) 0) (bm_o2 n) 0) (q 0) (vp_nar .boolean 0)) (q 1) (vp_nar .boolean 0)) (q 2) (vp_nar .boolean 0)) (q 3) (vp_nar .boolean 0)) (vp_updL (vp_updL (vp_updL (vp_updL g17 0 (bm_cp seed j ch (q 0))) 1 (bm_cp seed j ch (q 1))) 2 (bm_cp seed j ch (q 2))) 3 (bm_cp seed j ch (q 3))) X ∧ bm_fr m M X := ⟨_, hM, hP.s1 _, hF.up (by decide)⟩
  refine lv_aload_n hx hb dM_withdraw_341 rfl (lv_at hl 4 rfl) ?_
  refine bm_get (ci := 7) (v := .ref (m + 2)) (C := "BlindMintModel") (T := bt_M) (N := 22) hx hb hts bu_M hown hK hM hP.c0 rfl 2 (by decide) (hts _ bw_604) (fun _ h9 => h9) rfl dM_withdraw_342 ?_
  refine lv_iconst (v := 0) hx hb dM_withdraw_345 (by decide) ?_
  refine lv_dup2_11 hx hb dM_withdraw_346 rfl rfl ?_
  refine bm_iald hx hb hK hM 0 hP.c2 rfl 0 (bm_ix_nI (k := 0) (by decide)) (by decide) dM_withdraw_347 ?_
  refine lv_iconst (v := 1) hx hb dM_withdraw_348 (by decide) ?_
  refine lv_iadd hx hb dM_withdraw_349 ?_
  refine bm_iast hx hb hK hM hS 0 hP.c2 rfl 0 (bm_ix_nI (k := 0) (by decide)) (by decide) dM_withdraw_350 (fun H locs hz1 hM hS => ?_)
  have hz := hz1.trans hz
  obtain ⟨M67, hM, hP, hF⟩ : ∃ X, bm_M D base X H ∧ bm_MD ct m 0 tr (lN (bm_bn d nn (bm_bf d r))) np nd (upd f1 j ((f1 j) - (bm_w d))) (upd f2 0 ((f2 0) + 1)) f3 (upd f4 (8 * j + k) (nI d)) (vp_updL g5 (8 * j + k) (lN nn)) (vp_updL g6 (8 * j + k) (lN (bm_sg d nn))) (upd f7 (8 * j + k) (vp_nar .boolean 0)) (vp_updL (vp_updL (vp_updL (vp_updL (vp_updL (vp_updL (vp_updL (vp_updL (vp_updL (vp_updL (vp_updL (vp_updL (vp_updL (vp_updL (vp_updL (vp_updL g8 (16 * (8 * j + k) + 0) (bm_ca seed (q 0))) (16 * (8 * j + k) + 1) (bm_cb seed j ch (q 0))) (16 * (8 * j + k) + 2) (bm_cc seed (q 0))) (16 * (8 * j + k) + 3) (bm_ce seed (q 0))) (16 * (8 * j + k) + 4) (bm_ca seed (q 1))) (16 * (8 * j + k) + 5) (bm_cb seed j ch (q 1))) (16 * (8 * j + k) + 6) (bm_cc seed (q 1))) (16 * (8 * j + k) + 7) (bm_ce seed (q 1))) (16 * (8 * j + k) + 8) (bm_ca seed (q 2))) (16 * (8 * j + k) + 9) (bm_cb seed j ch (q 2))) (16 * (8 * j + k) + 10) (bm_cc seed (q 2))) (16 * (8 * j + k) + 11) (bm_ce seed (q 2))) (16 * (8 * j + k) + 12) (bm_ca seed (q 3))) (16 * (8 * j + k) + 13) (bm_cb seed j ch (q 3))) (16 * (8 * j + k) + 14) (bm_cc seed (q 3))) (16 * (8 * j + k) + 15) (bm_ce seed (q 3))) g9 g10 y11 y12 y13 y14 y15 (upd (upd (upd (upd (upd (upd y16 (bm_o1 n) 0) (bm_o2 n) 0) (q 0) (vp_nar .boolean 0)) (q 1) (vp_nar .boolean 0)) (q 2) (vp_nar .boolean 0)) (q 3) (vp_nar .boolean 0)) (vp_updL (vp_updL (vp_updL (vp_updL g17 0 (bm_cp seed j ch (q 0))) 1 (bm_cp seed j ch (q 1))) 2 (bm_cp seed j ch (q 2))) 3 (bm_cp seed j ch (q 3))) X ∧ bm_fr m M X := ⟨_, hM, hP.s2 _, hF.up (by decide)⟩
  refine lv_aload_n hx hb dM_withdraw_351 rfl (lv_at hl 4 rfl) ?_
  refine bm_get (ci := 7) (v := .ref (m + 3)) (C := "BlindMintModel") (T := bt_M) (N := 22) hx hb hts bu_M hown hK hM hP.c0 rfl 5 (by decide) (hts _ bw_607) (fun _ h9 => h9) rfl dM_withdraw_352 ?_
  refine lv_iload_n hx hb dM_withdraw_355 rfl (lv_at hl 5 rfl) ?_
  refine lv_dup2_11 hx hb dM_withdraw_356 rfl rfl ?_
  refine bm_iald hx hb hK hM 0 hP.c3 rfl j (bm_ix_nI (by omega)) (by omega) dM_withdraw_357 ?_
  refine lv_iconst (v := 1) hx hb dM_withdraw_358 (by decide) ?_
  refine lv_iadd hx hb dM_withdraw_359 ?_
  refine bm_iast hx hb hK hM hS 0 hP.c3 rfl j (bm_ix_nI (by omega)) (by omega) dM_withdraw_360 (fun H locs hz1 hM hS => ?_)
  have hz := hz1.trans hz
  obtain ⟨M68, hM, hP, hF⟩ : ∃ X, bm_M D base X H ∧ bm_MD ct m 0 tr (lN (bm_bn d nn (bm_bf d r))) np nd (upd f1 j ((f1 j) - (bm_w d))) (upd f2 0 ((f2 0) + 1)) (upd f3 j ((f3 j) + 1)) (upd f4 (8 * j + k) (nI d)) (vp_updL g5 (8 * j + k) (lN nn)) (vp_updL g6 (8 * j + k) (lN (bm_sg d nn))) (upd f7 (8 * j + k) (vp_nar .boolean 0)) (vp_updL (vp_updL (vp_updL (vp_updL (vp_updL (vp_updL (vp_updL (vp_updL (vp_updL (vp_updL (vp_updL (vp_updL (vp_updL (vp_updL (vp_updL (vp_updL g8 (16 * (8 * j + k) + 0) (bm_ca seed (q 0))) (16 * (8 * j + k) + 1) (bm_cb seed j ch (q 0))) (16 * (8 * j + k) + 2) (bm_cc seed (q 0))) (16 * (8 * j + k) + 3) (bm_ce seed (q 0))) (16 * (8 * j + k) + 4) (bm_ca seed (q 1))) (16 * (8 * j + k) + 5) (bm_cb seed j ch (q 1))) (16 * (8 * j + k) + 6) (bm_cc seed (q 1))) (16 * (8 * j + k) + 7) (bm_ce seed (q 1))) (16 * (8 * j + k) + 8) (bm_ca seed (q 2))) (16 * (8 * j + k) + 9) (bm_cb seed j ch (q 2))) (16 * (8 * j + k) + 10) (bm_cc seed (q 2))) (16 * (8 * j + k) + 11) (bm_ce seed (q 2))) (16 * (8 * j + k) + 12) (bm_ca seed (q 3))) (16 * (8 * j + k) + 13) (bm_cb seed j ch (q 3))) (16 * (8 * j + k) + 14) (bm_cc seed (q 3))) (16 * (8 * j + k) + 15) (bm_ce seed (q 3))) g9 g10 y11 y12 y13 y14 y15 (upd (upd (upd (upd (upd (upd y16 (bm_o1 n) 0) (bm_o2 n) 0) (q 0) (vp_nar .boolean 0)) (q 1) (vp_nar .boolean 0)) (q 2) (vp_nar .boolean 0)) (q 3) (vp_nar .boolean 0)) (vp_updL (vp_updL (vp_updL (vp_updL g17 0 (bm_cp seed j ch (q 0))) 1 (bm_cp seed j ch (q 1))) 2 (bm_cp seed j ch (q 2))) 3 (bm_cp seed j ch (q 3))) X ∧ bm_fr m M X := ⟨_, hM, hP.s3 _, hF.up (by decide)⟩
  refine lv_aload_n hx hb dM_withdraw_361 rfl (lv_at hl 4 rfl) ?_
  refine bm_get (ci := 7) (v := .ref (m + 3)) (C := "BlindMintModel") (T := bt_M) (N := 22) hx hb hts bu_M hown hK hM hP.c0 rfl 5 (by decide) (hts _ bw_607) (fun _ h9 => h9) rfl dM_withdraw_362 ?_
  refine lv_iload_n hx hb dM_withdraw_365 rfl (lv_at hl 5 rfl) ?_
  refine bm_iald hx hb hK hM 0 hP.c3 rfl j (bm_ix_nI (by omega)) (by omega) dM_withdraw_366 ?_
  refine lv_iconst (v := 1) hx hb dM_withdraw_367 (by decide) ?_
  refine lv_isub hx hb dM_withdraw_368 ?_
  refine lv_topi (fun t69 e_t69 => ?_)
  have e_t69 : t69 = nI k := by rw [e_t69]; rw [pk_us, bm_sub1]; exact hk8
  subst e_t69
  exact bm_iret hQ hx hb hr hlk hM hS ⟨hz, ⟨rfl, _, _, _, _, _, _, _, _, hP, bm_crw, bm_crk⟩, hF⟩ (Nat.le_refl _) (Nat.le_refl _) dM_withdraw_369
