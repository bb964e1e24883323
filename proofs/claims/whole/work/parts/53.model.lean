set_option maxHeartbeats 4000000 in
set_option maxRecDepth 100000 in
theorem bc_M_balance_n (l : Launch) (D : va_G) (ct : Nat → ClassId) (base : Nat) (ad : Nat → Nat) (M : bm_Map) (sz : Nat) (m : Nat) (th : Int32) (tr : Int32) (bl : Int64) (np : Int32) (nd : Int32) (f1 : Nat → Int32) (f2 : Nat → Int32) (f3 : Nat → Int32) (f4 : Nat → Int32) (g5 : Nat → Int64) (g6 : Nat → Int64) (f7 : Nat → Int32) (g8 : Nat → Int64) (g9 : Nat → Int64) (g10 : Nat → Int64) (g11 : Nat → Int64) (g12 : Nat → Int64) (g13 : Nat → Int64) (g14 : Nat → Int64) (g15 : Nat → Int64) (f16 : Nat → Int32) (g17 : Nat → Int64) (v : Int32) (hP : bm_MD ct m th tr bl np nd f1 f2 f3 f4 g5 g6 f7 g8 g9 g10 g11 g12 g13 g14 g15 f16 g17 M) (hv : bm_bl v 4 = 0) : Met l yM_balance (bm_ws yM_balance cM_balance 2 (some .int)) { frames := 1, cells := 0, slots := 0, locals := 21 } (bm_Pre D ct base ad M sz [.ref m, .int v]) (bm_Post D base (bm_Pm m M sz (fun v M1 => v = some (.int 0) ∧ bm_MD ct m 1 tr bl np nd f1 f2 f3 f4 g5 g6 f7 g8 g9 g10 g11 g12 g13 g14 g15 f16 g17 M1))) 0 0 (bm_A base) := by
  refine bm_ofB (cc := cM_balance) (maxL := 2) (ret := (some .int)) (by decide +kernel) (Nat.le_of_ble_eq_true rfl) ?_
  intro vp ve s vm args below meth vc hx hb hr hlk hts hown hml hnm ls hl hz hM hG R Q hR hQ
  have hown : s.vm.findClass "BlindMintModel" = some vm.cls := hown
  have hK := hG.K
  have hS : va_S (bm_A base) s.heap s.heap [] := va_S.rf
  have hl : lv_has ls 2 [(0, .ref m), (1, .int v)] := hl
  have hF : bm_fr m M M := bm_fr.rf
  refine lv_aload_n hx hb dM_balance_0 rfl (lv_at hl 0 rfl) ?_
  refine lv_iconst (v := 0) hx hb dM_balance_1 (by decide) ?_
  refine bm_put (ci := 7) (v := .int 0) (ty := .int) (C := "BlindMintModel") (T := bt_M) (N := 22) hx hb hts bu_M by_M bo_M bn_M hown hK hM hS hP.c0 rfl 0 (by decide) (hts _ bw_602) (fun _ h9 => h9) rfl (by decide +kernel) rfl rfl (Nat.le_of_ble_eq_true rfl) dM_balance_2 (fun H locs hz1 hM hS => ?_)
  have hz := hz1.trans hz
  obtain ⟨M1, hM, hP, hF⟩ : ∃ X, bm_M D base X H ∧ bm_MD ct m 0 tr bl np nd f1 f2 f3 f4 g5 g6 f7 g8 g9 g10 g11 g12 g13 g14 g15 f16 g17 X ∧ bm_fr m M X := ⟨_, hM, hP.s_th _, hF.up0⟩
  refine lv_iload_n hx hb dM_balance_5 rfl (lv_at hl 1 rfl) ?_
  refine lv_iconst (v := 4) hx hb dM_balance_6 (by decide) ?_
  refine bm_callE (va_runS (As := [.int v, .int 4]) (rest := []) ⟨hx, hb, hml, hown, hts⟩ (bc_M_below l D ct base ad M1 sz v 4) (va_cwS 2 hts (bm_goodS bw_679 bw_680 bw_5 bw_681) rfl rfl rfl (by decide +kernel) (by rw [← hR]; exact ⟨Nat.le_of_ble_eq_true rfl, Nat.le_of_ble_eq_true rfl⟩)) (bm_preS hM hG hS hz) rfl rfl hl.1 rfl (lv_room (Nat.le_of_ble_eq_true rfl)) dM_balance_7 (by rw [← hR]; exact ⟨Nat.le_of_ble_eq_true rfl, Nat.le_of_ble_eq_true rfl⟩)) hS (fun H locs hz hM hS => ?_)
  refine lv_if_eq (tgt := 22) hx hb dM_balance_10 rfl (fun h10 => ?_) (fun h10 => absurd hv h10)
  refine lv_aload_n hx hb dM_balance_22 rfl (lv_at hl 0 rfl) ?_
  refine lv_iconst (v := 1) hx hb dM_balance_23 (by decide) ?_
  refine bm_call (va_runV (As := [.int 1]) (rest := []) ⟨hx, hb, hml, hown, hts⟩ (bc_M_fail l D ct base ad M1 sz m 0 tr bl np nd f1 f2 f3 f4 g5 g6 f7 g8 g9 g10 g11 g12 g13 g14 g15 f16 g17 1 hP) (cwV 1 hts (bm_goodV bw_682 bw_684 bs_10 bw_5 bw_685) rfl rfl rfl (by decide +kernel) (by rw [← hR]; exact ⟨Nat.le_of_ble_eq_true rfl, Nat.le_of_ble_eq_true rfl⟩)) (bm_preV hM hG hS hz hP.c0 rfl) rfl rfl hl.1 rfl (lv_room (Nat.le_of_ble_eq_true rfl)) dM_balance_24 (by rw [← hR]; exact ⟨Nat.le_of_ble_eq_true rfl, Nat.le_of_ble_eq_true rfl⟩)) hS (fun v9 M2 H locs hq hM hS _ => ?_)
  obtain ⟨hz, ⟨rfl, hP⟩, hF9⟩ := hq
  have hF := hF.tr hF9
  exact bm_iret hQ hx hb hr hlk hM hS ⟨hz, ⟨rfl, hP⟩, hF⟩ (Nat.le_refl _) (Nat.le_refl _) dM_balance_27
set_option maxHeartbeats 4000000 in
set_option maxRecDepth 100000 in
theorem bc_M_balance_ok (l : Launch) (D : va_G) (ct : Nat → ClassId) (base : Nat) (ad : Nat → Nat) (M : bm_Map) (sz : Nat) (m : Nat) (th : Int32) (tr : Int32) (bl : Int64) (np : Int32) (nd : Int32) (f1 : Nat → Int32) (f2 : Nat → Int32) (f3 : Nat → Int32) (f4 : Nat → Int32) (g5 : Nat → Int64) (g6 : Nat → Int64) (f7 : Nat → Int32) (g8 : Nat → Int64) (g9 : Nat → Int64) (g10 : Nat → Int64) (g11 : Nat → Int64) (g12 : Nat → Int64) (g13 : Nat → Int64) (g14 : Nat → Int64) (g15 : Nat → Int64) (f16 : Nat → Int32) (g17 : Nat → Int64) (j : Nat) (hP : bm_MD ct m th tr bl np nd f1 f2 f3 f4 g5 g6 f7 g8 g9 g10 g11 g12 g13 g14 g15 f16 g17 M) (hj : j < 4) : Met l yM_balance (bm_ws yM_balance cM_balance 2 (some .int)) { frames := 1, cells := 0, slots := 0, locals := 21 } (bm_Pre D ct base ad M sz [.ref m, .int (nI j)]) (bm_Post D base (bm_Pm m M sz (fun v M1 => v = some (.int (f1 j)) ∧ bm_MD ct m 0 tr bl np nd f1 f2 f3 f4 g5 g6 f7 g8 g9 g10 g11 g12 g13 g14 g15 f16 g17 M1))) 0 0 (bm_A base) := by
  refine bm_ofB (cc := cM_balance) (maxL := 2) (ret := (some .int)) (by decide +kernel) (Nat.le_of_ble_eq_true rfl) ?_
  intro vp ve s vm args below meth vc hx hb hr hlk hts hown hml hnm ls hl hz hM hG R Q hR hQ
  have hown : s.vm.findClass "BlindMintModel" = some vm.cls := hown
  have hK := hG.K
  have hS : va_S (bm_A base) s.heap s.heap [] := va_S.rf
  have hl : lv_has ls 2 [(0, .ref m), (1, .int (nI j))] := hl
  have hF : bm_fr m M M := bm_fr.rf
  refine lv_aload_n hx hb dM_balance_0 rfl (lv_at hl 0 rfl) ?_
  refine lv_iconst (v := 0) hx hb dM_balance_1 (by decide) ?_
  refine bm_put (ci := 7) (v := .int 0) (ty := .int) (C := "BlindMintModel") (T := bt_M) (N := 22) hx hb hts bu_M by_M bo_M bn_M hown hK hM hS hP.c0 rfl 0 (by decide) (hts _ bw_602) (fun _ h9 => h9) rfl (by decide +kernel) rfl rfl (Nat.le_of_ble_eq_true rfl) dM_balance_2 (fun H locs hz1 hM hS => ?_)
  have hz := hz1.trans hz
  obtain ⟨M1, hM, hP, hF⟩ : ∃ X, bm_M D base X H ∧ bm_MD ct m 0 tr bl np nd f1 f2 f3 f4 g5 g6 f7 g8 g9 g10 g11 g12 g13 g14 g15 f16 g17 X ∧ bm_fr m M X := ⟨_, hM, hP.s_th _, hF.up0⟩
  refine lv_iload_n hx hb dM_balance_5 rfl (lv_at hl 1 rfl) ?_
  refine lv_iconst (v := 4) hx hb dM_balance_6 (by decide) ?_
  refine bm_callE (va_runS (As := [.int (nI j), .int 4]) (rest := []) ⟨hx, hb, hml, hown, hts⟩ (bc_M_below l D ct base ad M1 sz (nI j) 4) (va_cwS 2 hts (bm_goodS bw_679 bw_680 bw_5 bw_681) rfl rfl rfl (by decide +kernel) (by rw [← hR]; exact ⟨Nat.le_of_ble_eq_true rfl, Nat.le_of_ble_eq_true rfl⟩)) (bm_preS hM hG hS hz) rfl rfl hl.1 rfl (lv_room (Nat.le_of_ble_eq_true rfl)) dM_balance_7 (by rw [← hR]; exact ⟨Nat.le_of_ble_eq_true rfl, Nat.le_of_ble_eq_true rfl⟩)) hS (fun H locs hz hM hS => ?_)
  refine lv_if_eq (tgt := 22) hx hb dM_balance_10 rfl (fun h10 => absurd h10 (by rw [show bm_bl (nI j) 4 = 1 from (bm_bl_nI (N := 4) hj (by decide))]; decide)) (fun h10 => ?_)
  refine lv_aload_n hx hb dM_balance_13 rfl (lv_at hl 0 rfl) ?_
  refine bm_get (ci := 7) (v := .ref (m + 1)) (C := "BlindMintModel") (T := bt_M) (N := 22) hx hb hts bu_M hown hK hM hP.c0 rfl 1 (by decide) (hts _ bw_603) (fun _ h9 => h9) rfl dM_balance_14 ?_
  refine lv_iload_n hx hb dM_balance_17 rfl (lv_at hl 1 rfl) ?_
  refine bm_iald hx hb hK hM 0 hP.c1 rfl j (bm_ix_nI (by omega)) (by omega) dM_balance_18 ?_
  refine lv_goto (tgt := 27) hx hb dM_balance_19 rfl ?_
  exact bm_iret hQ hx hb hr hlk hM hS ⟨hz, ⟨rfl, hP⟩, hF⟩ (Nat.le_refl _) (Nat.le_refl _) dM_balance_27
set_option maxHeartbeats 4000000 in
set_option maxRecDepth 100000 in
theorem bc_M_coins_n (l : Launch) (D : va_G) (ct : Nat → ClassId) (base : Nat) (ad : Nat → Nat) (M : bm_Map) (sz : Nat) (m : Nat) (th : Int32) (tr : Int32) (bl : Int64) (np : Int32) (nd : Int32) (f1 : Nat → Int32) (f2 : Nat → Int32) (f3 : Nat → Int32) (f4 : Nat → Int32) (g5 : Nat → Int64) (g6 : Nat → Int64) (f7 : Nat → Int32) (g8 : Nat → Int64) (g9 : Nat → Int64) (g10 : Nat → Int64) (g11 : Nat → Int64) (g12 : Nat → Int64) (g13 : Nat → Int64) (g14 : Nat → Int64) (g15 : Nat → Int64) (f16 : Nat → Int32) (g17 : Nat → Int64) (v : Int32) (hP : bm_MD ct m th tr bl np nd f1 f2 f3 f4 g5 g6 f7 g8 g9 g10 g11 g12 g13 g14 g15 f16 g17 M) (hv : bm_bl v 4 = 0) : Met l yM_coins (bm_ws yM_coins cM_coins 2 (some .int)) { frames := 1, cells := 0, slots := 0, locals := 21 } (bm_Pre D ct base ad M sz [.ref m, .int v]) (bm_Post D base (bm_Pm m M sz (fun v M1 => v = some (.int (-1)) ∧ bm_MD ct m 0 tr bl np nd f1 f2 f3 f4 g5 g6 f7 g8 g9 g10 g11 g12 g13 g14 g15 f16 g17 M1))) 0 0 (bm_A base) := by
  refine bm_ofB (cc := cM_coins) (maxL := 2) (ret := (some .int)) (by decide +kernel) (Nat.le_of_ble_eq_true rfl) ?_
  intro vp ve s vm args below meth vc hx hb hr hlk hts hown hml hnm ls hl hz hM hG R Q hR hQ
  have hown : s.vm.findClass "BlindMintModel" = some vm.cls := hown
  have hK := hG.K
  have hS : va_S (bm_A base) s.heap s.heap [] := va_S.rf
  have hl : lv_has ls 2 [(0, .ref m), (1, .int v)] := hl
  have hF : bm_fr m M M := bm_fr.rf
  refine lv_aload_n hx hb dM_coins_0 rfl (lv_at hl 0 rfl) ?_
  refine lv_iconst (v := 0) hx hb dM_coins_1 (by decide) ?_
  refine bm_put (ci := 7) (v := .int 0) (ty := .int) (C := "BlindMintModel") (T := bt_M) (N := 22) hx hb hts bu_M by_M bo_M bn_M hown hK hM hS hP.c0 rfl 0 (by decide) (hts _ bw_602) (fun _ h9 => h9) rfl (by decide +kernel) rfl rfl (Nat.le_of_ble_eq_true rfl) dM_coins_2 (fun H locs hz1 hM hS => ?_)
  have hz := hz1.trans hz
  obtain ⟨M1, hM, hP, hF⟩ : ∃ X, bm_M D base X H ∧ bm_MD ct m 0 tr bl np nd f1 f2 f3 f4 g5 g6 f7 g8 g9 g10 g11 g12 g13 g14 g15 f16 g17 X ∧ bm_fr m M X := ⟨_, hM, hP.s_th _, hF.up0⟩
  refine lv_iload_n hx hb dM_coins_5 rfl (lv_at hl 1 rfl) ?_
  refine lv_iconst (v := 4) hx hb dM_coins_6 (by decide) ?_
  refine bm_callE (va_runS (As := [.int v, .int 4]) (rest := []) ⟨hx, hb, hml, hown, hts⟩ (bc_M_below l D ct base ad M1 sz v 4) (va_cwS 2 hts (bm_goodS bw_679 bw_680 bw_5 bw_681) rfl rfl rfl (by decide +kernel) (by rw [← hR]; exact ⟨Nat.le_of_ble_eq_true rfl, Nat.le_of_ble_eq_true rfl⟩)) (bm_preS hM hG hS hz) rfl rfl hl.1 rfl (lv_room (Nat.le_of_ble_eq_true rfl)) dM_coins_7 (by rw [← hR]; exact ⟨Nat.le_of_ble_eq_true rfl, Nat.le_of_ble_eq_true rfl⟩)) hS (fun H locs hz hM hS => ?_)
  refine lv_if_eq (tgt := 22) hx hb dM_coins_10 rfl (fun h10 => ?_) (fun h10 => absurd hv h10)
  refine lv_iconst (v := (-1)) hx hb dM_coins_22 (by decide) ?_
  exact bm_iret hQ hx hb hr hlk hM hS ⟨hz, ⟨rfl, hP⟩, hF⟩ (Nat.le_refl _) (Nat.le_refl _) dM_coins_23
set_option maxHeartbeats 4000000 in
set_option maxRecDepth 100000 in
theorem bc_M_coins_ok (l : Launch) (D : va_G) (ct : Nat → ClassId) (base : Nat) (ad : Nat → Nat) (M : bm_Map) (sz : Nat) (m : Nat) (th : Int32) (tr : Int32) (bl : Int64) (np : Int32) (nd : Int32) (f1 : Nat → Int32) (f2 : Nat → Int32) (f3 : Nat → Int32) (f4 : Nat → Int32) (g5 : Nat → Int64) (g6 : Nat → Int64) (f7 : Nat → Int32) (g8 : Nat → Int64) (g9 : Nat → Int64) (g10 : Nat → Int64) (g11 : Nat → Int64) (g12 : Nat → Int64) (g13 : Nat → Int64) (g14 : Nat → Int64) (g15 : Nat → Int64) (f16 : Nat → Int32) (g17 : Nat → Int64) (j : Nat) (hP : bm_MD ct m th tr bl np nd f1 f2 f3 f4 g5 g6 f7 g8 g9 g10 g11 g12 g13 g14 g15 f16 g17 M) (hj : j < 4) : Met l yM_coins (bm_ws yM_coins cM_coins 2 (some .int)) { frames := 1, cells := 0, slots := 0, locals := 21 } (bm_Pre D ct base ad M sz [.ref m, .int (nI j)]) (bm_Post D base (bm_Pm m M sz (fun v M1 => v = some (.int (f3 j)) ∧ bm_MD ct m 0 tr bl np nd f1 f2 f3 f4 g5 g6 f7 g8 g9 g10 g11 g12 g13 g14 g15 f16 g17 M1))) 0 0 (bm_A base) := by
  refine bm_ofB (cc := cM_coins) (maxL := 2) (ret := (some .int)) (by decide +kernel) (Nat.le_of_ble_eq_true rfl) ?_
  intro vp ve s vm args below meth vc hx hb hr hlk hts hown hml hnm ls hl hz hM hG R Q hR hQ
  have hown : s.vm.findClass "BlindMintModel" = some vm.cls := hown
  have hK := hG.K
  have hS : va_S (bm_A base) s.heap s.heap [] := va_S.rf
  have hl : lv_has ls 2 [(0, .ref m), (1, .int (nI j))] := hl
  have hF : bm_fr m M M := bm_fr.rf
  refine lv_aload_n hx hb dM_coins_0 rfl (lv_at hl 0 rfl) ?_
  refine lv_iconst (v := 0) hx hb dM_coins_1 (by decide) ?_
  refine bm_put (ci := 7) (v := .int 0) (ty := .int) (C := "BlindMintModel") (T := bt_M) (N := 22) hx hb hts bu_M by_M bo_M bn_M hown hK hM hS hP.c0 rfl 0 (by decide) (hts _ bw_602) (fun _ h9 => h9) rfl (by decide +kernel) rfl rfl (Nat.le_of_ble_eq_true rfl) dM_coins_2 (fun H locs hz1 hM hS => ?_)
  have hz := hz1.trans hz
  obtain ⟨M1, hM, hP, hF⟩ : ∃ X, bm_M D base X H ∧ bm_MD ct m 0 tr bl np nd f1 f2 f3 f4 g5 g6 f7 g8 g9 g10 g11 g12 g13 g14 g15 f16 g17 X ∧ bm_fr m M X := ⟨_, hM, hP.s_th _, hF.up0⟩
  refine lv_iload_n hx hb dM_coins_5 rfl (lv_at hl 1 rfl) ?_
  refine lv_iconst (v := 4) hx hb dM_coins_6 (by decide) ?_
  refine bm_callE (va_runS (As := [.int (nI j), .int 4]) (rest := []) ⟨hx, hb, hml, hown, hts⟩ (bc_M_below l D ct base ad M1 sz (nI j) 4) (va_cwS 2 hts (bm_goodS bw_679 bw_680 bw_5 bw_681) rfl rfl rfl (by decide +kernel) (by rw [← hR]; exact ⟨Nat.le_of_ble_eq_true rfl, Nat.le_of_ble_eq_true rfl⟩)) (bm_preS hM hG hS hz) rfl rfl hl.1 rfl (lv_room (Nat.le_of_ble_eq_true rfl)) dM_coins_7 (by rw [← hR]; exact ⟨Nat.le_of_ble_eq_true rfl, Nat.le_of_ble_eq_true rfl⟩)) hS (fun H locs hz hM hS => ?_)
  refine lv_if_eq (tgt := 22) hx hb dM_coins_10 rfl (fun h10 => absurd h10 (by rw [show bm_bl (nI j) 4 = 1 from (bm_bl_nI (N := 4) hj (by decide))]; decide)) (fun h10 => ?_)
  refine lv_aload_n hx hb dM_coins_13 rfl (lv_at hl 0 rfl) ?_
  refine bm_get (ci := 7) (v := .ref (m + 3)) (C := "BlindMintModel") (T := bt_M) (N := 22) hx hb hts bu_M hown hK hM hP.c0 rfl 5 (by decide) (hts _ bw_607) (fun _ h9 => h9) rfl dM_coins_14 ?_
  refine lv_iload_n hx hb dM_coins_17 rfl (lv_at hl 1 rfl) ?_
  refine bm_iald hx hb hK hM 0 hP.c3 rfl j (bm_ix_nI (by omega)) (by omega) dM_coins_18 ?_
  refine lv_goto (tgt := 23) hx hb dM_coins_19 rfl ?_
  exact bm_iret hQ hx hb hr hlk hM hS ⟨hz, ⟨rfl, hP⟩, hF⟩ (Nat.le_refl _) (Nat.le_refl _) dM_coins_23
set_option maxHeartbeats 4000000 in
set_option maxRecDepth 100000 in
theorem bc_M_count_n (l : Launch) (D : va_G) (ct : Nat → ClassId) (base : Nat) (ad : Nat → Nat) (M : bm_Map) (sz : Nat) (m : Nat) (th : Int32) (tr : Int32) (bl : Int64) (np : Int32) (nd : Int32) (f1 : Nat → Int32) (f2 : Nat → Int32) (f3 : Nat → Int32) (f4 : Nat → Int32) (g5 : Nat → Int64) (g6 : Nat → Int64) (f7 : Nat → Int32) (g8 : Nat → Int64) (g9 : Nat → Int64) (g10 : Nat → Int64) (g11 : Nat → Int64) (g12 : Nat → Int64) (g13 : Nat → Int64) (g14 : Nat → Int64) (g15 : Nat → Int64) (f16 : Nat → Int32) (g17 : Nat → Int64) (v : Int32) (hP : bm_MD ct m th tr bl np nd f1 f2 f3 f4 g5 g6 f7 g8 g9 g10 g11 g12 g13 g14 g15 f16 g17 M) (hv : bm_bl v 4 = 0) : Met l yM_count (bm_ws yM_count cM_count 2 (some .int)) { frames := 1, cells := 0, slots := 0, locals := 21 } (bm_Pre D ct base ad M sz [.ref m, .int v]) (bm_Post D base (bm_Pm m M sz (fun v M1 => v = some (.int (-1)) ∧ bm_MD ct m 0 tr bl np nd f1 f2 f3 f4 g5 g6 f7 g8 g9 g10 g11 g12 g13 g14 g15 f16 g17 M1))) 0 0 (bm_A base) := by
  refine bm_ofB (cc := cM_count) (maxL := 2) (ret := (some .int)) (by decide +kernel) (Nat.le_of_ble_eq_true rfl) ?_
  intro vp ve s vm args below meth vc hx hb hr hlk hts hown hml hnm ls hl hz hM hG R Q hR hQ
  have hown : s.vm.findClass "BlindMintModel" = some vm.cls := hown
  have hK := hG.K
  have hS : va_S (bm_A base) s.heap s.heap [] := va_S.rf
  have hl : lv_has ls 2 [(0, .ref m), (1, .int v)] := hl
  have hF : bm_fr m M M := bm_fr.rf
  refine lv_aload_n hx hb dM_count_0 rfl (lv_at hl 0 rfl) ?_
  refine lv_iconst (v := 0) hx hb dM_count_1 (by decide) ?_
  refine bm_put (ci := 7) (v := .int 0) (ty := .int) (C := "BlindMintModel") (T := bt_M) (N := 22) hx hb hts bu_M by_M bo_M bn_M hown hK hM hS hP.c0 rfl 0 (by decide) (hts _ bw_602) (fun _ h9 => h9) rfl (by decide +kernel) rfl rfl (Nat.le_of_ble_eq_true rfl) dM_count_2 (fun H locs hz1 hM hS => ?_)
  have hz := hz1.trans hz
  obtain ⟨M1, hM, hP, hF⟩ : ∃ X, bm_M D base X H ∧ bm_MD ct m 0 tr bl np nd f1 f2 f3 f4 g5 g6 f7 g8 g9 g10 g11 g12 g13 g14 g15 f16 g17 X ∧ bm_fr m M X := ⟨_, hM, hP.s_th _, hF.up0⟩
  refine lv_iload_n hx hb dM_count_5 rfl (lv_at hl 1 rfl) ?_
  refine lv_iconst (v := 4) hx hb dM_count_6 (by decide) ?_
  refine bm_callE (va_runS (As := [.int v, .int 4]) (rest := []) ⟨hx, hb, hml, hown, hts⟩ (bc_M_below l D ct base ad M1 sz v 4) (va_cwS 2 hts (bm_goodS bw_679 bw_680 bw_5 bw_681) rfl rfl rfl (by decide +kernel) (by rw [← hR]; exact ⟨Nat.le_of_ble_eq_true rfl, Nat.le_of_ble_eq_true rfl⟩)) (bm_preS hM hG hS hz) rfl rfl hl.1 rfl (lv_room (Nat.le_of_ble_eq_true rfl)) dM_count_7 (by rw [← hR]; exact ⟨Nat.le_of_ble_eq_true rfl, Nat.le_of_ble_eq_true rfl⟩)) hS (fun H locs hz hM hS => ?_)
  refine lv_if_eq (tgt := 22) hx hb dM_count_10 rfl (fun h10 => ?_) (fun h10 => absurd hv h10)
  refine lv_iconst (v := (-1)) hx hb dM_count_22 (by decide) ?_
  exact bm_iret hQ hx hb hr hlk hM hS ⟨hz, ⟨rfl, hP⟩, hF⟩ (Nat.le_refl _) (Nat.le_refl _) dM_count_23
set_option maxHeartbeats 4000000 in
set_option maxRecDepth 100000 in
theorem bc_M_count_ok (l : Launch) (D : va_G) (ct : Nat → ClassId) (base : Nat) (ad : Nat → Nat) (M : bm_Map) (sz : Nat) (m : Nat) (th : Int32) (tr : Int32) (bl : Int64) (np : Int32) (nd : Int32) (f1 : Nat → Int32) (f2 : Nat → Int32) (f3 : Nat → Int32) (f4 : Nat → Int32) (g5 : Nat → Int64) (g6 : Nat → Int64) (f7 : Nat → Int32) (g8 : Nat → Int64) (g9 : Nat → Int64) (g10 : Nat → Int64) (g11 : Nat → Int64) (g12 : Nat → Int64) (g13 : Nat → Int64) (g14 : Nat → Int64) (g15 : Nat → Int64) (f16 : Nat → Int32) (g17 : Nat → Int64) (j : Nat) (hP : bm_MD ct m th tr bl np nd f1 f2 f3 f4 g5 g6 f7 g8 g9 g10 g11 g12 g13 g14 g15 f16 g17 M) (hj : j < 4) : Met l yM_count (bm_ws yM_count cM_count 2 (some .int)) { frames := 1, cells := 0, slots := 0, locals := 21 } (bm_Pre D ct base ad M sz [.ref m, .int (nI j)]) (bm_Post D base (bm_Pm m M sz (fun v M1 => v = some (.int (f2 j)) ∧ bm_MD ct m 0 tr bl np nd f1 f2 f3 f4 g5 g6 f7 g8 g9 g10 g11 g12 g13 g14 g15 f16 g17 M1))) 0 0 (bm_A base) := by
  refine bm_ofB (cc := cM_count) (maxL := 2) (ret := (some .int)) (by decide +kernel) (Nat.le_of_ble_eq_true rfl) ?_
  intro vp ve s vm args below meth vc hx hb hr hlk hts hown hml hnm ls hl hz hM hG R Q hR hQ
  have hown : s.vm.findClass "BlindMintModel" = some vm.cls := hown
  have hK := hG.K
  have hS : va_S (bm_A base) s.heap s.heap [] := va_S.rf
  have hl : lv_has ls 2 [(0, .ref m), (1, .int (nI j))] := hl
  have hF : bm_fr m M M := bm_fr.rf
  refine lv_aload_n hx hb dM_count_0 rfl (lv_at hl 0 rfl) ?_
  refine lv_iconst (v := 0) hx hb dM_count_1 (by decide) ?_
  refine bm_put (ci := 7) (v := .int 0) (ty := .int) (C := "BlindMintModel") (T := bt_M) (N := 22) hx hb hts bu_M by_M bo_M bn_M hown hK hM hS hP.c0 rfl 0 (by decide) (hts _ bw_602) (fun _ h9 => h9) rfl (by decide +kernel) rfl rfl (Nat.le_of_ble_eq_true rfl) dM_count_2 (fun H locs hz1 hM hS => ?_)
  have hz := hz1.trans hz
  obtain ⟨M1, hM, hP, hF⟩ : ∃ X, bm_M D base X H ∧ bm_MD ct m 0 tr bl np nd f1 f2 f3 f4 g5 g6 f7 g8 g9 g10 g11 g12 g13 g14 g15 f16 g17 X ∧ bm_fr m M X := ⟨_, hM, hP.s_th _, hF.up0⟩
  refine lv_iload_n hx hb dM_count_5 rfl (lv_at hl 1 rfl) ?_
  refine lv_iconst (v := 4) hx hb dM_count_6 (by decide) ?_
  refine bm_callE (va_runS (As := [.int (nI j), .int 4]) (rest := []) ⟨hx, hb, hml, hown, hts⟩ (bc_M_below l D ct base ad M1 sz (nI j) 4) (va_cwS 2 hts (bm_goodS bw_679 bw_680 bw_5 bw_681) rfl rfl rfl (by decide +kernel) (by rw [← hR]; exact ⟨Nat.le_of_ble_eq_true rfl, Nat.le_of_ble_eq_true rfl⟩)) (bm_preS hM hG hS hz) rfl rfl hl.1 rfl (lv_room (Nat.le_of_ble_eq_true rfl)) dM_count_7 (by rw [← hR]; exact ⟨Nat.le_of_ble_eq_true rfl, Nat.le_of_ble_eq_true rfl⟩)) hS (fun H locs hz hM hS => ?_)
  refine lv_if_eq (tgt := 22) hx hb dM_count_10 rfl (fun h10 => absurd h10 (by rw [show bm_bl (nI j) 4 = 1 from (bm_bl_nI (N := 4) hj (by decide))]; decide)) (fun h10 => ?_)
  refine lv_aload_n hx hb dM_count_13 rfl (lv_at hl 0 rfl) ?_
  refine bm_get (ci := 7) (v := .ref (m + 2)) (C := "BlindMintModel") (T := bt_M) (N := 22) hx hb hts bu_M hown hK hM hP.c0 rfl 2 (by decide) (hts _ bw_604) (fun _ h9 => h9) rfl dM_count_14 ?_
  refine lv_iload_n hx hb dM_count_17 rfl (lv_at hl 1 rfl) ?_
  refine bm_iald hx hb hK hM 0 hP.c2 rfl j (bm_ix_nI (by omega)) (by omega) dM_count_18 ?_
  refine lv_goto (tgt := 23) hx hb dM_count_19 rfl ?_
  exact bm_iret hQ hx hb hr hlk hM hS ⟨hz, ⟨rfl, hP⟩, hF⟩ (Nat.le_refl _) (Nat.le_refl _) dM_count_23
set_option maxHeartbeats 4000000 in
set_option maxRecDepth 100000 in
theorem bc_M_noCoin_n1 (l : Launch) (D : va_G) (ct : Nat → ClassId) (base : Nat) (ad : Nat → Nat) (M : bm_Map) (sz : Nat) (m : Nat) (th : Int32) (tr : Int32) (bl : Int64) (np : Int32) (nd : Int32) (f1 : Nat → Int32) (f2 : Nat → Int32) (f3 : Nat → Int32) (f4 : Nat → Int32) (g5 : Nat → Int64) (g6 : Nat → Int64) (f7 : Nat → Int32) (g8 : Nat → Int64) (g9 : Nat → Int64) (g10 : Nat → Int64) (g11 : Nat → Int64) (g12 : Nat → Int64) (g13 : Nat → Int64) (g14 : Nat → Int64) (g15 : Nat → Int64) (f16 : Nat → Int32) (g17 : Nat → Int64) (v w : Int32) (hP : bm_MD ct m th tr bl np nd f1 f2 f3 f4 g5 g6 f7 g8 g9 g10 g11 g12 g13 g14 g15 f16 g17 M) (hv : bm_bl v 4 = 0) : Met l yM_noCoin (bm_ws yM_noCoin cM_noCoin 3 (some .boolean)) { frames := 1, cells := 0, slots := 0, locals := 21 } (bm_Pre D ct base ad M sz [.ref m, .int v, .int w]) (bm_Post D base (bm_Pm m M sz (fun v M1 => v = some (.int 1) ∧ bm_MD ct m th tr bl np nd f1 f2 f3 f4 g5 g6 f7 g8 g9 g10 g11 g12 g13 g14 g15 f16 g17 M1))) 0 0 (bm_A base) := by
  refine bm_ofB (cc := cM_noCoin) (maxL := 3) (ret := (some .boolean)) (by decide +kernel) (Nat.le_of_ble_eq_true rfl) ?_
  intro vp ve s vm args below meth vc hx hb hr hlk hts hown hml hnm ls hl hz hM hG R Q hR hQ
  have hown : s.vm.findClass "BlindMintModel" = some vm.cls := hown
  have hK := hG.K
  have hS : va_S (bm_A base) s.heap s.heap [] := va_S.rf
  have hl : lv_has ls 3 [(0, .ref m), (1, .int v), (2, .int w)] := hl
  have hF : bm_fr m M M := bm_fr.rf
  refine lv_iload_n hx hb dM_noCoin_0 rfl (lv_at hl 1 rfl) ?_
  refine lv_iconst (v := 4) hx hb dM_noCoin_1 (by decide) ?_
  refine bm_callE (va_runS (As := [.int v, .int 4]) (rest := []) ⟨hx, hb, hml, hown, hts⟩ (bc_M_below l D ct base ad M sz v 4) (va_cwS 2 hts (bm_goodS bw_679 bw_680 bw_5 bw_681) rfl rfl rfl (by decide +kernel) (by rw [← hR]; exact ⟨Nat.le_of_ble_eq_true rfl, Nat.le_of_ble_eq_true rfl⟩)) (bm_preS hM hG hS hz) rfl rfl hl.1 rfl (lv_room (Nat.le_of_ble_eq_true rfl)) dM_noCoin_2 (by rw [← hR]; exact ⟨Nat.le_of_ble_eq_true rfl, Nat.le_of_ble_eq_true rfl⟩)) hS (fun H locs hz hM hS => ?_)
  refine lv_if_eq (tgt := 21) hx hb dM_noCoin_5 rfl (fun h5 => ?_) (fun h5 => absurd hv h5)
  refine lv_iconst (v := 1) hx hb dM_noCoin_21 (by decide) ?_
  refine lv_goto (tgt := 26) hx hb dM_noCoin_22 rfl ?_
  exact bm_zret hQ hx hb hr hlk (by decide) hM hS ⟨hz, ⟨rfl, hP⟩, hF⟩ (Nat.le_refl _) (Nat.le_refl _) dM_noCoin_26
set_option maxHeartbeats 4000000 in
set_option maxRecDepth 100000 in
theorem bc_M_noCoin_n2 (l : Launch) (D : va_G) (ct : Nat → ClassId) (base : Nat) (ad : Nat → Nat) (M : bm_Map) (sz : Nat) (m : Nat) (th : Int32) (tr : Int32) (bl : Int64) (np : Int32) (nd : Int32) (f1 : Nat → Int32) (f2 : Nat → Int32) (f3 : Nat → Int32) (f4 : Nat → Int32) (g5 : Nat → Int64) (g6 : Nat → Int64) (f7 : Nat → Int32) (g8 : Nat → Int64) (g9 : Nat → Int64) (g10 : Nat → Int64) (g11 : Nat → Int64) (g12 : Nat → Int64) (g13 : Nat → Int64) (g14 : Nat → Int64) (g15 : Nat → Int64) (f16 : Nat → Int32) (g17 : Nat → Int64) (j : Nat) (w : Int32) (hP : bm_MD ct m th tr bl np nd f1 f2 f3 f4 g5 g6 f7 g8 g9 g10 g11 g12 g13 g14 g15 f16 g17 M) (hj : j < 4) (hw : bm_bl w (f3 j) = 0) : Met l yM_noCoin (bm_ws yM_noCoin cM_noCoin 3 (some .boolean)) { frames := 1, cells := 0, slots := 0, locals := 21 } (bm_Pre D ct base ad M sz [.ref m, .int (nI j), .int w]) (bm_Post D base (bm_Pm m M sz (fun v M1 => v = some (.int 1) ∧ bm_MD ct m th tr bl np nd f1 f2 f3 f4 g5 g6 f7 g8 g9 g10 g11 g12 g13 g14 g15 f16 g17 M1))) 0 0 (bm_A base) := by
  refine bm_ofB (cc := cM_noCoin) (maxL := 3) (ret := (some .boolean)) (by decide +kernel) (Nat.le_of_ble_eq_true rfl) ?_
  intro vp ve s vm args below meth vc hx hb hr hlk hts hown hml hnm ls hl hz hM hG R Q hR hQ
  have hown : s.vm.findClass "BlindMintModel" = some vm.cls := hown
  have hK := hG.K
  have hS : va_S (bm_A base) s.heap s.heap [] := va_S.rf
  have hl : lv_has ls 3 [(0, .ref m), (1, .int (nI j)), (2, .int w)] := hl
  have hF : bm_fr m M M := bm_fr.rf
  refine lv_iload_n hx hb dM_noCoin_0 rfl (lv_at hl 1 rfl) ?_
  refine lv_iconst (v := 4) hx hb dM_noCoin_1 (by decide) ?_
  refine bm_callE (va_runS (As := [.int (nI j), .int 4]) (rest := []) ⟨hx, hb, hml, hown, hts⟩ (bc_M_below l D ct base ad M sz (nI j) 4) (va_cwS 2 hts (bm_goodS bw_679 bw_680 bw_5 bw_681) rfl rfl rfl (by decide +kernel) (by rw [← hR]; exact ⟨Nat.le_of_ble_eq_true rfl, Nat.le_of_ble_eq_true rfl⟩)) (bm_preS hM hG hS hz) rfl rfl hl.1 rfl (lv_room (Nat.le_of_ble_eq_true rfl)) dM_noCoin_2 (by rw [← hR]; exact ⟨Nat.le_of_ble_eq_true rfl, Nat.le_of_ble_eq_true rfl⟩)) hS (fun H locs hz hM hS => ?_)
  refine lv_if_eq (tgt := 21) hx hb dM_noCoin_5 rfl (fun h5 => absurd h5 (by rw [show bm_bl (nI j) 4 = 1 from (bm_bl_nI (N := 4) hj (by decide))]; decide)) (fun h5 => ?_)
  refine lv_iload_n hx hb dM_noCoin_8 rfl (lv_at hl 2 rfl) ?_
  refine lv_aload_n hx hb dM_noCoin_9 rfl (lv_at hl 0 rfl) ?_
  refine bm_get (ci := 7) (v := .ref (m + 3)) (C := "BlindMintModel") (T := bt_M) (N := 22) hx hb hts bu_M hown hK hM hP.c0 rfl 5 (by decide) (hts _ bw_607) (fun _ h9 => h9) rfl dM_noCoin_10 ?_
  refine lv_iload_n hx hb dM_noCoin_13 rfl (lv_at hl 1 rfl) ?_
  refine bm_iald hx hb hK hM 0 hP.c3 rfl j (bm_ix_nI (by omega)) (by omega) dM_noCoin_14 ?_
  refine bm_callE (va_runS (As := [.int w, .int (f3 j)]) (rest := []) ⟨hx, hb, hml, hown, hts⟩ (bc_M_below l D ct base ad M sz w (f3 j)) (va_cwS 2 hts (bm_goodS bw_679 bw_680 bw_5 bw_681) rfl rfl rfl (by decide +kernel) (by rw [← hR]; exact ⟨Nat.le_of_ble_eq_true rfl, Nat.le_of_ble_eq_true rfl⟩)) (bm_preS hM hG hS hz) rfl rfl hl.1 rfl (lv_room (Nat.le_of_ble_eq_true rfl)) dM_noCoin_15 (by rw [← hR]; exact ⟨Nat.le_of_ble_eq_true rfl, Nat.le_of_ble_eq_true rfl⟩)) hS (fun H locs hz hM hS => ?_)
  refine lv_if_ne (tgt := 25) hx hb dM_noCoin_18 rfl (fun h18 => absurd hw h18) (fun h18 => ?_)
  refine lv_iconst (v := 1) hx hb dM_noCoin_21 (by decide) ?_
  refine lv_goto (tgt := 26) hx hb dM_noCoin_22 rfl ?_
  exact bm_zret hQ hx hb hr hlk (by decide) hM hS ⟨hz, ⟨rfl, hP⟩, hF⟩ (Nat.le_refl _) (Nat.le_refl _) dM_noCoin_26
set_option maxHeartbeats 4000000 in
set_option maxRecDepth 100000 in
theorem bc_M_noCoin_ok (l : Launch) (D : va_G) (ct : Nat → ClassId) (base : Nat) (ad : Nat → Nat) (M : bm_Map) (sz : Nat) (m : Nat) (th : Int32) (tr : Int32) (bl : Int64) (np : Int32) (nd : Int32) (f1 : Nat → Int32) (f2 : Nat → Int32) (f3 : Nat → Int32) (f4 : Nat → Int32) (g5 : Nat → Int64) (g6 : Nat → Int64) (f7 : Nat → Int32) (g8 : Nat → Int64) (g9 : Nat → Int64) (g10 : Nat → Int64) (g11 : Nat → Int64) (g12 : Nat → Int64) (g13 : Nat → Int64) (g14 : Nat → Int64) (g15 : Nat → Int64) (f16 : Nat → Int32) (g17 : Nat → Int64) (j i : Nat) (hP : bm_MD ct m th tr bl np nd f1 f2 f3 f4 g5 g6 f7 g8 g9 g10 g11 g12 g13 g14 g15 f16 g17 M) (hj : j < 4) (hi : i < 8) (hw : bm_bl (nI i) (f3 j) = 1) : Met l yM_noCoin (bm_ws yM_noCoin cM_noCoin 3 (some .boolean)) { frames := 1, cells := 0, slots := 0, locals := 21 } (bm_Pre D ct base ad M sz [.ref m, .int (nI j), .int (nI i)]) (bm_Post D base (bm_Pm m M sz (fun v M1 => v = some (.int 0) ∧ bm_MD ct m th tr bl np nd f1 f2 f3 f4 g5 g6 f7 g8 g9 g10 g11 g12 g13 g14 g15 f16 g17 M1))) 0 0 (bm_A base) := by
  refine bm_ofB (cc := cM_noCoin) (maxL := 3) (ret := (some .boolean)) (by decide +kernel) (Nat.le_of_ble_eq_true rfl) ?_
  intro vp ve s vm args below meth vc hx hb hr hlk hts hown hml hnm ls hl hz hM hG R Q hR hQ
  have hown : s.vm.findClass "BlindMintModel" = some vm.cls := hown
  have hK := hG.K
  have hS : va_S (bm_A base) s.heap s.heap [] := va_S.rf
  have hl : lv_has ls 3 [(0, .ref m), (1, .int (nI j)), (2, .int (nI i))] := hl
  have hF : bm_fr m M M := bm_fr.rf
  refine lv_iload_n hx hb dM_noCoin_0 rfl (lv_at hl 1 rfl) ?_
  refine lv_iconst (v := 4) hx hb dM_noCoin_1 (by decide) ?_
  refine bm_callE (va_runS (As := [.int (nI j), .int 4]) (rest := []) ⟨hx, hb, hml, hown, hts⟩ (bc_M_below l D ct base ad M sz (nI j) 4) (va_cwS 2 hts (bm_goodS bw_679 bw_680 bw_5 bw_681) rfl rfl rfl (by decide +kernel) (by rw [← hR]; exact ⟨Nat.le_of_ble_eq_true rfl, Nat.le_of_ble_eq_true rfl⟩)) (bm_preS hM hG hS hz) rfl rfl hl.1 rfl (lv_room (Nat.le_of_ble_eq_true rfl)) dM_noCoin_2 (by rw [← hR]; exact ⟨Nat.le_of_ble_eq_true rfl, Nat.le_of_ble_eq_true rfl⟩)) hS (fun H locs hz hM hS => ?_)
  refine lv_if_eq (tgt := 21) hx hb dM_noCoin_5 rfl (fun h5 => absurd h5 (by rw [show bm_bl (nI j) 4 = 1 from (bm_bl_nI (N := 4) hj (by decide))]; decide)) (fun h5 => ?_)
  refine lv_iload_n hx hb dM_noCoin_8 rfl (lv_at hl 2 rfl) ?_
  refine lv_aload_n hx hb dM_noCoin_9 rfl (lv_at hl 0 rfl) ?_
  refine bm_get (ci := 7) (v := .ref (m + 3)) (C := "BlindMintModel") (T := bt_M) (N := 22) hx hb hts bu_M hown hK hM hP.c0 rfl 5 (by decide) (hts _ bw_607) (fun _ h9 => h9) rfl dM_noCoin_10 ?_
  refine lv_iload_n hx hb dM_noCoin_13 rfl (lv_at hl 1 rfl) ?_
  refine bm_iald hx hb hK hM 0 hP.c3 rfl j (bm_ix_nI (by omega)) (by omega) dM_noCoin_14 ?_
  refine bm_callE (va_runS (As := [.int (nI i), .int (f3 j)]) (rest := []) ⟨hx, hb, hml, hown, hts⟩ (bc_M_below l D ct base ad M sz (nI i) (f3 j)) (va_cwS 2 hts (bm_goodS bw_679 bw_680 bw_5 bw_681) rfl rfl rfl (by decide +kernel) (by rw [← hR]; exact ⟨Nat.le_of_ble_eq_true rfl, Nat.le_of_ble_eq_true rfl⟩)) (bm_preS hM hG hS hz) rfl rfl hl.1 rfl (lv_room (Nat.le_of_ble_eq_true rfl)) dM_noCoin_15 (by rw [← hR]; exact ⟨Nat.le_of_ble_eq_true rfl, Nat.le_of_ble_eq_true rfl⟩)) hS (fun H locs hz hM hS => ?_)
  refine lv_if_ne (tgt := 25) hx hb dM_noCoin_18 rfl (fun h18 => ?_) (fun h18 => absurd h18 (by rw [hw]; decide))
  refine lv_iconst (v := 0) hx hb dM_noCoin_25 (by decide) ?_
  exact bm_zret hQ hx hb hr hlk (by decide) hM hS ⟨hz, ⟨rfl, hP⟩, hF⟩ (Nat.le_refl _) (Nat.le_refl _) dM_noCoin_26
set_option maxHeartbeats 4000000 in
set_option maxRecDepth 100000 in
theorem bc_M_coin_n1 (l : Launch) (D : va_G) (ct : Nat → ClassId) (base : Nat) (ad : Nat → Nat) (M : bm_Map) (sz : Nat) (m : Nat) (th : Int32) (tr : Int32) (bl : Int64) (np : Int32) (nd : Int32) (f1 : Nat → Int32) (f2 : Nat → Int32) (f3 : Nat → Int32) (f4 : Nat → Int32) (g5 : Nat → Int64) (g6 : Nat → Int64) (f7 : Nat → Int32) (g8 : Nat → Int64) (g9 : Nat → Int64) (g10 : Nat → Int64) (g11 : Nat → Int64) (g12 : Nat → Int64) (g13 : Nat → Int64) (g14 : Nat → Int64) (g15 : Nat → Int64) (f16 : Nat → Int32) (g17 : Nat → Int64) (v w : Int32) (hP : bm_MD ct m th tr bl np nd f1 f2 f3 f4 g5 g6 f7 g8 g9 g10 g11 g12 g13 g14 g15 f16 g17 M) (hv : bm_bl v 4 = 0) : Met l yM_coin (bm_ws yM_coin cM_coin 3 (some .long)) { frames := 2, cells := 0, slots := 0, locals := 43 } (bm_Pre D ct base ad M sz [.ref m, .int v, .int w]) (bm_Post D base (bm_Pm m M sz (fun v M1 => v = some (.long 0) ∧ bm_MD ct m 1 tr bl np nd f1 f2 f3 f4 g5 g6 f7 g8 g9 g10 g11 g12 g13 g14 g15 f16 g17 M1))) 0 0 (bm_A base) := by
  refine bm_ofB (cc := cM_coin) (maxL := 3) (ret := (some .long)) (by decide +kernel) (Nat.le_of_ble_eq_true rfl) ?_
  intro vp ve s vm args below meth vc hx hb hr hlk hts hown hml hnm ls hl hz hM hG R Q hR hQ
  have hown : s.vm.findClass "BlindMintModel" = some vm.cls := hown
  have hK := hG.K
  have hS : va_S (bm_A base) s.heap s.heap [] := va_S.rf
  have hl : lv_has ls 3 [(0, .ref m), (1, .int v), (2, .int w)] := hl
  have hF : bm_fr m M M := bm_fr.rf
  refine lv_aload_n hx hb dM_coin_0 rfl (lv_at hl 0 rfl) ?_
  refine lv_iconst (v := 0) hx hb dM_coin_1 (by decide) ?_
  refine bm_put (ci := 7) (v := .int 0) (ty := .int) (C := "BlindMintModel") (T := bt_M) (N := 22) hx hb hts bu_M by_M bo_M bn_M hown hK hM hS hP.c0 rfl 0 (by decide) (hts _ bw_602) (fun _ h9 => h9) rfl (by decide +kernel) rfl rfl (Nat.le_of_ble_eq_true rfl) dM_coin_2 (fun H locs hz1 hM hS => ?_)
  have hz := hz1.trans hz
  obtain ⟨M1, hM, hP, hF⟩ : ∃ X, bm_M D base X H ∧ bm_MD ct m 0 tr bl np nd f1 f2 f3 f4 g5 g6 f7 g8 g9 g10 g11 g12 g13 g14 g15 f16 g17 X ∧ bm_fr m M X := ⟨_, hM, hP.s_th _, hF.up0⟩
  refine lv_aload_n hx hb dM_coin_5 rfl (lv_at hl 0 rfl) ?_
  refine lv_iload_n hx hb dM_coin_6 rfl (lv_at hl 1 rfl) ?_
  refine lv_iload_n hx hb dM_coin_7 rfl (lv_at hl 2 rfl) ?_
  refine bm_call (va_runV (As := [.int v, .int w]) (rest := []) ⟨hx, hb, hml, hown, hts⟩ (bc_M_noCoin_n1 l D ct base ad M1 sz m 0 tr bl np nd f1 f2 f3 f4 g5 g6 f7 g8 g9 g10 g11 g12 g13 g14 g15 f16 g17 v w hP hv) (cwV 2 hts (bm_goodV bw_757 bw_759 bs_15 bw_5 bw_760) rfl rfl rfl (by decide +kernel) (by rw [← hR]; exact ⟨Nat.le_of_ble_eq_true rfl, Nat.le_of_ble_eq_true rfl⟩)) (bm_preV hM hG hS hz hP.c0 rfl) rfl rfl hl.1 rfl (lv_room (Nat.le_of_ble_eq_true rfl)) dM_coin_8 (by rw [← hR]; exact ⟨Nat.le_of_ble_eq_true rfl, Nat.le_of_ble_eq_true rfl⟩)) hS (fun v9 M2 H locs hq hM hS _ => ?_)
  obtain ⟨hz, ⟨rfl, hP⟩, hF9⟩ := hq
  have hF := hF.tr hF9
  refine lv_if_eq (tgt := 23) hx hb dM_coin_11 rfl (fun h => absurd h (by decide)) (fun _ => ?_)
  refine lv_aload_n hx hb dM_coin_14 rfl (lv_at hl 0 rfl) ?_
  refine lv_iconst (v := 1) hx hb dM_coin_15 (by decide) ?_
  refine bm_call (va_runV (As := [.int 1]) (rest := []) ⟨hx, hb, hml, hown, hts⟩ (bc_M_fail l D ct base ad M2 sz m 0 tr bl np nd f1 f2 f3 f4 g5 g6 f7 g8 g9 g10 g11 g12 g13 g14 g15 f16 g17 1 hP) (cwV 1 hts (bm_goodV bw_682 bw_684 bs_10 bw_5 bw_685) rfl rfl rfl (by decide +kernel) (by rw [← hR]; exact ⟨Nat.le_of_ble_eq_true rfl, Nat.le_of_ble_eq_true rfl⟩)) (bm_preV hM hG hS hz hP.c0 rfl) rfl rfl hl.1 rfl (lv_room (Nat.le_of_ble_eq_true rfl)) dM_coin_16 (by rw [← hR]; exact ⟨Nat.le_of_ble_eq_true rfl, Nat.le_of_ble_eq_true rfl⟩)) hS (fun v9 M3 H locs hq hM hS _ => ?_)
  obtain ⟨hz, ⟨rfl, hP⟩, hF9⟩ := hq
  have hF := hF.tr hF9
  refine lv_i2l (v := 0) hx hb dM_coin_19 (by decide) ?_
  refine lv_goto (tgt := 34) hx hb dM_coin_20 rfl ?_
  exact bm_lret hQ hx hb hr hlk hM hS ⟨hz, ⟨rfl, hP⟩, hF⟩ (Nat.le_refl _) (Nat.le_refl _) dM_coin_34
set_option maxHeartbeats 4000000 in
set_option maxRecDepth 100000 in
theorem bc_M_coin_n2 (l : Launch) (D : va_G) (ct : Nat → ClassId) (base : Nat) (ad : Nat → Nat) (M : bm_Map) (sz : Nat) (m : Nat) (th : Int32) (tr : Int32) (bl : Int64) (np : Int32) (nd : Int32) (f1 : Nat → Int32) (f2 : Nat → Int32) (f3 : Nat → Int32) (f4 : Nat → Int32) (g5 : Nat → Int64) (g6 : Nat → Int64) (f7 : Nat → Int32) (g8 : Nat → Int64) (g9 : Nat → Int64) (g10 : Nat → Int64) (g11 : Nat → Int64) (g12 : Nat → Int64) (g13 : Nat → Int64) (g14 : Nat → Int64) (g15 : Nat → Int64) (f16 : Nat → Int32) (g17 : Nat → Int64) (j : Nat) (w : Int32) (hP : bm_MD ct m th tr bl np nd f1 f2 f3 f4 g5 g6 f7 g8 g9 g10 g11 g12 g13 g14 g15 f16 g17 M) (hj : j < 4) (hw : bm_bl w (f3 j) = 0) : Met l yM_coin (bm_ws yM_coin cM_coin 3 (some .long)) { frames := 2, cells := 0, slots := 0, locals := 43 } (bm_Pre D ct base ad M sz [.ref m, .int (nI j), .int w]) (bm_Post D base (bm_Pm m M sz (fun v M1 => v = some (.long 0) ∧ bm_MD ct m 1 tr bl np nd f1 f2 f3 f4 g5 g6 f7 g8 g9 g10 g11 g12 g13 g14 g15 f16 g17 M1))) 0 0 (bm_A base) := by
  refine bm_ofB (cc := cM_coin) (maxL := 3) (ret := (some .long)) (by decide +kernel) (Nat.le_of_ble_eq_true rfl) ?_
  intro vp ve s vm args below meth vc hx hb hr hlk hts hown hml hnm ls hl hz hM hG R Q hR hQ
  have hown : s.vm.findClass "BlindMintModel" = some vm.cls := hown
  have hK := hG.K
  have hS : va_S (bm_A base) s.heap s.heap [] := va_S.rf
  have hl : lv_has ls 3 [(0, .ref m), (1, .int (nI j)), (2, .int w)] := hl
  have hF : bm_fr m M M := bm_fr.rf
  refine lv_aload_n hx hb dM_coin_0 rfl (lv_at hl 0 rfl) ?_
  refine lv_iconst (v := 0) hx hb dM_coin_1 (by decide) ?_
  refine bm_put (ci := 7) (v := .int 0) (ty := .int) (C := "BlindMintModel") (T := bt_M) (N := 22) hx hb hts bu_M by_M bo_M bn_M hown hK hM hS hP.c0 rfl 0 (by decide) (hts _ bw_602) (fun _ h9 => h9) rfl (by decide +kernel) rfl rfl (Nat.le_of_ble_eq_true rfl) dM_coin_2 (fun H locs hz1 hM hS => ?_)
  have hz := hz1.trans hz
  obtain ⟨M1, hM, hP, hF⟩ : ∃ X, bm_M D base X H ∧ bm_MD ct m 0 tr bl np nd f1 f2 f3 f4 g5 g6 f7 g8 g9 g10 g11 g12 g13 g14 g15 f16 g17 X ∧ bm_fr m M X := ⟨_, hM, hP.s_th _, hF.up0⟩
  refine lv_aload_n hx hb dM_coin_5 rfl (lv_at hl 0 rfl) ?_
  refine lv_iload_n hx hb dM_coin_6 rfl (lv_at hl 1 rfl) ?_
  refine lv_iload_n hx hb dM_coin_7 rfl (lv_at hl 2 rfl) ?_
  refine bm_call (va_runV (As := [.int (nI j), .int w]) (rest := []) ⟨hx, hb, hml, hown, hts⟩ (bc_M_noCoin_n2 l D ct base ad M1 sz m 0 tr bl np nd f1 f2 f3 f4 g5 g6 f7 g8 g9 g10 g11 g12 g13 g14 g15 f16 g17 j w hP hj hw) (cwV 2 hts (bm_goodV bw_757 bw_759 bs_15 bw_5 bw_760) rfl rfl rfl (by decide +kernel) (by rw [← hR]; exact ⟨Nat.le_of_ble_eq_true rfl, Nat.le_of_ble_eq_true rfl⟩)) (bm_preV hM hG hS hz hP.c0 rfl) rfl rfl hl.1 rfl (lv_room (Nat.le_of_ble_eq_true rfl)) dM_coin_8 (by rw [← hR]; exact ⟨Nat.le_of_ble_eq_true rfl, Nat.le_of_ble_eq_true rfl⟩)) hS (fun v9 M2 H locs hq hM hS _ => ?_)
  obtain ⟨hz, ⟨rfl, hP⟩, hF9⟩ := hq
  have hF := hF.tr hF9
  refine lv_if_eq (tgt := 23) hx hb dM_coin_11 rfl (fun h => absurd h (by decide)) (fun _ => ?_)
  refine lv_aload_n hx hb dM_coin_14 rfl (lv_at hl 0 rfl) ?_
  refine lv_iconst (v := 1) hx hb dM_coin_15 (by decide) ?_
  refine bm_call (va_runV (As := [.int 1]) (rest := []) ⟨hx, hb, hml, hown, hts⟩ (bc_M_fail l D ct base ad M2 sz m 0 tr bl np nd f1 f2 f3 f4 g5 g6 f7 g8 g9 g10 g11 g12 g13 g14 g15 f16 g17 1 hP) (cwV 1 hts (bm_goodV bw_682 bw_684 bs_10 bw_5 bw_685) rfl rfl rfl (by decide +kernel) (by rw [← hR]; exact ⟨Nat.le_of_ble_eq_true rfl, Nat.le_of_ble_eq_true rfl⟩)) (bm_preV hM hG hS hz hP.c0 rfl) rfl rfl hl.1 rfl (lv_room (Nat.le_of_ble_eq_true rfl)) dM_coin_16 (by rw [← hR]; exact ⟨Nat.le_of_ble_eq_true rfl, Nat.le_of_ble_eq_true rfl⟩)) hS (fun v9 M3 H locs hq hM hS _ => ?_)
  obtain ⟨hz, ⟨rfl, hP⟩, hF9⟩ := hq
  have hF := hF.tr hF9
  refine lv_i2l (v := 0) hx hb dM_coin_19 (by decide) ?_
  refine lv_goto (tgt := 34) hx hb dM_coin_20 rfl ?_
  exact bm_lret hQ hx hb hr hlk hM hS ⟨hz, ⟨rfl, hP⟩, hF⟩ (Nat.le_refl _) (Nat.le_refl _) dM_coin_34
set_option maxHeartbeats 4000000 in
set_option maxRecDepth 100000 in
theorem bc_M_coin_ok (l : Launch) (D : va_G) (ct : Nat → ClassId) (base : Nat) (ad : Nat → Nat) (M : bm_Map) (sz : Nat) (m : Nat) (th : Int32) (tr : Int32) (bl : Int64) (np : Int32) (nd : Int32) (f1 : Nat → Int32) (f2 : Nat → Int32) (f3 : Nat → Int32) (f4 : Nat → Int32) (g5 : Nat → Int64) (g6 : Nat → Int64) (f7 : Nat → Int32) (g8 : Nat → Int64) (g9 : Nat → Int64) (g10 : Nat → Int64) (g11 : Nat → Int64) (g12 : Nat → Int64) (g13 : Nat → Int64) (g14 : Nat → Int64) (g15 : Nat → Int64) (f16 : Nat → Int32) (g17 : Nat → Int64) (j i : Nat) (hP : bm_MD ct m th tr bl np nd f1 f2 f3 f4 g5 g6 f7 g8 g9 g10 g11 g12 g13 g14 g15 f16 g17 M) (hj : j < 4) (hi : i < 8) (hw : bm_bl (nI i) (f3 j) = 1) : Met l yM_coin (bm_ws yM_coin cM_coin 3 (some .long)) { frames := 2, cells := 0, slots := 0, locals := 43 } (bm_Pre D ct base ad M sz [.ref m, .int (nI j), .int (nI i)]) (bm_Post D base (bm_Pm m M sz (fun v M1 => v = some (.long (g5 (8 * j + i))) ∧ bm_MD ct m 0 tr bl np nd f1 f2 f3 f4 g5 g6 f7 g8 g9 g10 g11 g12 g13 g14 g15 f16 g17 M1))) 0 0 (bm_A base) := by
  refine bm_ofB (cc := cM_coin) (maxL := 3) (ret := (some .long)) (by decide +kernel) (Nat.le_of_ble_eq_true rfl) ?_
  intro vp ve s vm args below meth vc hx hb hr hlk hts hown hml hnm ls hl hz hM hG R Q hR hQ
  have hown : s.vm.findClass "BlindMintModel" = some vm.cls := hown
  have hK := hG.K
  have hS : va_S (bm_A base) s.heap s.heap [] := va_S.rf
  have hl : lv_has ls 3 [(0, .ref m), (1, .int (nI j)), (2, .int (nI i))] := hl
  have hF : bm_fr m M M := bm_fr.rf
  refine lv_aload_n hx hb dM_coin_0 rfl (lv_at hl 0 rfl) ?_
  refine lv_iconst (v := 0) hx hb dM_coin_1 (by decide) ?_
  refine bm_put (ci := 7) (v := .int 0) (ty := .int) (C := "BlindMintModel") (T := bt_M) (N := 22) hx hb hts bu_M by_M bo_M bn_M hown hK hM hS hP.c0 rfl 0 (by decide) (hts _ bw_602) (fun _ h9 => h9) rfl (by decide +kernel) rfl rfl (Nat.le_of_ble_eq_true rfl) dM_coin_2 (fun H locs hz1 hM hS => ?_)
  have hz := hz1.trans hz
  obtain ⟨M1, hM, hP, hF⟩ : ∃ X, bm_M D base X H ∧ bm_MD ct m 0 tr bl np nd f1 f2 f3 f4 g5 g6 f7 g8 g9 g10 g11 g12 g13 g14 g15 f16 g17 X ∧ bm_fr m M X := ⟨_, hM, hP.s_th _, hF.up0⟩
  refine lv_aload_n hx hb dM_coin_5 rfl (lv_at hl 0 rfl) ?_
  refine lv_iload_n hx hb dM_coin_6 rfl (lv_at hl 1 rfl) ?_
  refine lv_iload_n hx hb dM_coin_7 rfl (lv_at hl 2 rfl) ?_
  refine bm_call (va_runV (As := [.int (nI j), .int (nI i)]) (rest := []) ⟨hx, hb, hml, hown, hts⟩ (bc_M_noCoin_ok l D ct base ad M1 sz m 0 tr bl np nd f1 f2 f3 f4 g5 g6 f7 g8 g9 g10 g11 g12 g13 g14 g15 f16 g17 j i hP hj hi hw) (cwV 2 hts (bm_goodV bw_757 bw_759 bs_15 bw_5 bw_760) rfl rfl rfl (by decide +kernel) (by rw [← hR]; exact ⟨Nat.le_of_ble_eq_true rfl, Nat.le_of_ble_eq_true rfl⟩)) (bm_preV hM hG hS hz hP.c0 rfl) rfl rfl hl.1 rfl (lv_room (Nat.le_of_ble_eq_true rfl)) dM_coin_8 (by rw [← hR]; exact ⟨Nat.le_of_ble_eq_true rfl, Nat.le_of_ble_eq_true rfl⟩)) hS (fun v9 M2 H locs hq hM hS _ => ?_)
  obtain ⟨hz, ⟨rfl, hP⟩, hF9⟩ := hq
  have hF := hF.tr hF9
  refine lv_if_eq (tgt := 23) hx hb dM_coin_11 rfl (fun _ => ?_) (fun h => absurd h (by decide))
  refine lv_aload_n hx hb dM_coin_23 rfl (lv_at hl 0 rfl) ?_
  refine bm_get (ci := 7) (v := .ref (m + 5)) (C := "BlindMintModel") (T := bt_M) (N := 22) hx hb hts bu_M hown hK hM hP.c0 rfl 7 (by decide) (hts _ bw_609) (fun _ h9 => h9) rfl dM_coin_24 ?_
  refine lv_bipush (v := 8) hx hb dM_coin_27 (by decide) ?_
  refine lv_iload_n hx hb dM_coin_29 rfl (lv_at hl 1 rfl) ?_
  refine lv_imul hx hb dM_coin_30 ?_
  refine lv_iload_n hx hb dM_coin_31 rfl (lv_at hl 2 rfl) ?_
  refine lv_iadd hx hb dM_coin_32 ?_
  refine bm_lald hx hb hK hM 1 hP.c5 rfl (8 * j + i) (bm_ixm (c := 8) (by omega)) (by omega) dM_coin_33 ?_
  exact bm_lret hQ hx hb hr hlk hM hS ⟨hz, ⟨rfl, hP⟩, hF⟩ (Nat.le_refl _) (Nat.le_refl _) dM_coin_34
set_option maxHeartbeats 4000000 in
set_option maxRecDepth 100000 in
theorem bc_M_signature_n1 (l : Launch) (D : va_G) (ct : Nat → ClassId) (base : Nat) (ad : Nat → Nat) (M : bm_Map) (sz : Nat) (m : Nat) (th : Int32) (tr : Int32) (bl : Int64) (np : Int32) (nd : Int32) (f1 : Nat → Int32) (f2 : Nat → Int32) (f3 : Nat → Int32) (f4 : Nat → Int32) (g5 : Nat → Int64) (g6 : Nat → Int64) (f7 : Nat → Int32) (g8 : Nat → Int64) (g9 : Nat → Int64) (g10 : Nat → Int64) (g11 : Nat → Int64) (g12 : Nat → Int64) (g13 : Nat → Int64) (g14 : Nat → Int64) (g15 : Nat → Int64) (f16 : Nat → Int32) (g17 : Nat → Int64) (v w : Int32) (hP : bm_MD ct m th tr bl np nd f1 f2 f3 f4 g5 g6 f7 g8 g9 g10 g11 g12 g13 g14 g15 f16 g17 M) (hv : bm_bl v 4 = 0) : Met l yM_signature (bm_ws yM_signature cM_signature 3 (some .long)) { frames := 2, cells := 0, slots := 0, locals := 43 } (bm_Pre D ct base ad M sz [.ref m, .int v, .int w]) (bm_Post D base (bm_Pm m M sz (fun v M1 => v = some (.long 0) ∧ bm_MD ct m 1 tr bl np nd f1 f2 f3 f4 g5 g6 f7 g8 g9 g10 g11 g12 g13 g14 g15 f16 g17 M1))) 0 0 (bm_A base) := by
  refine bm_ofB (cc := cM_signature) (maxL := 3) (ret := (some .long)) (by decide +kernel) (Nat.le_of_ble_eq_true rfl) ?_
  intro vp ve s vm args below meth vc hx hb hr hlk hts hown hml hnm ls hl hz hM hG R Q hR hQ
  have hown : s.vm.findClass "BlindMintModel" = some vm.cls := hown
  have hK := hG.K
  have hS : va_S (bm_A base) s.heap s.heap [] := va_S.rf
  have hl : lv_has ls 3 [(0, .ref m), (1, .int v), (2, .int w)] := hl
  have hF : bm_fr m M M := bm_fr.rf
  refine lv_aload_n hx hb dM_signature_0 rfl (lv_at hl 0 rfl) ?_
  refine lv_iconst (v := 0) hx hb dM_signature_1 (by decide) ?_
  refine bm_put (ci := 7) (v := .int 0) (ty := .int) (C := "BlindMintModel") (T := bt_M) (N := 22) hx hb hts bu_M by_M bo_M bn_M hown hK hM hS hP.c0 rfl 0 (by decide) (hts _ bw_602) (fun _ h9 => h9) rfl (by decide +kernel) rfl rfl (Nat.le_of_ble_eq_true rfl) dM_signature_2 (fun H locs hz1 hM hS => ?_)
  have hz := hz1.trans hz
  obtain ⟨M1, hM, hP, hF⟩ : ∃ X, bm_M D base X H ∧ bm_MD ct m 0 tr bl np nd f1 f2 f3 f4 g5 g6 f7 g8 g9 g10 g11 g12 g13 g14 g15 f16 g17 X ∧ bm_fr m M X := ⟨_, hM, hP.s_th _, hF.up0⟩
  refine lv_aload_n hx hb dM_signature_5 rfl (lv_at hl 0 rfl) ?_
  refine lv_iload_n hx hb dM_signature_6 rfl (lv_at hl 1 rfl) ?_
  refine lv_iload_n hx hb dM_signature_7 rfl (lv_at hl 2 rfl) ?_
  refine bm_call (va_runV (As := [.int v, .int w]) (rest := []) ⟨hx, hb, hml, hown, hts⟩ (bc_M_noCoin_n1 l D ct base ad M1 sz m 0 tr bl np nd f1 f2 f3 f4 g5 g6 f7 g8 g9 g10 g11 g12 g13 g14 g15 f16 g17 v w hP hv) (cwV 2 hts (bm_goodV bw_757 bw_759 bs_15 bw_5 bw_760) rfl rfl rfl (by decide +kernel) (by rw [← hR]; exact ⟨Nat.le_of_ble_eq_true rfl, Nat.le_of_ble_eq_true rfl⟩)) (bm_preV hM hG hS hz hP.c0 rfl) rfl rfl hl.1 rfl (lv_room (Nat.le_of_ble_eq_true rfl)) dM_signature_8 (by rw [← hR]; exact ⟨Nat.le_of_ble_eq_true rfl, Nat.le_of_ble_eq_true rfl⟩)) hS (fun v9 M2 H locs hq hM hS _ => ?_)
  obtain ⟨hz, ⟨rfl, hP⟩, hF9⟩ := hq
  have hF := hF.tr hF9
  refine lv_if_eq (tgt := 23) hx hb dM_signature_11 rfl (fun h => absurd h (by decide)) (fun _ => ?_)
  refine lv_aload_n hx hb dM_signature_14 rfl (lv_at hl 0 rfl) ?_
  refine lv_iconst (v := 1) hx hb dM_signature_15 (by decide) ?_
  refine bm_call (va_runV (As := [.int 1]) (rest := []) ⟨hx, hb, hml, hown, hts⟩ (bc_M_fail l D ct base ad M2 sz m 0 tr bl np nd f1 f2 f3 f4 g5 g6 f7 g8 g9 g10 g11 g12 g13 g14 g15 f16 g17 1 hP) (cwV 1 hts (bm_goodV bw_682 bw_684 bs_10 bw_5 bw_685) rfl rfl rfl (by decide +kernel) (by rw [← hR]; exact ⟨Nat.le_of_ble_eq_true rfl, Nat.le_of_ble_eq_true rfl⟩)) (bm_preV hM hG hS hz hP.c0 rfl) rfl rfl hl.1 rfl (lv_room (Nat.le_of_ble_eq_true rfl)) dM_signature_16 (by rw [← hR]; exact ⟨Nat.le_of_ble_eq_true rfl, Nat.le_of_ble_eq_true rfl⟩)) hS (fun v9 M3 H locs hq hM hS _ => ?_)
  obtain ⟨hz, ⟨rfl, hP⟩, hF9⟩ := hq
  have hF := hF.tr hF9
  refine lv_i2l (v := 0) hx hb dM_signature_19 (by decide) ?_
  refine lv_goto (tgt := 34) hx hb dM_signature_20 rfl ?_
  exact bm_lret hQ hx hb hr hlk hM hS ⟨hz, ⟨rfl, hP⟩, hF⟩ (Nat.le_refl _) (Nat.le_refl _) dM_signature_34
set_option maxHeartbeats 4000000 in
set_option maxRecDepth 100000 in
theorem bc_M_signature_n2 (l : Launch) (D : va_G) (ct : Nat → ClassId) (base : Nat) (ad : Nat → Nat) (M : bm_Map) (sz : Nat) (m : Nat) (th : Int32) (tr : Int32) (bl : Int64) (np : Int32) (nd : Int32) (f1 : Nat → Int32) (f2 : Nat → Int32) (f3 : Nat → Int32) (f4 : Nat → Int32) (g5 : Nat → Int64) (g6 : Nat → Int64) (f7 : Nat → Int32) (g8 : Nat → Int64) (g9 : Nat → Int64) (g10 : Nat → Int64) (g11 : Nat → Int64) (g12 : Nat → Int64) (g13 : Nat → Int64) (g14 : Nat → Int64) (g15 : Nat → Int64) (f16 : Nat → Int32) (g17 : Nat → Int64) (j : Nat) (w : Int32) (hP : bm_MD ct m th tr bl np nd f1 f2 f3 f4 g5 g6 f7 g8 g9 g10 g11 g12 g13 g14 g15 f16 g17 M) (hj : j < 4) (hw : bm_bl w (f3 j) = 0) : Met l yM_signature (bm_ws yM_signature cM_signature 3 (some .long)) { frames := 2, cells := 0, slots := 0, locals := 43 } (bm_Pre D ct base ad M sz [.ref m, .int (nI j), .int w]) (bm_Post D base (bm_Pm m M sz (fun v M1 => v = some (.long 0) ∧ bm_MD ct m 1 tr bl np nd f1 f2 f3 f4 g5 g6 f7 g8 g9 g10 g11 g12 g13 g14 g15 f16 g17 M1))) 0 0 (bm_A base) := by
  refine bm_ofB (cc := cM_signature) (maxL := 3) (ret := (some .long)) (by decide +kernel) (Nat.le_of_ble_eq_true rfl) ?_
  intro vp ve s vm args below meth vc hx hb hr hlk hts hown hml hnm ls hl hz hM hG R Q hR hQ
  have hown : s.vm.findClass "BlindMintModel" = some vm.cls := hown
  have hK := hG.K
  have hS : va_S (bm_A base) s.heap s.heap [] := va_S.rf
  have hl : lv_has ls 3 [(0, .ref m), (1, .int (nI j)), (2, .int w)] := hl
  have hF : bm_fr m M M := bm_fr.rf
  refine lv_aload_n hx hb dM_signature_0 rfl (lv_at hl 0 rfl) ?_
  refine lv_iconst (v := 0) hx hb dM_signature_1 (by decide) ?_
  refine bm_put (ci := 7) (v := .int 0) (ty := .int) (C := "BlindMintModel") (T := bt_M) (N := 22) hx hb hts bu_M by_M bo_M bn_M hown hK hM hS hP.c0 rfl 0 (by decide) (hts _ bw_602) (fun _ h9 => h9) rfl (by decide +kernel) rfl rfl (Nat.le_of_ble_eq_true rfl) dM_signature_2 (fun H locs hz1 hM hS => ?_)
  have hz := hz1.trans hz
  obtain ⟨M1, hM, hP, hF⟩ : ∃ X, bm_M D base X H ∧ bm_MD ct m 0 tr bl np nd f1 f2 f3 f4 g5 g6 f7 g8 g9 g10 g11 g12 g13 g14 g15 f16 g17 X ∧ bm_fr m M X := ⟨_, hM, hP.s_th _, hF.up0⟩
  refine lv_aload_n hx hb dM_signature_5 rfl (lv_at hl 0 rfl) ?_
  refine lv_iload_n hx hb dM_signature_6 rfl (lv_at hl 1 rfl) ?_
  refine lv_iload_n hx hb dM_signature_7 rfl (lv_at hl 2 rfl) ?_
  refine bm_call (va_runV (As := [.int (nI j), .int w]) (rest := []) ⟨hx, hb, hml, hown, hts⟩ (bc_M_noCoin_n2 l D ct base ad M1 sz m 0 tr bl np nd f1 f2 f3 f4 g5 g6 f7 g8 g9 g10 g11 g12 g13 g14 g15 f16 g17 j w hP hj hw) (cwV 2 hts (bm_goodV bw_757 bw_759 bs_15 bw_5 bw_760) rfl rfl rfl (by decide +kernel) (by rw [← hR]; exact ⟨Nat.le_of_ble_eq_true rfl, Nat.le_of_ble_eq_true rfl⟩)) (bm_preV hM hG hS hz hP.c0 rfl) rfl rfl hl.1 rfl (lv_room (Nat.le_of_ble_eq_true rfl)) dM_signature_8 (by rw [← hR]; exact ⟨Nat.le_of_ble_eq_true rfl, Nat.le_of_ble_eq_true rfl⟩)) hS (fun v9 M2 H locs hq hM hS _ => ?_)
  obtain ⟨hz, ⟨rfl, hP⟩, hF9⟩ := hq
  have hF := hF.tr hF9
  refine lv_if_eq (tgt := 23) hx hb dM_signature_11 rfl (fun h => absurd h (by decide)) (fun _ => ?_)
  refine lv_aload_n hx hb dM_signature_14 rfl (lv_at hl 0 rfl) ?_
  refine lv_iconst (v := 1) hx hb dM_signature_15 (by decide) ?_
  refine bm_call (va_runV (As := [.int 1]) (rest := []) ⟨hx, hb, hml, hown, hts⟩ (bc_M_fail l D ct base ad M2 sz m 0 tr bl np nd f1 f2 f3 f4 g5 g6 f7 g8 g9 g10 g11 g12 g13 g14 g15 f16 g17 1 hP) (cwV 1 hts (bm_goodV bw_682 bw_684 bs_10 bw_5 bw_685) rfl rfl rfl (by decide +kernel) (by rw [← hR]; exact ⟨Nat.le_of_ble_eq_true rfl, Nat.le_of_ble_eq_true rfl⟩)) (bm_preV hM hG hS hz hP.c0 rfl) rfl rfl hl.1 rfl (lv_room (Nat.le_of_ble_eq_true rfl)) dM_signature_16 (by rw [← hR]; exact ⟨Nat.le_of_ble_eq_true rfl, Nat.le_of_ble_eq_true rfl⟩)) hS (fun v9 M3 H locs hq hM hS _ => ?_)
  obtain ⟨hz, ⟨rfl, hP⟩, hF9⟩ := hq
  have hF := hF.tr hF9
  refine lv_i2l (v := 0) hx hb dM_signature_19 (by decide) ?_
  refine lv_goto (tgt := 34) hx hb dM_signature_20 rfl ?_
  exact bm_lret hQ hx hb hr hlk hM hS ⟨hz, ⟨rfl, hP⟩, hF⟩ (Nat.le_refl _) (Nat.le_refl _) dM_signature_34
set_option maxHeartbeats 4000000 in
set_option maxRecDepth 100000 in
theorem bc_M_signature_ok (l : Launch) (D : va_G) (ct : Nat → ClassId) (base : Nat) (ad : Nat → Nat) (M : bm_Map) (sz : Nat) (m : Nat) (th : Int32) (tr : Int32) (bl : Int64) (np : Int32) (nd : Int32) (f1 : Nat → Int32) (f2 : Nat → Int32) (f3 : Nat → Int32) (f4 : Nat → Int32) (g5 : Nat → Int64) (g6 : Nat → Int64) (f7 : Nat → Int32) (g8 : Nat → Int64) (g9 : Nat → Int64) (g10 : Nat → Int64) (g11 : Nat → Int64) (g12 : Nat → Int64) (g13 : Nat → Int64) (g14 : Nat → Int64) (g15 : Nat → Int64) (f16 : Nat → Int32) (g17 : Nat → Int64) (j i : Nat) (hP : bm_MD ct m th tr bl np nd f1 f2 f3 f4 g5 g6 f7 g8 g9 g10 g11 g12 g13 g14 g15 f16 g17 M) (hj : j < 4) (hi : i < 8) (hw : bm_bl (nI i) (f3 j) = 1) : Met l yM_signature (bm_ws yM_signature cM_signature 3 (some .long)) { frames := 2, cells := 0, slots := 0, locals := 43 } (bm_Pre D ct base ad M sz [.ref m, .int (nI j), .int (nI i)]) (bm_Post D base (bm_Pm m M sz (fun v M1 => v = some (.long (g6 (8 * j + i))) ∧ bm_MD ct m 0 tr bl np nd f1 f2 f3 f4 g5 g6 f7 g8 g9 g10 g11 g12 g13 g14 g15 f16 g17 M1))) 0 0 (bm_A base) := by
  refine bm_ofB (cc := cM_signature) (maxL := 3) (ret := (some .long)) (by decide +kernel) (Nat.le_of_ble_eq_true rfl) ?_
  intro vp ve s vm args below meth vc hx hb hr hlk hts hown hml hnm ls hl hz hM hG R Q hR hQ
  have hown : s.vm.findClass "BlindMintModel" = some vm.cls := hown
  have hK := hG.K
  have hS : va_S (bm_A base) s.heap s.heap [] := va_S.rf
  have hl : lv_has ls 3 [(0, .ref m), (1, .int (nI j)), (2, .int (nI i))] := hl
  have hF : bm_fr m M M := bm_fr.rf
  refine lv_aload_n hx hb dM_signature_0 rfl (lv_at hl 0 rfl) ?_
  refine lv_iconst (v := 0) hx hb dM_signature_1 (by decide) ?_
  refine bm_put (ci := 7) (v := .int 0) (ty := .int) (C := "BlindMintModel") (T := bt_M) (N := 22) hx hb hts bu_M by_M bo_M bn_M hown hK hM hS hP.c0 rfl 0 (by decide) (hts _ bw_602) (fun _ h9 => h9) rfl (by decide +kernel) rfl rfl (Nat.le_of_ble_eq_true rfl) dM_signature_2 (fun H locs hz1 hM hS => ?_)
  have hz := hz1.trans hz
  obtain ⟨M1, hM, hP, hF⟩ : ∃ X, bm_M D base X H ∧ bm_MD ct m 0 tr bl np nd f1 f2 f3 f4 g5 g6 f7 g8 g9 g10 g11 g12 g13 g14 g15 f16 g17 X ∧ bm_fr m M X := ⟨_, hM, hP.s_th _, hF.up0⟩
  refine lv_aload_n hx hb dM_signature_5 rfl (lv_at hl 0 rfl) ?_
  refine lv_iload_n hx hb dM_signature_6 rfl (lv_at hl 1 rfl) ?_
  refine lv_iload_n hx hb dM_signature_7 rfl (lv_at hl 2 rfl) ?_
  refine bm_call (va_runV (As := [.int (nI j), .int (nI i)]) (rest := []) ⟨hx, hb, hml, hown, hts⟩ (bc_M_noCoin_ok l D ct base ad M1 sz m 0 tr bl np nd f1 f2 f3 f4 g5 g6 f7 g8 g9 g10 g11 g12 g13 g14 g15 f16 g17 j i hP hj hi hw) (cwV 2 hts (bm_goodV bw_757 bw_759 bs_15 bw_5 bw_760) rfl rfl rfl (by decide +kernel) (by rw [← hR]; exact ⟨Nat.le_of_ble_eq_true rfl, Nat.le_of_ble_eq_true rfl⟩)) (bm_preV hM hG hS hz hP.c0 rfl) rfl rfl hl.1 rfl (lv_room (Nat.le_of_ble_eq_true rfl)) dM_signature_8 (by rw [← hR]; exact ⟨Nat.le_of_ble_eq_true rfl, Nat.le_of_ble_eq_true rfl⟩)) hS (fun v9 M2 H locs hq hM hS _ => ?_)
  obtain ⟨hz, ⟨rfl, hP⟩, hF9⟩ := hq
  have hF := hF.tr hF9
  refine lv_if_eq (tgt := 23) hx hb dM_signature_11 rfl (fun _ => ?_) (fun h => absurd h (by decide))
  refine lv_aload_n hx hb dM_signature_23 rfl (lv_at hl 0 rfl) ?_
  refine bm_get (ci := 7) (v := .ref (m + 6)) (C := "BlindMintModel") (T := bt_M) (N := 22) hx hb hts bu_M hown hK hM hP.c0 rfl 8 (by decide) (hts _ bw_610) (fun _ h9 => h9) rfl dM_signature_24 ?_
  refine lv_bipush (v := 8) hx hb dM_signature_27 (by decide) ?_
  refine lv_iload_n hx hb dM_signature_29 rfl (lv_at hl 1 rfl) ?_
  refine lv_imul hx hb dM_signature_30 ?_
  refine lv_iload_n hx hb dM_signature_31 rfl (lv_at hl 2 rfl) ?_
  refine lv_iadd hx hb dM_signature_32 ?_
  refine bm_lald hx hb hK hM 1 hP.c6 rfl (8 * j + i) (bm_ixm (c := 8) (by omega)) (by omega) dM_signature_33 ?_
  exact bm_lret hQ hx hb hr hlk hM hS ⟨hz, ⟨rfl, hP⟩, hF⟩ (Nat.le_refl _) (Nat.le_refl _) dM_signature_34
set_option maxHeartbeats 4000000 in
set_option maxRecDepth 100000 in
theorem bc_M_noNumber_n1 (l : Launch) (D : va_G) (ct : Nat → ClassId) (base : Nat) (ad : Nat → Nat) (M : bm_Map) (sz : Nat) (m : Nat) (th : Int32) (tr : Int32) (bl : Int64) (np : Int32) (nd : Int32) (f1 : Nat → Int32) (f2 : Nat → Int32) (f3 : Nat → Int32) (f4 : Nat → Int32) (g5 : Nat → Int64) (g6 : Nat → Int64) (f7 : Nat → Int32) (g8 : Nat → Int64) (g9 : Nat → Int64) (g10 : Nat → Int64) (g11 : Nat → Int64) (g12 : Nat → Int64) (g13 : Nat → Int64) (g14 : Nat → Int64) (g15 : Nat → Int64) (f16 : Nat → Int32) (g17 : Nat → Int64) (v w : Int32) (hP : bm_MD ct m th tr bl np nd f1 f2 f3 f4 g5 g6 f7 g8 g9 g10 g11 g12 g13 g14 g15 f16 g17 M) (hv : bm_bl v np = 0) : Met l yM_noNumber (bm_ws yM_noNumber cM_noNumber 3 (some .boolean)) { frames := 1, cells := 0, slots := 0, locals := 21 } (bm_Pre D ct base ad M sz [.ref m, .int v, .int w]) (bm_Post D base (bm_Pm m M sz (fun v M1 => v = some (.int 1) ∧ bm_MD ct m th tr bl np nd f1 f2 f3 f4 g5 g6 f7 g8 g9 g10 g11 g12 g13 g14 g15 f16 g17 M1))) 0 0 (bm_A base) := by
  refine bm_ofB (cc := cM_noNumber) (maxL := 3) (ret := (some .boolean)) (by decide +kernel) (Nat.le_of_ble_eq_true rfl) ?_
  intro vp ve s vm args below meth vc hx hb hr hlk hts hown hml hnm ls hl hz hM hG R Q hR hQ
  have hown : s.vm.findClass "BlindMintModel" = some vm.cls := hown
  have hK := hG.K
  have hS : va_S (bm_A base) s.heap s.heap [] := va_S.rf
  have hl : lv_has ls 3 [(0, .ref m), (1, .int v), (2, .int w)] := hl
  have hF : bm_fr m M M := bm_fr.rf
  refine lv_iload_n hx hb dM_noNumber_0 rfl (lv_at hl 1 rfl) ?_
  refine lv_aload_n hx hb dM_noNumber_1 rfl (lv_at hl 0 rfl) ?_
  refine bm_get (ci := 7) (v := .int np) (C := "BlindMintModel") (T := bt_M) (N := 22) hx hb hts bu_M hown hK hM hP.c0 rfl 11 (by decide) (hts _ bw_613) (fun _ h9 => h9) rfl dM_noNumber_2 ?_
  refine bm_callE (va_runS (As := [.int v, .int np]) (rest := []) ⟨hx, hb, hml, hown, hts⟩ (bc_M_below l D ct base ad M sz v np) (va_cwS 2 hts (bm_goodS bw_679 bw_680 bw_5 bw_681) rfl rfl rfl (by decide +kernel) (by rw [← hR]; exact ⟨Nat.le_of_ble_eq_true rfl, Nat.le_of_ble_eq_true rfl⟩)) (bm_preS hM hG hS hz) rfl rfl hl.1 rfl (lv_room (Nat.le_of_ble_eq_true rfl)) dM_noNumber_5 (by rw [← hR]; exact ⟨Nat.le_of_ble_eq_true rfl, Nat.le_of_ble_eq_true rfl⟩)) hS (fun H locs hz hM hS => ?_)
  refine lv_if_eq (tgt := 20) hx hb dM_noNumber_8 rfl (fun h8 => ?_) (fun h8 => absurd hv h8)
  refine lv_iconst (v := 1) hx hb dM_noNumber_20 (by decide) ?_
  refine lv_goto (tgt := 25) hx hb dM_noNumber_21 rfl ?_
  exact bm_zret hQ hx hb hr hlk (by decide) hM hS ⟨hz, ⟨rfl, hP⟩, hF⟩ (Nat.le_refl _) (Nat.le_refl _) dM_noNumber_25
set_option maxHeartbeats 4000000 in
set_option maxRecDepth 100000 in
theorem bc_M_noNumber_n2 (l : Launch) (D : va_G) (ct : Nat → ClassId) (base : Nat) (ad : Nat → Nat) (M : bm_Map) (sz : Nat) (m : Nat) (th : Int32) (tr : Int32) (bl : Int64) (np : Int32) (nd : Int32) (f1 : Nat → Int32) (f2 : Nat → Int32) (f3 : Nat → Int32) (f4 : Nat → Int32) (g5 : Nat → Int64) (g6 : Nat → Int64) (f7 : Nat → Int32) (g8 : Nat → Int64) (g9 : Nat → Int64) (g10 : Nat → Int64) (g11 : Nat → Int64) (g12 : Nat → Int64) (g13 : Nat → Int64) (g14 : Nat → Int64) (g15 : Nat → Int64) (f16 : Nat → Int32) (g17 : Nat → Int64) (v w : Int32) (hP : bm_MD ct m th tr bl np nd f1 f2 f3 f4 g5 g6 f7 g8 g9 g10 g11 g12 g13 g14 g15 f16 g17 M) (hv : bm_bl v np = 1) (hw : bm_bl w 16 = 0) : Met l yM_noNumber (bm_ws yM_noNumber cM_noNumber 3 (some .boolean)) { frames := 1, cells := 0, slots := 0, locals := 21 } (bm_Pre D ct base ad M sz [.ref m, .int v, .int w]) (bm_Post D base (bm_Pm m M sz (fun v M1 => v = some (.int 1) ∧ bm_MD ct m th tr bl np nd f1 f2 f3 f4 g5 g6 f7 g8 g9 g10 g11 g12 g13 g14 g15 f16 g17 M1))) 0 0 (bm_A base) := by
  refine bm_ofB (cc := cM_noNumber) (maxL := 3) (ret := (some .boolean)) (by decide +kernel) (Nat.le_of_ble_eq_true rfl) ?_
  intro vp ve s vm args below meth vc hx hb hr hlk hts hown hml hnm ls hl hz hM hG R Q hR hQ
  have hown : s.vm.findClass "BlindMintModel" = some vm.cls := hown
  have hK := hG.K
  have hS : va_S (bm_A base) s.heap s.heap [] := va_S.rf
  have hl : lv_has ls 3 [(0, .ref m), (1, .int v), (2, .int w)] := hl
  have hF : bm_fr m M M := bm_fr.rf
  refine lv_iload_n hx hb dM_noNumber_0 rfl (lv_at hl 1 rfl) ?_
  refine lv_aload_n hx hb dM_noNumber_1 rfl (lv_at hl 0 rfl) ?_
  refine bm_get (ci := 7) (v := .int np) (C := "BlindMintModel") (T := bt_M) (N := 22) hx hb hts bu_M hown hK hM hP.c0 rfl 11 (by decide) (hts _ bw_613) (fun _ h9 => h9) rfl dM_noNumber_2 ?_
  refine bm_callE (va_runS (As := [.int v, .int np]) (rest := []) ⟨hx, hb, hml, hown, hts⟩ (bc_M_below l D ct base ad M sz v np) (va_cwS 2 hts (bm_goodS bw_679 bw_680 bw_5 bw_681) rfl rfl rfl (by decide +kernel) (by rw [← hR]; exact ⟨Nat.le_of_ble_eq_true rfl, Nat.le_of_ble_eq_true rfl⟩)) (bm_preS hM hG hS hz) rfl rfl hl.1 rfl (lv_room (Nat.le_of_ble_eq_true rfl)) dM_noNumber_5 (by rw [← hR]; exact ⟨Nat.le_of_ble_eq_true rfl, Nat.le_of_ble_eq_true rfl⟩)) hS (fun H locs hz hM hS => ?_)
  refine lv_if_eq (tgt := 20) hx hb dM_noNumber_8 rfl (fun h8 => absurd h8 (by rw [hv]; decide)) (fun h8 => ?_)
  refine lv_iload_n hx hb dM_noNumber_11 rfl (lv_at hl 2 rfl) ?_
  refine lv_bipush (v := 16) hx hb dM_noNumber_12 (by decide) ?_
  refine bm_callE (va_runS (As := [.int w, .int 16]) (rest := []) ⟨hx, hb, hml, hown, hts⟩ (bc_M_below l D ct base ad M sz w 16) (va_cwS 2 hts (bm_goodS bw_679 bw_680 bw_5 bw_681) rfl rfl rfl (by decide +kernel) (by rw [← hR]; exact ⟨Nat.le_of_ble_eq_true rfl, Nat.le_of_ble_eq_true rfl⟩)) (bm_preS hM hG hS hz) rfl rfl hl.1 rfl (lv_room (Nat.le_of_ble_eq_true rfl)) dM_noNumber_14 (by rw [← hR]; exact ⟨Nat.le_of_ble_eq_true rfl, Nat.le_of_ble_eq_true rfl⟩)) hS (fun H locs hz hM hS => ?_)
  refine lv_if_ne (tgt := 24) hx hb dM_noNumber_17 rfl (fun h17 => absurd hw h17) (fun h17 => ?_)
  refine lv_iconst (v := 1) hx hb dM_noNumber_20 (by decide) ?_
  refine lv_goto (tgt := 25) hx hb dM_noNumber_21 rfl ?_
  exact bm_zret hQ hx hb hr hlk (by decide) hM hS ⟨hz, ⟨rfl, hP⟩, hF⟩ (Nat.le_refl _) (Nat.le_refl _) dM_noNumber_25
set_option maxHeartbeats 4000000 in
set_option maxRecDepth 100000 in
theorem bc_M_noNumber_ok (l : Launch) (D : va_G) (ct : Nat → ClassId) (base : Nat) (ad : Nat → Nat) (M : bm_Map) (sz : Nat) (m : Nat) (th : Int32) (tr : Int32) (bl : Int64) (np : Int32) (nd : Int32) (f1 : Nat → Int32) (f2 : Nat → Int32) (f3 : Nat → Int32) (f4 : Nat → Int32) (g5 : Nat → Int64) (g6 : Nat → Int64) (f7 : Nat → Int32) (g8 : Nat → Int64) (g9 : Nat → Int64) (g10 : Nat → Int64) (g11 : Nat → Int64) (g12 : Nat → Int64) (g13 : Nat → Int64) (g14 : Nat → Int64) (g15 : Nat → Int64) (f16 : Nat → Int32) (g17 : Nat → Int64) (k i : Nat) (hP : bm_MD ct m th tr bl np nd f1 f2 f3 f4 g5 g6 f7 g8 g9 g10 g11 g12 g13 g14 g15 f16 g17 M) (hk : k < 20) (hi : i < 16) (hv : bm_bl (nI k) np = 1) : Met l yM_noNumber (bm_ws yM_noNumber cM_noNumber 3 (some .boolean)) { frames := 1, cells := 0, slots := 0, locals := 21 } (bm_Pre D ct base ad M sz [.ref m, .int (nI k), .int (nI i)]) (bm_Post D base (bm_Pm m M sz (fun v M1 => v = some (.int 0) ∧ bm_MD ct m th tr bl np nd f1 f2 f3 f4 g5 g6 f7 g8 g9 g10 g11 g12 g13 g14 g15 f16 g17 M1))) 0 0 (bm_A base) := by
  refine bm_ofB (cc := cM_noNumber) (maxL := 3) (ret := (some .boolean)) (by decide +kernel) (Nat.le_of_ble_eq_true rfl) ?_
  intro vp ve s vm args below meth vc hx hb hr hlk hts hown hml hnm ls hl hz hM hG R Q hR hQ
  have hown : s.vm.findClass "BlindMintModel" = some vm.cls := hown
  have hK := hG.K
  have hS : va_S (bm_A base) s.heap s.heap [] := va_S.rf
  have hl : lv_has ls 3 [(0, .ref m), (1, .int (nI k)), (2, .int (nI i))] := hl
  have hF : bm_fr m M M := bm_fr.rf
  refine lv_iload_n hx hb dM_noNumber_0 rfl (lv_at hl 1 rfl) ?_
  refine lv_aload_n hx hb dM_noNumber_1 rfl (lv_at hl 0 rfl) ?_
  refine bm_get (ci := 7) (v := .int np) (C := "BlindMintModel") (T := bt_M) (N := 22) hx hb hts bu_M hown hK hM hP.c0 rfl 11 (by decide) (hts _ bw_613) (fun _ h9 => h9) rfl dM_noNumber_2 ?_
  refine bm_callE (va_runS (As := [.int (nI k), .int np]) (rest := []) ⟨hx, hb, hml, hown, hts⟩ (bc_M_below l D ct base ad M sz (nI k) np) (va_cwS 2 hts (bm_goodS bw_679 bw_680 bw_5 bw_681) rfl rfl rfl (by decide +kernel) (by rw [← hR]; exact ⟨Nat.le_of_ble_eq_true rfl, Nat.le_of_ble_eq_true rfl⟩)) (bm_preS hM hG hS hz) rfl rfl hl.1 rfl (lv_room (Nat.le_of_ble_eq_true rfl)) dM_noNumber_5 (by rw [← hR]; exact ⟨Nat.le_of_ble_eq_true rfl, Nat.le_of_ble_eq_true rfl⟩)) hS (fun H locs hz hM hS => ?_)
  refine lv_if_eq (tgt := 20) hx hb dM_noNumber_8 rfl (fun h8 => absurd h8 (by rw [hv]; decide)) (fun h8 => ?_)
  refine lv_iload_n hx hb dM_noNumber_11 rfl (lv_at hl 2 rfl) ?_
  refine lv_bipush (v := 16) hx hb dM_noNumber_12 (by decide) ?_
  refine bm_callE (va_runS (As := [.int (nI i), .int 16]) (rest := []) ⟨hx, hb, hml, hown, hts⟩ (bc_M_below l D ct base ad M sz (nI i) 16) (va_cwS 2 hts (bm_goodS bw_679 bw_680 bw_5 bw_681) rfl rfl rfl (by decide +kernel) (by rw [← hR]; exact ⟨Nat.le_of_ble_eq_true rfl, Nat.le_of_ble_eq_true rfl⟩)) (bm_preS hM hG hS hz) rfl rfl hl.1 rfl (lv_room (Nat.le_of_ble_eq_true rfl)) dM_noNumber_14 (by rw [← hR]; exact ⟨Nat.le_of_ble_eq_true rfl, Nat.le_of_ble_eq_true rfl⟩)) hS (fun H locs hz hM hS => ?_)
  refine lv_if_ne (tgt := 24) hx hb dM_noNumber_17 rfl (fun h17 => ?_) (fun h17 => absurd h17 (by rw [show bm_bl (nI i) 16 = 1 from bm_bl_nI (N := 16) hi (by decide)]; decide))
  refine lv_iconst (v := 0) hx hb dM_noNumber_24 (by decide) ?_
  exact bm_zret hQ hx hb hr hlk (by decide) hM hS ⟨hz, ⟨rfl, hP⟩, hF⟩ (Nat.le_refl _) (Nat.le_refl _) dM_noNumber_25
set_option maxHeartbeats 4000000 in
set_option maxRecDepth 100000 in
theorem bc_M_number_n1 (l : Launch) (D : va_G) (ct : Nat → ClassId) (base : Nat) (ad : Nat → Nat) (M : bm_Map) (sz : Nat) (m : Nat) (th : Int32) (tr : Int32) (bl : Int64) (np : Int32) (nd : Int32) (f1 : Nat → Int32) (f2 : Nat → Int32) (f3 : Nat → Int32) (f4 : Nat → Int32) (g5 : Nat → Int64) (g6 : Nat → Int64) (f7 : Nat → Int32) (g8 : Nat → Int64) (g9 : Nat → Int64) (g10 : Nat → Int64) (g11 : Nat → Int64) (g12 : Nat → Int64) (g13 : Nat → Int64) (g14 : Nat → Int64) (g15 : Nat → Int64) (f16 : Nat → Int32) (g17 : Nat → Int64) (v w : Int32) (hP : bm_MD ct m th tr bl np nd f1 f2 f3 f4 g5 g6 f7 g8 g9 g10 g11 g12 g13 g14 g15 f16 g17 M) (hv : bm_bl v np = 0) : Met l yM_number (bm_ws yM_number cM_number 3 (some .long)) { frames := 2, cells := 0, slots := 0, locals := 43 } (bm_Pre D ct base ad M sz [.ref m, .int v, .int w]) (bm_Post D base (bm_Pm m M sz (fun v M1 => v = some (.long 0) ∧ bm_MD ct m 1 tr bl np nd f1 f2 f3 f4 g5 g6 f7 g8 g9 g10 g11 g12 g13 g14 g15 f16 g17 M1))) 0 0 (bm_A base) := by
  refine bm_ofB (cc := cM_number) (maxL := 3) (ret := (some .long)) (by decide +kernel) (Nat.le_of_ble_eq_true rfl) ?_
  intro vp ve s vm args below meth vc hx hb hr hlk hts hown hml hnm ls hl hz hM hG R Q hR hQ
  have hown : s.vm.findClass "BlindMintModel" = some vm.cls := hown
  have hK := hG.K
  have hS : va_S (bm_A base) s.heap s.heap [] := va_S.rf
  have hl : lv_has ls 3 [(0, .ref m), (1, .int v), (2, .int w)] := hl
  have hF : bm_fr m M M := bm_fr.rf
  refine lv_aload_n hx hb dM_number_0 rfl (lv_at hl 0 rfl) ?_
  refine lv_iconst (v := 0) hx hb dM_number_1 (by decide) ?_
  refine bm_put (ci := 7) (v := .int 0) (ty := .int) (C := "BlindMintModel") (T := bt_M) (N := 22) hx hb hts bu_M by_M bo_M bn_M hown hK hM hS hP.c0 rfl 0 (by decide) (hts _ bw_602) (fun _ h9 => h9) rfl (by decide +kernel) rfl rfl (Nat.le_of_ble_eq_true rfl) dM_number_2 (fun H locs hz1 hM hS => ?_)
  have hz := hz1.trans hz
  obtain ⟨M1, hM, hP, hF⟩ : ∃ X, bm_M D base X H ∧ bm_MD ct m 0 tr bl np nd f1 f2 f3 f4 g5 g6 f7 g8 g9 g10 g11 g12 g13 g14 g15 f16 g17 X ∧ bm_fr m M X := ⟨_, hM, hP.s_th _, hF.up0⟩
  refine lv_aload_n hx hb dM_number_5 rfl (lv_at hl 0 rfl) ?_
  refine lv_iload_n hx hb dM_number_6 rfl (lv_at hl 1 rfl) ?_
  refine lv_iload_n hx hb dM_number_7 rfl (lv_at hl 2 rfl) ?_
  refine bm_call (va_runV (As := [.int v, .int w]) (rest := []) ⟨hx, hb, hml, hown, hts⟩ (bc_M_noNumber_n1 l D ct base ad M1 sz m 0 tr bl np nd f1 f2 f3 f4 g5 g6 f7 g8 g9 g10 g11 g12 g13 g14 g15 f16 g17 v w hP hv) (cwV 2 hts (bm_goodV bw_768 bw_770 bs_16 bw_5 bw_771) rfl rfl rfl (by decide +kernel) (by rw [← hR]; exact ⟨Nat.le_of_ble_eq_true rfl, Nat.le_of_ble_eq_true rfl⟩)) (bm_preV hM hG hS hz hP.c0 rfl) rfl rfl hl.1 rfl (lv_room (Nat.le_of_ble_eq_true rfl)) dM_number_8 (by rw [← hR]; exact ⟨Nat.le_of_ble_eq_true rfl, Nat.le_of_ble_eq_true rfl⟩)) hS (fun v9 M2 H locs hq hM hS _ => ?_)
  obtain ⟨hz, ⟨rfl, hP⟩, hF9⟩ := hq
  have hF := hF.tr hF9
  refine lv_if_eq (tgt := 23) hx hb dM_number_11 rfl (fun h => absurd h (by decide)) (fun _ => ?_)
  refine lv_aload_n hx hb dM_number_14 rfl (lv_at hl 0 rfl) ?_
  refine lv_iconst (v := 1) hx hb dM_number_15 (by decide) ?_
  refine bm_call (va_runV (As := [.int 1]) (rest := []) ⟨hx, hb, hml, hown, hts⟩ (bc_M_fail l D ct base ad M2 sz m 0 tr bl np nd f1 f2 f3 f4 g5 g6 f7 g8 g9 g10 g11 g12 g13 g14 g15 f16 g17 1 hP) (cwV 1 hts (bm_goodV bw_682 bw_684 bs_10 bw_5 bw_685) rfl rfl rfl (by decide +kernel) (by rw [← hR]; exact ⟨Nat.le_of_ble_eq_true rfl, Nat.le_of_ble_eq_true rfl⟩)) (bm_preV hM hG hS hz hP.c0 rfl) rfl rfl hl.1 rfl (lv_room (Nat.le_of_ble_eq_true rfl)) dM_number_16 (by rw [← hR]; exact ⟨Nat.le_of_ble_eq_true rfl, Nat.le_of_ble_eq_true rfl⟩)) hS (fun v9 M3 H locs hq hM hS _ => ?_)
  obtain ⟨hz, ⟨rfl, hP⟩, hF9⟩ := hq
  have hF := hF.tr hF9
  refine lv_i2l (v := 0) hx hb dM_number_19 (by decide) ?_
  refine lv_goto (tgt := 34) hx hb dM_number_20 rfl ?_
  exact bm_lret hQ hx hb hr hlk hM hS ⟨hz, ⟨rfl, hP⟩, hF⟩ (Nat.le_refl _) (Nat.le_refl _) dM_number_34
set_option maxHeartbeats 4000000 in
set_option maxRecDepth 100000 in
theorem bc_M_tamper_n1 (l : Launch) (D : va_G) (ct : Nat → ClassId) (base : Nat) (ad : Nat → Nat) (M : bm_Map) (sz : Nat) (m : Nat) (th : Int32) (tr : Int32) (bl : Int64) (np : Int32) (nd : Int32) (f1 : Nat → Int32) (f2 : Nat → Int32) (f3 : Nat → Int32) (f4 : Nat → Int32) (g5 : Nat → Int64) (g6 : Nat → Int64) (f7 : Nat → Int32) (g8 : Nat → Int64) (g9 : Nat → Int64) (g10 : Nat → Int64) (g11 : Nat → Int64) (g12 : Nat → Int64) (g13 : Nat → Int64) (g14 : Nat → Int64) (g15 : Nat → Int64) (f16 : Nat → Int32) (g17 : Nat → Int64) (v w : Int32) (mask : Int64) (hP : bm_MD ct m th tr bl np nd f1 f2 f3 f4 g5 g6 f7 g8 g9 g10 g11 g12 g13 g14 g15 f16 g17 M) (hv : bm_bl v np = 0) : Met l yM_tamper (bm_ws yM_tamper cM_tamper 5 (some .long)) { frames := 2, cells := 0, slots := 0, locals := 43 } (bm_Pre D ct base ad M sz [.ref m, .int v, .int w, .long mask]) (bm_Post D base (bm_Pm m M sz (fun v M1 => v = some (.long 0) ∧ bm_MD ct m 1 tr bl np nd f1 f2 f3 f4 g5 g6 f7 g8 g9 g10 g11 g12 g13 g14 g15 f16 g17 M1))) 0 0 (bm_A base) := by
  refine bm_ofB (cc := cM_tamper) (maxL := 5) (ret := (some .long)) (by decide +kernel) (Nat.le_of_ble_eq_true rfl) ?_
  intro vp ve s vm args below meth vc hx hb hr hlk hts hown hml hnm ls hl hz hM hG R Q hR hQ
  have hown : s.vm.findClass "BlindMintModel" = some vm.cls := hown
  have hK := hG.K
  have hS : va_S (bm_A base) s.heap s.heap [] := va_S.rf
  have hl : lv_has ls 5 [(0, .ref m), (1, .int v), (2, .int w), (3, .long mask)] := hl
  have hF : bm_fr m M M := bm_fr.rf
  refine lv_aload_n hx hb dM_tamper_0 rfl (lv_at hl 0 rfl) ?_
  refine lv_iconst (v := 0) hx hb dM_tamper_1 (by decide) ?_
  refine bm_put (ci := 7) (v := .int 0) (ty := .int) (C := "BlindMintModel") (T := bt_M) (N := 22) hx hb hts bu_M by_M bo_M bn_M hown hK hM hS hP.c0 rfl 0 (by decide) (hts _ bw_602) (fun _ h9 => h9) rfl (by decide +kernel) rfl rfl (Nat.le_of_ble_eq_true rfl) dM_tamper_2 (fun H locs hz1 hM hS => ?_)
  have hz := hz1.trans hz
  obtain ⟨M1, hM, hP, hF⟩ : ∃ X, bm_M D base X H ∧ bm_MD ct m 0 tr bl np nd f1 f2 f3 f4 g5 g6 f7 g8 g9 g10 g11 g12 g13 g14 g15 f16 g17 X ∧ bm_fr m M X := ⟨_, hM, hP.s_th _, hF.up0⟩
  refine lv_aload_n hx hb dM_tamper_5 rfl (lv_at hl 0 rfl) ?_
  refine lv_iload_n hx hb dM_tamper_6 rfl (lv_at hl 1 rfl) ?_
  refine lv_iload_n hx hb dM_tamper_7 rfl (lv_at hl 2 rfl) ?_
  refine bm_call (va_runV (As := [.int v, .int w]) (rest := []) ⟨hx, hb, hml, hown, hts⟩ (bc_M_noNumber_n1 l D ct base ad M1 sz m 0 tr bl np nd f1 f2 f3 f4 g5 g6 f7 g8 g9 g10 g11 g12 g13 g14 g15 f16 g17 v w hP hv) (cwV 2 hts (bm_goodV bw_768 bw_770 bs_16 bw_5 bw_771) rfl rfl rfl (by decide +kernel) (by rw [← hR]; exact ⟨Nat.le_of_ble_eq_true rfl, Nat.le_of_ble_eq_true rfl⟩)) (bm_preV hM hG hS hz hP.c0 rfl) rfl rfl hl.1 rfl (lv_room (Nat.le_of_ble_eq_true rfl)) dM_tamper_8 (by rw [← hR]; exact ⟨Nat.le_of_ble_eq_true rfl, Nat.le_of_ble_eq_true rfl⟩)) hS (fun v9 M2 H locs hq hM hS _ => ?_)
  obtain ⟨hz, ⟨rfl, hP⟩, hF9⟩ := hq
  have hF := hF.tr hF9
  refine lv_if_eq (tgt := 21) hx hb dM_tamper_11 rfl (fun h => absurd h (by decide)) (fun _ => ?_)
  refine lv_aload_n hx hb dM_tamper_14 rfl (lv_at hl 0 rfl) ?_
  refine lv_iconst (v := 1) hx hb dM_tamper_15 (by decide) ?_
  refine bm_call (va_runV (As := [.int 1]) (rest := []) ⟨hx, hb, hml, hown, hts⟩ (bc_M_fail l D ct base ad M2 sz m 0 tr bl np nd f1 f2 f3 f4 g5 g6 f7 g8 g9 g10 g11 g12 g13 g14 g15 f16 g17 1 hP) (cwV 1 hts (bm_goodV bw_682 bw_684 bs_10 bw_5 bw_685) rfl rfl rfl (by decide +kernel) (by rw [← hR]; exact ⟨Nat.le_of_ble_eq_true rfl, Nat.le_of_ble_eq_true rfl⟩)) (bm_preV hM hG hS hz hP.c0 rfl) rfl rfl hl.1 rfl (lv_room (Nat.le_of_ble_eq_true rfl)) dM_tamper_16 (by rw [← hR]; exact ⟨Nat.le_of_ble_eq_true rfl, Nat.le_of_ble_eq_true rfl⟩)) hS (fun v9 M3 H locs hq hM hS _ => ?_)
  obtain ⟨hz, ⟨rfl, hP⟩, hF9⟩ := hq
  have hF := hF.tr hF9
  refine lv_i2l (v := 0) hx hb dM_tamper_19 (by decide) ?_
  exact bm_lret hQ hx hb hr hlk hM hS ⟨hz, ⟨rfl, hP⟩, hF⟩ (Nat.le_refl _) (Nat.le_refl _) dM_tamper_20
set_option maxHeartbeats 4000000 in
set_option maxRecDepth 100000 in
theorem bc_M_number_n2 (l : Launch) (D : va_G) (ct : Nat → ClassId) (base : Nat) (ad : Nat → Nat) (M : bm_Map) (sz : Nat) (m : Nat) (th : Int32) (tr : Int32) (bl : Int64) (np : Int32) (nd : Int32) (f1 : Nat → Int32) (f2 : Nat → Int32) (f3 : Nat → Int32) (f4 : Nat → Int32) (g5 : Nat → Int64) (g6 : Nat → Int64) (f7 : Nat → Int32) (g8 : Nat → Int64) (g9 : Nat → Int64) (g10 : Nat → Int64) (g11 : Nat → Int64) (g12 : Nat → Int64) (g13 : Nat → Int64) (g14 : Nat → Int64) (g15 : Nat → Int64) (f16 : Nat → Int32) (g17 : Nat → Int64) (v w : Int32) (hP : bm_MD ct m th tr bl np nd f1 f2 f3 f4 g5 g6 f7 g8 g9 g10 g11 g12 g13 g14 g15 f16 g17 M) (hv : bm_bl v np = 1) (hw : bm_bl w 16 = 0) : Met l yM_number (bm_ws yM_number cM_number 3 (some .long)) { frames := 2, cells := 0, slots := 0, locals := 43 } (bm_Pre D ct base ad M sz [.ref m, .int v, .int w]) (bm_Post D base (bm_Pm m M sz (fun v M1 => v = some (.long 0) ∧ bm_MD ct m 1 tr bl np nd f1 f2 f3 f4 g5 g6 f7 g8 g9 g10 g11 g12 g13 g14 g15 f16 g17 M1))) 0 0 (bm_A base) := by
  refine bm_ofB (cc := cM_number) (maxL := 3) (ret := (some .long)) (by decide +kernel) (Nat.le_of_ble_eq_true rfl) ?_
  intro vp ve s vm args below meth vc hx hb hr hlk hts hown hml hnm ls hl hz hM hG R Q hR hQ
  have hown : s.vm.findClass "BlindMintModel" = some vm.cls := hown
  have hK := hG.K
  have hS : va_S (bm_A base) s.heap s.heap [] := va_S.rf
  have hl : lv_has ls 3 [(0, .ref m), (1, .int v), (2, .int w)] := hl
  have hF : bm_fr m M M := bm_fr.rf
  refine lv_aload_n hx hb dM_number_0 rfl (lv_at hl 0 rfl) ?_
  refine lv_iconst (v := 0) hx hb dM_number_1 (by decide) ?_
  refine bm_put (ci := 7) (v := .int 0) (ty := .int) (C := "BlindMintModel") (T := bt_M) (N := 22) hx hb hts bu_M by_M bo_M bn_M hown hK hM hS hP.c0 rfl 0 (by decide) (hts _ bw_602) (fun _ h9 => h9) rfl (by decide +kernel) rfl rfl (Nat.le_of_ble_eq_true rfl) dM_number_2 (fun H locs hz1 hM hS => ?_)
  have hz := hz1.trans hz
  obtain ⟨M1, hM, hP, hF⟩ : ∃ X, bm_M D base X H ∧ bm_MD ct m 0 tr bl np nd f1 f2 f3 f4 g5 g6 f7 g8 g9 g10 g11 g12 g13 g14 g15 f16 g17 X ∧ bm_fr m M X := ⟨_, hM, hP.s_th _, hF.up0⟩
  refine lv_aload_n hx hb dM_number_5 rfl (lv_at hl 0 rfl) ?_
  refine lv_iload_n hx hb dM_number_6 rfl (lv_at hl 1 rfl) ?_
  refine lv_iload_n hx hb dM_number_7 rfl (lv_at hl 2 rfl) ?_
  refine bm_call (va_runV (As := [.int v, .int w]) (rest := []) ⟨hx, hb, hml, hown, hts⟩ (bc_M_noNumber_n2 l D ct base ad M1 sz m 0 tr bl np nd f1 f2 f3 f4 g5 g6 f7 g8 g9 g10 g11 g12 g13 g14 g15 f16 g17 v w hP hv hw) (cwV 2 hts (bm_goodV bw_768 bw_770 bs_16 bw_5 bw_771) rfl rfl rfl (by decide +kernel) (by rw [← hR]; exact ⟨Nat.le_of_ble_eq_true rfl, Nat.le_of_ble_eq_true rfl⟩)) (bm_preV hM hG hS hz hP.c0 rfl) rfl rfl hl.1 rfl (lv_room (Nat.le_of_ble_eq_true rfl)) dM_number_8 (by rw [← hR]; exact ⟨Nat.le_of_ble_eq_true rfl, Nat.le_of_ble_eq_true rfl⟩)) hS (fun v9 M2 H locs hq hM hS _ => ?_)
  obtain ⟨hz, ⟨rfl, hP⟩, hF9⟩ := hq
  have hF := hF.tr hF9
  refine lv_if_eq (tgt := 23) hx hb dM_number_11 rfl (fun h => absurd h (by decide)) (fun _ => ?_)
  refine lv_aload_n hx hb dM_number_14 rfl (lv_at hl 0 rfl) ?_
  refine lv_iconst (v := 1) hx hb dM_number_15 (by decide) ?_
  refine bm_call (va_runV (As := [.int 1]) (rest := []) ⟨hx, hb, hml, hown, hts⟩ (bc_M_fail l D ct base ad M2 sz m 0 tr bl np nd f1 f2 f3 f4 g5 g6 f7 g8 g9 g10 g11 g12 g13 g14 g15 f16 g17 1 hP) (cwV 1 hts (bm_goodV bw_682 bw_684 bs_10 bw_5 bw_685) rfl rfl rfl (by decide +kernel) (by rw [← hR]; exact ⟨Nat.le_of_ble_eq_true rfl, Nat.le_of_ble_eq_true rfl⟩)) (bm_preV hM hG hS hz hP.c0 rfl) rfl rfl hl.1 rfl (lv_room (Nat.le_of_ble_eq_true rfl)) dM_number_16 (by rw [← hR]; exact ⟨Nat.le_of_ble_eq_true rfl, Nat.le_of_ble_eq_true rfl⟩)) hS (fun v9 M3 H locs hq hM hS _ => ?_)
  obtain ⟨hz, ⟨rfl, hP⟩, hF9⟩ := hq
  have hF := hF.tr hF9
  refine lv_i2l (v := 0) hx hb dM_number_19 (by decide) ?_
  refine lv_goto (tgt := 34) hx hb dM_number_20 rfl ?_
  exact bm_lret hQ hx hb hr hlk hM hS ⟨hz, ⟨rfl, hP⟩, hF⟩ (Nat.le_refl _) (Nat.le_refl _) dM_number_34
set_option maxHeartbeats 4000000 in
set_option maxRecDepth 100000 in
theorem bc_M_tamper_n2 (l : Launch) (D : va_G) (ct : Nat → ClassId) (base : Nat) (ad : Nat → Nat) (M : bm_Map) (sz : Nat) (m : Nat) (th : Int32) (tr : Int32) (bl : Int64) (np : Int32) (nd : Int32) (f1 : Nat → Int32) (f2 : Nat → Int32) (f3 : Nat → Int32) (f4 : Nat → Int32) (g5 : Nat → Int64) (g6 : Nat → Int64) (f7 : Nat → Int32) (g8 : Nat → Int64) (g9 : Nat → Int64) (g10 : Nat → Int64) (g11 : Nat → Int64) (g12 : Nat → Int64) (g13 : Nat → Int64) (g14 : Nat → Int64) (g15 : Nat → Int64) (f16 : Nat → Int32) (g17 : Nat → Int64) (v w : Int32) (mask : Int64) (hP : bm_MD ct m th tr bl np nd f1 f2 f3 f4 g5 g6 f7 g8 g9 g10 g11 g12 g13 g14 g15 f16 g17 M) (hv : bm_bl v np = 1) (hw : bm_bl w 16 = 0) : Met l yM_tamper (bm_ws yM_tamper cM_tamper 5 (some .long)) { frames := 2, cells := 0, slots := 0, locals := 43 } (bm_Pre D ct base ad M sz [.ref m, .int v, .int w, .long mask]) (bm_Post D base (bm_Pm m M sz (fun v M1 => v = some (.long 0) ∧ bm_MD ct m 1 tr bl np nd f1 f2 f3 f4 g5 g6 f7 g8 g9 g10 g11 g12 g13 g14 g15 f16 g17 M1))) 0 0 (bm_A base) := by
  refine bm_ofB (cc := cM_tamper) (maxL := 5) (ret := (some .long)) (by decide +kernel) (Nat.le_of_ble_eq_true rfl) ?_
  intro vp ve s vm args below meth vc hx hb hr hlk hts hown hml hnm ls hl hz hM hG R Q hR hQ
  have hown : s.vm.findClass "BlindMintModel" = some vm.cls := hown
  have hK := hG.K
  have hS : va_S (bm_A base) s.heap s.heap [] := va_S.rf
  have hl : lv_has ls 5 [(0, .ref m), (1, .int v), (2, .int w), (3, .long mask)] := hl
  have hF : bm_fr m M M := bm_fr.rf
  refine lv_aload_n hx hb dM_tamper_0 rfl (lv_at hl 0 rfl) ?_
  refine lv_iconst (v := 0) hx hb dM_tamper_1 (by decide) ?_
  refine bm_put (ci := 7) (v := .int 0) (ty := .int) (C := "BlindMintModel") (T := bt_M) (N := 22) hx hb hts bu_M by_M bo_M bn_M hown hK hM hS hP.c0 rfl 0 (by decide) (hts _ bw_602) (fun _ h9 => h9) rfl (by decide +kernel) rfl rfl (Nat.le_of_ble_eq_true rfl) dM_tamper_2 (fun H locs hz1 hM hS => ?_)
  have hz := hz1.trans hz
  obtain ⟨M1, hM, hP, hF⟩ : ∃ X, bm_M D base X H ∧ bm_MD ct m 0 tr bl np nd f1 f2 f3 f4 g5 g6 f7 g8 g9 g10 g11 g12 g13 g14 g15 f16 g17 X ∧ bm_fr m M X := ⟨_, hM, hP.s_th _, hF.up0⟩
  refine lv_aload_n hx hb dM_tamper_5 rfl (lv_at hl 0 rfl) ?_
  refine lv_iload_n hx hb dM_tamper_6 rfl (lv_at hl 1 rfl) ?_
  refine lv_iload_n hx hb dM_tamper_7 rfl (lv_at hl 2 rfl) ?_
  refine bm_call (va_runV (As := [.int v, .int w]) (rest := []) ⟨hx, hb, hml, hown, hts⟩ (bc_M_noNumber_n2 l D ct base ad M1 sz m 0 tr bl np nd f1 f2 f3 f4 g5 g6 f7 g8 g9 g10 g11 g12 g13 g14 g15 f16 g17 v w hP hv hw) (cwV 2 hts (bm_goodV bw_768 bw_770 bs_16 bw_5 bw_771) rfl rfl rfl (by decide +kernel) (by rw [← hR]; exact ⟨Nat.le_of_ble_eq_true rfl, Nat.le_of_ble_eq_true rfl⟩)) (bm_preV hM hG hS hz hP.c0 rfl) rfl rfl hl.1 rfl (lv_room (Nat.le_of_ble_eq_true rfl)) dM_tamper_8 (by rw [← hR]; exact ⟨Nat.le_of_ble_eq_true rfl, Nat.le_of_ble_eq_true rfl⟩)) hS (fun v9 M2 H locs hq hM hS _ => ?_)
  obtain ⟨hz, ⟨rfl, hP⟩, hF9⟩ := hq
  have hF := hF.tr hF9
  refine lv_if_eq (tgt := 21) hx hb dM_tamper_11 rfl (fun h => absurd h (by decide)) (fun _ => ?_)
  refine lv_aload_n hx hb dM_tamper_14 rfl (lv_at hl 0 rfl) ?_
  refine lv_iconst (v := 1) hx hb dM_tamper_15 (by decide) ?_
  refine bm_call (va_runV (As := [.int 1]) (rest := []) ⟨hx, hb, hml, hown, hts⟩ (bc_M_fail l D ct base ad M2 sz m 0 tr bl np nd f1 f2 f3 f4 g5 g6 f7 g8 g9 g10 g11 g12 g13 g14 g15 f16 g17 1 hP) (cwV 1 hts (bm_goodV bw_682 bw_684 bs_10 bw_5 bw_685) rfl rfl rfl (by decide +kernel) (by rw [← hR]; exact ⟨Nat.le_of_ble_eq_true rfl, Nat.le_of_ble_eq_true rfl⟩)) (bm_preV hM hG hS hz hP.c0 rfl) rfl rfl hl.1 rfl (lv_room (Nat.le_of_ble_eq_true rfl)) dM_tamper_16 (by rw [← hR]; exact ⟨Nat.le_of_ble_eq_true rfl, Nat.le_of_ble_eq_true rfl⟩)) hS (fun v9 M3 H locs hq hM hS _ => ?_)
  obtain ⟨hz, ⟨rfl, hP⟩, hF9⟩ := hq
  have hF := hF.tr hF9
  refine lv_i2l (v := 0) hx hb dM_tamper_19 (by decide) ?_
  exact bm_lret hQ hx hb hr hlk hM hS ⟨hz, ⟨rfl, hP⟩, hF⟩ (Nat.le_refl _) (Nat.le_refl _) dM_tamper_20
set_option maxHeartbeats 4000000 in
set_option maxRecDepth 100000 in
theorem bc_M_number_ok (l : Launch) (D : va_G) (ct : Nat → ClassId) (base : Nat) (ad : Nat → Nat) (M : bm_Map) (sz : Nat) (m : Nat) (th : Int32) (tr : Int32) (bl : Int64) (np : Int32) (nd : Int32) (f1 : Nat → Int32) (f2 : Nat → Int32) (f3 : Nat → Int32) (f4 : Nat → Int32) (g5 : Nat → Int64) (g6 : Nat → Int64) (f7 : Nat → Int32) (g8 : Nat → Int64) (g9 : Nat → Int64) (g10 : Nat → Int64) (g11 : Nat → Int64) (g12 : Nat → Int64) (g13 : Nat → Int64) (g14 : Nat → Int64) (g15 : Nat → Int64) (f16 : Nat → Int32) (g17 : Nat → Int64) (k i : Nat) (hP : bm_MD ct m th tr bl np nd f1 f2 f3 f4 g5 g6 f7 g8 g9 g10 g11 g12 g13 g14 g15 f16 g17 M) (hk : k < 20) (hi : i < 16) (hv : bm_bl (nI k) np = 1) : Met l yM_number (bm_ws yM_number cM_number 3 (some .long)) { frames := 2, cells := 0, slots := 0, locals := 43 } (bm_Pre D ct base ad M sz [.ref m, .int (nI k), .int (nI i)]) (bm_Post D base (bm_Pm m M sz (fun v M1 => v = some (.long (g9 (16 * k + i))) ∧ bm_MD ct m 0 tr bl np nd f1 f2 f3 f4 g5 g6 f7 g8 g9 g10 g11 g12 g13 g14 g15 f16 g17 M1))) 0 0 (bm_A base) := by
  refine bm_ofB (cc := cM_number) (maxL := 3) (ret := (some .long)) (by decide +kernel) (Nat.le_of_ble_eq_true rfl) ?_
  intro vp ve s vm args below meth vc hx hb hr hlk hts hown hml hnm ls hl hz hM hG R Q hR hQ
  have hown : s.vm.findClass "BlindMintModel" = some vm.cls := hown
  have hK := hG.K
  have hS : va_S (bm_A base) s.heap s.heap [] := va_S.rf
  have hl : lv_has ls 3 [(0, .ref m), (1, .int (nI k)), (2, .int (nI i))] := hl
  have hF : bm_fr m M M := bm_fr.rf
  refine lv_aload_n hx hb dM_number_0 rfl (lv_at hl 0 rfl) ?_
  refine lv_iconst (v := 0) hx hb dM_number_1 (by decide) ?_
  refine bm_put (ci := 7) (v := .int 0) (ty := .int) (C := "BlindMintModel") (T := bt_M) (N := 22) hx hb hts bu_M by_M bo_M bn_M hown hK hM hS hP.c0 rfl 0 (by decide) (hts _ bw_602) (fun _ h9 => h9) rfl (by decide +kernel) rfl rfl (Nat.le_of_ble_eq_true rfl) dM_number_2 (fun H locs hz1 hM hS => ?_)
  have hz := hz1.trans hz
  obtain ⟨M1, hM, hP, hF⟩ : ∃ X, bm_M D base X H ∧ bm_MD ct m 0 tr bl np nd f1 f2 f3 f4 g5 g6 f7 g8 g9 g10 g11 g12 g13 g14 g15 f16 g17 X ∧ bm_fr m M X := ⟨_, hM, hP.s_th _, hF.up0⟩
  refine lv_aload_n hx hb dM_number_5 rfl (lv_at hl 0 rfl) ?_
  refine lv_iload_n hx hb dM_number_6 rfl (lv_at hl 1 rfl) ?_
  refine lv_iload_n hx hb dM_number_7 rfl (lv_at hl 2 rfl) ?_
  refine bm_call (va_runV (As := [.int (nI k), .int (nI i)]) (rest := []) ⟨hx, hb, hml, hown, hts⟩ (bc_M_noNumber_ok l D ct base ad M1 sz m 0 tr bl np nd f1 f2 f3 f4 g5 g6 f7 g8 g9 g10 g11 g12 g13 g14 g15 f16 g17 k i hP hk hi hv) (cwV 2 hts (bm_goodV bw_768 bw_770 bs_16 bw_5 bw_771) rfl rfl rfl (by decide +kernel) (by rw [← hR]; exact ⟨Nat.le_of_ble_eq_true rfl, Nat.le_of_ble_eq_true rfl⟩)) (bm_preV hM hG hS hz hP.c0 rfl) rfl rfl hl.1 rfl (lv_room (Nat.le_of_ble_eq_true rfl)) dM_number_8 (by rw [← hR]; exact ⟨Nat.le_of_ble_eq_true rfl, Nat.le_of_ble_eq_true rfl⟩)) hS (fun v9 M2 H locs hq hM hS _ => ?_)
  obtain ⟨hz, ⟨rfl, hP⟩, hF9⟩ := hq
  have hF := hF.tr hF9
  refine lv_if_eq (tgt := 23) hx hb dM_number_11 rfl (fun _ => ?_) (fun h => absurd h (by decide))
  refine lv_aload_n hx hb dM_number_23 rfl (lv_at hl 0 rfl) ?_
  refine bm_get (ci := 7) (v := .ref (m + 9)) (C := "BlindMintModel") (T := bt_M) (N := 22) hx hb hts bu_M hown hK hM hP.c0 rfl 12 (by decide) (hts _ bw_614) (fun _ h9 => h9) rfl dM_number_24 ?_
  refine lv_bipush (v := 16) hx hb dM_number_27 (by decide) ?_
  refine lv_iload_n hx hb dM_number_29 rfl (lv_at hl 1 rfl) ?_
  refine lv_imul hx hb dM_number_30 ?_
  refine lv_iload_n hx hb dM_number_31 rfl (lv_at hl 2 rfl) ?_
  refine lv_iadd hx hb dM_number_32 ?_
  refine bm_lald hx hb hK hM 1 hP.c9 rfl (16 * k + i) (bm_ixm (c := 16) (by omega)) (by omega) dM_number_33 ?_
  exact bm_lret hQ hx hb hr hlk hM hS ⟨hz, ⟨rfl, hP⟩, hF⟩ (Nat.le_refl _) (Nat.le_refl _) dM_number_34
set_option maxHeartbeats 4000000 in
set_option maxRecDepth 100000 in
theorem bc_M_tamper_ok (l : Launch) (D : va_G) (ct : Nat → ClassId) (base : Nat) (ad : Nat → Nat) (M : bm_Map) (sz : Nat) (m : Nat) (th : Int32) (tr : Int32) (bl : Int64) (np : Int32) (nd : Int32) (f1 : Nat → Int32) (f2 : Nat → Int32) (f3 : Nat → Int32) (f4 : Nat → Int32) (g5 : Nat → Int64) (g6 : Nat → Int64) (f7 : Nat → Int32) (g8 : Nat → Int64) (g9 : Nat → Int64) (g10 : Nat → Int64) (g11 : Nat → Int64) (g12 : Nat → Int64) (g13 : Nat → Int64) (g14 : Nat → Int64) (g15 : Nat → Int64) (f16 : Nat → Int32) (g17 : Nat → Int64) (k i : Nat) (mask : Int64) (hP : bm_MD ct m th tr bl np nd f1 f2 f3 f4 g5 g6 f7 g8 g9 g10 g11 g12 g13 g14 g15 f16 g17 M) (hk : k < 20) (hi : i < 16) (hv : bm_bl (nI k) np = 1) : Met l yM_tamper (bm_ws yM_tamper cM_tamper 5 (some .long)) { frames := 2, cells := 0, slots := 0, locals := 43 } (bm_Pre D ct base ad M sz [.ref m, .int (nI k), .int (nI i), .long mask]) (bm_Post D base (bm_Pm m M sz (fun v M1 => v = some (.long (g9 (16 * k + i) ^^^ mask)) ∧ bm_MD ct m 0 tr bl np nd f1 f2 f3 f4 g5 g6 f7 g8 (vp_updL g9 (16 * k + i) (g9 (16 * k + i) ^^^ mask)) g10 g11 g12 g13 g14 g15 f16 g17 M1))) 0 0 (bm_A base) := by
  refine bm_ofB (cc := cM_tamper) (maxL := 5) (ret := (some .long)) (by decide +kernel) (Nat.le_of_ble_eq_true rfl) ?_
  intro vp ve s vm args below meth vc hx hb hr hlk hts hown hml hnm ls hl hz hM hG R Q hR hQ
  have hown : s.vm.findClass "BlindMintModel" = some vm.cls := hown
  have hK := hG.K
  have hS : va_S (bm_A base) s.heap s.heap [] := va_S.rf
  have hl : lv_has ls 5 [(0, .ref m), (1, .int (nI k)), (2, .int (nI i)), (3, .long mask)] := hl
  have hF : bm_fr m M M := bm_fr.rf
  refine lv_aload_n hx hb dM_tamper_0 rfl (lv_at hl 0 rfl) ?_
  refine lv_iconst (v := 0) hx hb dM_tamper_1 (by decide) ?_
  refine bm_put (ci := 7) (v := .int 0) (ty := .int) (C := "BlindMintModel") (T := bt_M) (N := 22) hx hb hts bu_M by_M bo_M bn_M hown hK hM hS hP.c0 rfl 0 (by decide) (hts _ bw_602) (fun _ h9 => h9) rfl (by decide +kernel) rfl rfl (Nat.le_of_ble_eq_true rfl) dM_tamper_2 (fun H locs hz1 hM hS => ?_)
  have hz := hz1.trans hz
  obtain ⟨M1, hM, hP, hF⟩ : ∃ X, bm_M D base X H ∧ bm_MD ct m 0 tr bl np nd f1 f2 f3 f4 g5 g6 f7 g8 g9 g10 g11 g12 g13 g14 g15 f16 g17 X ∧ bm_fr m M X := ⟨_, hM, hP.s_th _, hF.up0⟩
  refine lv_aload_n hx hb dM_tamper_5 rfl (lv_at hl 0 rfl) ?_
  refine lv_iload_n hx hb dM_tamper_6 rfl (lv_at hl 1 rfl) ?_
  refine lv_iload_n hx hb dM_tamper_7 rfl (lv_at hl 2 rfl) ?_
  refine bm_call (va_runV (As := [.int (nI k), .int (nI i)]) (rest := []) ⟨hx, hb, hml, hown, hts⟩ (bc_M_noNumber_ok l D ct base ad M1 sz m 0 tr bl np nd f1 f2 f3 f4 g5 g6 f7 g8 g9 g10 g11 g12 g13 g14 g15 f16 g17 k i hP hk hi hv) (cwV 2 hts (bm_goodV bw_768 bw_770 bs_16 bw_5 bw_771) rfl rfl rfl (by decide +kernel) (by rw [← hR]; exact ⟨Nat.le_of_ble_eq_true rfl, Nat.le_of_ble_eq_true rfl⟩)) (bm_preV hM hG hS hz hP.c0 rfl) rfl rfl hl.1 rfl (lv_room (Nat.le_of_ble_eq_true rfl)) dM_tamper_8 (by rw [← hR]; exact ⟨Nat.le_of_ble_eq_true rfl, Nat.le_of_ble_eq_true rfl⟩)) hS (fun v9 M2 H locs hq hM hS _ => ?_)
  obtain ⟨hz, ⟨rfl, hP⟩, hF9⟩ := hq
  have hF := hF.tr hF9
  refine lv_if_eq (tgt := 21) hx hb dM_tamper_11 rfl (fun _ => ?_) (fun h => absurd h (by decide))
  refine lv_aload_n hx hb dM_tamper_21 rfl (lv_at hl 0 rfl) ?_
  refine bm_get (ci := 7) (v := .ref (m + 9)) (C := "BlindMintModel") (T := bt_M) (N := 22) hx hb hts bu_M hown hK hM hP.c0 rfl 12 (by decide) (hts _ bw_614) (fun _ h9 => h9) rfl dM_tamper_22 ?_
  refine lv_bipush (v := 16) hx hb dM_tamper_25 (by decide) ?_
  refine lv_iload_n hx hb dM_tamper_27 rfl (lv_at hl 1 rfl) ?_
  refine lv_imul hx hb dM_tamper_28 ?_
  refine lv_iload_n hx hb dM_tamper_29 rfl (lv_at hl 2 rfl) ?_
  refine lv_iadd hx hb dM_tamper_30 ?_
  refine lv_dup2_11 hx hb dM_tamper_31 rfl rfl ?_
  refine bm_lald hx hb hK hM 1 hP.c9 rfl (16 * k + i) (bm_ixm (c := 16) (by omega)) (by omega) dM_tamper_32 ?_
  refine lv_lload_n hx hb dM_tamper_33 rfl (lv_at hl 3 rfl) ?_
  refine lv_lxor hx hb dM_tamper_34 ?_
  refine bm_last hx hb hK hM hS 1 hP.c9 rfl (16 * k + i) (bm_ixm (c := 16) (by omega)) (by omega) dM_tamper_35 (fun H locs hz1 hM hS => ?_)
  have hz := hz1.trans hz
  obtain ⟨M3, hM, hP, hF⟩ : ∃ X, bm_M D base X H ∧ bm_MD ct m 0 tr bl np nd f1 f2 f3 f4 g5 g6 f7 g8 (vp_updL g9 (16 * k + i) ((g9 (16 * k + i)) ^^^ mask)) g10 g11 g12 g13 g14 g15 f16 g17 X ∧ bm_fr m M X := ⟨_, hM, hP.s9 _, hF.up (by decide)⟩
  refine lv_aload_n hx hb dM_tamper_36 rfl (lv_at hl 0 rfl) ?_
  refine bm_get (ci := 7) (v := .ref (m + 9)) (C := "BlindMintModel") (T := bt_M) (N := 22) hx hb hts bu_M hown hK hM hP.c0 rfl 12 (by decide) (hts _ bw_614) (fun _ h9 => h9) rfl dM_tamper_37 ?_
  refine lv_bipush (v := 16) hx hb dM_tamper_40 (by decide) ?_
  refine lv_iload_n hx hb dM_tamper_42 rfl (lv_at hl 1 rfl) ?_
  refine lv_imul hx hb dM_tamper_43 ?_
  refine lv_iload_n hx hb dM_tamper_44 rfl (lv_at hl 2 rfl) ?_
  refine lv_iadd hx hb dM_tamper_45 ?_
  refine bm_lald hx hb hK hM 1 hP.c9 rfl (16 * k + i) (bm_ixm (c := 16) (by omega)) (by omega) dM_tamper_46 ?_
  refine lv_topl (fun t4 e_t4 => ?_)
  have e_t4 : t4 = g9 (16 * k + i) ^^^ mask := by rw [e_t4]; exact pk_uLs
  subst e_t4
  exact bm_lret hQ hx hb hr hlk hM hS ⟨hz, ⟨rfl, hP⟩, hF⟩ (Nat.le_refl _) (Nat.le_refl _) dM_tamper_47
set_option maxHeartbeats 4000000 in
set_option maxRecDepth 100000 in
theorem bc_M_numberOf (l : Launch) (D : va_G) (ct : Nat → ClassId) (base : Nat) (ad : Nat → Nat) (M : bm_Map) (sz : Nat) (m : Nat) (th : Int32) (tr : Int32) (bl : Int64) (np : Int32) (nd : Int32) (f1 : Nat → Int32) (f2 : Nat → Int32) (f3 : Nat → Int32) (f4 : Nat → Int32) (g5 : Nat → Int64) (g6 : Nat → Int64) (f7 : Nat → Int32) (g8 : Nat → Int64) (g9 : Nat → Int64) (g10 : Nat → Int64) (g11 : Nat → Int64) (g12 : Nat → Int64) (g13 : Nat → Int64) (g14 : Nat → Int64) (g15 : Nat → Int64) (f16 : Nat → Int32) (g17 : Nat → Int64) (d : Int64) (hP : bm_MD ct m th tr bl np nd f1 f2 f3 f4 g5 g6 f7 g8 g9 g10 g11 g12 g13 g14 g15 f16 g17 M) : Met l yM_numberOf (bm_ws yM_numberOf cM_numberOf 6 (some .long)) { frames := 1, cells := 0, slots := 0, locals := 25 } (bm_Pre D ct base ad M sz [.ref m, .long d]) (bm_Post D base (bm_Pm m M sz (fun v M1 => v = some (.long (bm_hc d g17)) ∧ bm_MD ct m th tr bl np nd f1 f2 f3 f4 g5 g6 f7 g8 g9 g10 g11 g12 g13 g14 g15 f16 g17 M1))) 0 0 (bm_A base) := by
  refine bm_ofB (cc := cM_numberOf) (maxL := 6) (ret := (some .long)) (by decide +kernel) (Nat.le_of_ble_eq_true rfl) ?_
  intro vp ve s vm args below meth vc hx hb hr hlk hts hown hml hnm ls hl hz hM hG R Q hR hQ
  have hown : s.vm.findClass "BlindMintModel" = some vm.cls := hown
  have hK := hG.K
  have hS : va_S (bm_A base) s.heap s.heap [] := va_S.rf
  have hl : lv_has ls 6 [(0, .ref m), (1, .long d)] := hl
  have hF : bm_fr m M M := bm_fr.rf
  refine lv_ldc2 hx hb hown (hts _ bw_697) dM_numberOf_0 ?_
  refine lv_lload_n hx hb dM_numberOf_3 rfl (lv_at hl 1 rfl) ?_
  refine bm_callE (va_runS (As := [.long 7, .long d]) (rest := []) ⟨hx, hb, hml, hown, hts⟩ (bc_M_absorb l D ct base ad M sz 7 d) (va_cwS 2 hts (bm_goodS bw_698 bw_699 bw_5 bw_700) rfl rfl rfl (by decide +kernel) (by rw [← hR]; exact ⟨Nat.le_of_ble_eq_true rfl, Nat.le_of_ble_eq_true rfl⟩)) (bm_preS hM hG hS hz) rfl rfl hl.1 rfl (lv_room (Nat.le_of_ble_eq_true rfl)) dM_numberOf_4 (by rw [← hR]; exact ⟨Nat.le_of_ble_eq_true rfl, Nat.le_of_ble_eq_true rfl⟩)) hS (fun H locs hz hM hS => ?_)
  refine lv_lstore_n hx hb dM_numberOf_7 rfl hl (by decide) rfl (fun ls hl => ?_)
  have hl : lv_has ls 6 [(3, .long (bm_step 7 d)), (0, .ref m), (1, .long d)] := hl
  refine lv_iconst (v := 0) hx hb dM_numberOf_8 (by decide) ?_
  refine lv_istore hx hb dM_numberOf_9 hl (by decide) rfl (fun ls hl => ?_)
  have hl : lv_has ls 6 [(5, .int 0), (3, .long (bm_step 7 d)), (0, .ref m), (1, .long d)] := hl
  refine lv_iload hx hb dM_numberOf_11 (lv_at hl 0 rfl) ?_
  refine lv_iconst (v := 4) hx hb dM_numberOf_13 (by decide) ?_
  refine lv_icmp_ge (tgt := 35) hx hb dM_numberOf_14 rfl (fun h => absurd h (by decide)) (fun _ => ?_)
  refine lv_lload_n hx hb dM_numberOf_17 rfl (lv_at hl 1 rfl) ?_
  refine lv_aload_n hx hb dM_numberOf_18 rfl (lv_at hl 2 rfl) ?_
  refine bm_get (ci := 7) (v := .ref (m + 17)) (C := "BlindMintModel") (T := bt_M) (N := 22) hx hb hts bu_M hown hK hM hP.c0 rfl 21 (by decide) (hts _ bw_623) (fun _ h9 => h9) rfl dM_numberOf_19 ?_
  refine lv_iload hx hb dM_numberOf_22 (lv_at hl 0 rfl) ?_
  refine bm_lald hx hb hK hM 1 hP.c17 rfl 0 (bm_ix_nI (k := 0) (by decide)) (by decide) dM_numberOf_24 ?_
  refine bm_callE (va_runS (As := [.long (bm_step 7 d), .long (g17 0)]) (rest := []) ⟨hx, hb, hml, hown, hts⟩ (bc_M_absorb l D ct base ad M sz (bm_step 7 d) (g17 0)) (va_cwS 2 hts (bm_goodS bw_698 bw_699 bw_5 bw_700) rfl rfl rfl (by decide +kernel) (by rw [← hR]; exact ⟨Nat.le_of_ble_eq_true rfl, Nat.le_of_ble_eq_true rfl⟩)) (bm_preS hM hG hS hz) rfl rfl hl.1 rfl (lv_room (Nat.le_of_ble_eq_true rfl)) dM_numberOf_25 (by rw [← hR]; exact ⟨Nat.le_of_ble_eq_true rfl, Nat.le_of_ble_eq_true rfl⟩)) hS (fun H locs hz hM hS => ?_)
  refine lv_lstore_n hx hb dM_numberOf_28 rfl hl (by decide) rfl (fun ls hl => ?_)
  have hl : lv_has ls 6 [(3, .long (bm_step (bm_step 7 d) (g17 0))), (5, .int 0), (0, .ref m), (1, .long d)] := hl
  refine lv_iinc (v := 1) (k := 1) hx hb dM_numberOf_29 hl rfl (by decide) (by decide) rfl (fun ls hl => ?_)
  have hl : lv_has ls 6 [(5, .int 1), (3, .long (bm_step (bm_step 7 d) (g17 0))), (0, .ref m), (1, .long d)] := hl
  refine lv_goto (tgt := 11) hx hb dM_numberOf_32 rfl ?_
  refine lv_iload hx hb dM_numberOf_11 (lv_at hl 0 rfl) ?_
  refine lv_iconst (v := 4) hx hb dM_numberOf_13 (by decide) ?_
  refine lv_icmp_ge (tgt := 35) hx hb dM_numberOf_14 rfl (fun h => absurd h (by decide)) (fun _ => ?_)
  refine lv_lload_n hx hb dM_numberOf_17 rfl (lv_at hl 1 rfl) ?_
  refine lv_aload_n hx hb dM_numberOf_18 rfl (lv_at hl 2 rfl) ?_
  refine bm_get (ci := 7) (v := .ref (m + 17)) (C := "BlindMintModel") (T := bt_M) (N := 22) hx hb hts bu_M hown hK hM hP.c0 rfl 21 (by decide) (hts _ bw_623) (fun _ h9 => h9) rfl dM_numberOf_19 ?_
  refine lv_iload hx hb dM_numberOf_22 (lv_at hl 0 rfl) ?_
  refine bm_lald hx hb hK hM 1 hP.c17 rfl 1 (bm_ix_nI (k := 1) (by decide)) (by decide) dM_numberOf_24 ?_
  refine bm_callE (va_runS (As := [.long (bm_step (bm_step 7 d) (g17 0)), .long (g17 1)]) (rest := []) ⟨hx, hb, hml, hown, hts⟩ (bc_M_absorb l D ct base ad M sz (bm_step (bm_step 7 d) (g17 0)) (g17 1)) (va_cwS 2 hts (bm_goodS bw_698 bw_699 bw_5 bw_700) rfl rfl rfl (by decide +kernel) (by rw [← hR]; exact ⟨Nat.le_of_ble_eq_true rfl, Nat.le_of_ble_eq_true rfl⟩)) (bm_preS hM hG hS hz) rfl rfl hl.1 rfl (lv_room (Nat.le_of_ble_eq_true rfl)) dM_numberOf_25 (by rw [← hR]; exact ⟨Nat.le_of_ble_eq_true rfl, Nat.le_of_ble_eq_true rfl⟩)) hS (fun H locs hz hM hS => ?_)
  refine lv_lstore_n hx hb dM_numberOf_28 rfl hl (by decide) rfl (fun ls hl => ?_)
  have hl : lv_has ls 6 [(3, .long (bm_step (bm_step (bm_step 7 d) (g17 0)) (g17 1))), (5, .int 1), (0, .ref m), (1, .long d)] := hl
  refine lv_iinc (v := 2) (k := 1) hx hb dM_numberOf_29 hl rfl (by decide) (by decide) rfl (fun ls hl => ?_)
  have hl : lv_has ls 6 [(5, .int 2), (3, .long (bm_step (bm_step (bm_step 7 d) (g17 0)) (g17 1))), (0, .ref m), (1, .long d)] := hl
  refine lv_goto (tgt := 11) hx hb dM_numberOf_32 rfl ?_
  refine lv_iload hx hb dM_numberOf_11 (lv_at hl 0 rfl) ?_
  refine lv_iconst (v := 4) hx hb dM_numberOf_13 (by decide) ?_
  refine lv_icmp_ge (tgt := 35) hx hb dM_numberOf_14 rfl (fun h => absurd h (by decide)) (fun _ => ?_)
  refine lv_lload_n hx hb dM_numberOf_17 rfl (lv_at hl 1 rfl) ?_
  refine lv_aload_n hx hb dM_numberOf_18 rfl (lv_at hl 2 rfl) ?_
  refine bm_get (ci := 7) (v := .ref (m + 17)) (C := "BlindMintModel") (T := bt_M) (N := 22) hx hb hts bu_M hown hK hM hP.c0 rfl 21 (by decide) (hts _ bw_623) (fun _ h9 => h9) rfl dM_numberOf_19 ?_
  refine lv_iload hx hb dM_numberOf_22 (lv_at hl 0 rfl) ?_
  refine bm_lald hx hb hK hM 1 hP.c17 rfl 2 (bm_ix_nI (k := 2) (by decide)) (by decide) dM_numberOf_24 ?_
  refine bm_callE (va_runS (As := [.long (bm_step (bm_step (bm_step 7 d) (g17 0)) (g17 1)), .long (g17 2)]) (rest := []) ⟨hx, hb, hml, hown, hts⟩ (bc_M_absorb l D ct base ad M sz (bm_step (bm_step (bm_step 7 d) (g17 0)) (g17 1)) (g17 2)) (va_cwS 2 hts (bm_goodS bw_698 bw_699 bw_5 bw_700) rfl rfl rfl (by decide +kernel) (by rw [← hR]; exact ⟨Nat.le_of_ble_eq_true rfl, Nat.le_of_ble_eq_true rfl⟩)) (bm_preS hM hG hS hz) rfl rfl hl.1 rfl (lv_room (Nat.le_of_ble_eq_true rfl)) dM_numberOf_25 (by rw [← hR]; exact ⟨Nat.le_of_ble_eq_true rfl, Nat.le_of_ble_eq_true rfl⟩)) hS (fun H locs hz hM hS => ?_)
  refine lv_lstore_n hx hb dM_numberOf_28 rfl hl (by decide) rfl (fun ls hl => ?_)
  have hl : lv_has ls 6 [(3, .long (bm_step (bm_step (bm_step (bm_step 7 d) (g17 0)) (g17 1)) (g17 2))), (5, .int 2), (0, .ref m), (1, .long d)] := hl
  refine lv_iinc (v := 3) (k := 1) hx hb dM_numberOf_29 hl rfl (by decide) (by decide) rfl (fun ls hl => ?_)
  have hl : lv_has ls 6 [(5, .int 3), (3, .long (bm_step (bm_step (bm_step (bm_step 7 d) (g17 0)) (g17 1)) (g17 2))), (0, .ref m), (1, .long d)] := hl
  refine lv_goto (tgt := 11) hx hb dM_numberOf_32 rfl ?_
  refine lv_iload hx hb dM_numberOf_11 (lv_at hl 0 rfl) ?_
  refine lv_iconst (v := 4) hx hb dM_numberOf_13 (by decide) ?_
  refine lv_icmp_ge (tgt := 35) hx hb dM_numberOf_14 rfl (fun h => absurd h (by decide)) (fun _ => ?_)
  refine lv_lload_n hx hb dM_numberOf_17 rfl (lv_at hl 1 rfl) ?_
  refine lv_aload_n hx hb dM_numberOf_18 rfl (lv_at hl 2 rfl) ?_
  refine bm_get (ci := 7) (v := .ref (m + 17)) (C := "BlindMintModel") (T := bt_M) (N := 22) hx hb hts bu_M hown hK hM hP.c0 rfl 21 (by decide) (hts _ bw_623) (fun _ h9 => h9) rfl dM_numberOf_19 ?_
  refine lv_iload hx hb dM_numberOf_22 (lv_at hl 0 rfl) ?_
  refine bm_lald hx hb hK hM 1 hP.c17 rfl 3 (bm_ix_nI (k := 3) (by decide)) (by decide) dM_numberOf_24 ?_
  refine bm_callE (va_runS (As := [.long (bm_step (bm_step (bm_step (bm_step 7 d) (g17 0)) (g17 1)) (g17 2)), .long (g17 3)]) (rest := []) ⟨hx, hb, hml, hown, hts⟩ (bc_M_absorb l D ct base ad M sz (bm_step (bm_step (bm_step (bm_step 7 d) (g17 0)) (g17 1)) (g17 2)) (g17 3)) (va_cwS 2 hts (bm_goodS bw_698 bw_699 bw_5 bw_700) rfl rfl rfl (by decide +kernel) (by rw [← hR]; exact ⟨Nat.le_of_ble_eq_true rfl, Nat.le_of_ble_eq_true rfl⟩)) (bm_preS hM hG hS hz) rfl rfl hl.1 rfl (lv_room (Nat.le_of_ble_eq_true rfl)) dM_numberOf_25 (by rw [← hR]; exact ⟨Nat.le_of_ble_eq_true rfl, Nat.le_of_ble_eq_true rfl⟩)) hS (fun H locs hz hM hS => ?_)
  refine lv_lstore_n hx hb dM_numberOf_28 rfl hl (by decide) rfl (fun ls hl => ?_)
  have hl : lv_has ls 6 [(3, .long (bm_step (bm_step (bm_step (bm_step (bm_step 7 d) (g17 0)) (g17 1)) (g17 2)) (g17 3))), (5, .int 3), (0, .ref m), (1, .long d)] := hl
  refine lv_iinc (v := 4) (k := 1) hx hb dM_numberOf_29 hl rfl (by decide) (by decide) rfl (fun ls hl => ?_)
  have hl : lv_has ls 6 [(5, .int 4), (3, .long (bm_step (bm_step (bm_step (bm_step (bm_step 7 d) (g17 0)) (g17 1)) (g17 2)) (g17 3))), (0, .ref m), (1, .long d)] := hl
  refine lv_goto (tgt := 11) hx hb dM_numberOf_32 rfl ?_
  refine lv_iload hx hb dM_numberOf_11 (lv_at hl 0 rfl) ?_
  refine lv_iconst (v := 4) hx hb dM_numberOf_13 (by decide) ?_
  refine lv_icmp_ge (tgt := 35) hx hb dM_numberOf_14 rfl (fun _ => ?_) (fun h => absurd h (by decide))
  refine lv_lload_n hx hb dM_numberOf_35 rfl (lv_at hl 1 rfl) ?_
  refine bm_callE (va_runS (As := [.long (bm_step (bm_step (bm_step (bm_step (bm_step 7 d) (g17 0)) (g17 1)) (g17 2)) (g17 3))]) (rest := []) ⟨hx, hb, hml, hown, hts⟩ (bc_M_low l D ct base ad M sz (bm_step (bm_step (bm_step (bm_step (bm_step 7 d) (g17 0)) (g17 1)) (g17 2)) (g17 3))) (va_cwS 1 hts (bm_goodS bw_703 bw_704 bw_5 bw_705) rfl rfl rfl (by decide +kernel) (by rw [← hR]; exact ⟨Nat.le_of_ble_eq_true rfl, Nat.le_of_ble_eq_true rfl⟩)) (bm_preS hM hG hS hz) rfl rfl hl.1 rfl (lv_room (Nat.le_of_ble_eq_true rfl)) dM_numberOf_36 (by rw [← hR]; exact ⟨Nat.le_of_ble_eq_true rfl, Nat.le_of_ble_eq_true rfl⟩)) hS (fun H locs hz hM hS => ?_)
  exact bm_lret hQ hx hb hr hlk hM hS ⟨hz, ⟨rfl, hP⟩, hF⟩ (Nat.le_refl _) (Nat.le_refl _) dM_numberOf_39
set_option maxHeartbeats 4000000 in
set_option maxRecDepth 100000 in
theorem bc_M_choiceOf (l : Launch) (D : va_G) (ct : Nat → ClassId) (base : Nat) (ad : Nat → Nat) (M : bm_Map) (sz : Nat) (m : Nat) (th : Int32) (tr : Int32) (bl : Int64) (np : Int32) (nd : Int32) (f1 : Nat → Int32) (f2 : Nat → Int32) (f3 : Nat → Int32) (f4 : Nat → Int32) (g5 : Nat → Int64) (g6 : Nat → Int64) (f7 : Nat → Int32) (g8 : Nat → Int64) (g9 : Nat → Int64) (g10 : Nat → Int64) (g11 : Nat → Int64) (g12 : Nat → Int64) (g13 : Nat → Int64) (g14 : Nat → Int64) (g15 : Nat → Int64) (f16 : Nat → Int32) (g17 : Nat → Int64) (k : Nat) (hP : bm_MD ct m th tr bl np nd f1 f2 f3 f4 g5 g6 f7 g8 g9 g10 g11 g12 g13 g14 g15 f16 g17 M) (hk : k < 20) : Met l yM_choiceOf (bm_ws yM_choiceOf cM_choiceOf 2 (some .long)) { frames := 2, cells := 0, slots := 0, locals := 50 } (bm_Pre D ct base ad M sz [.ref m, .int (nI k)]) (bm_Post D base (bm_Pm m M sz (fun v M1 => v = some (.long (bm_ch g9 k)) ∧ bm_MD ct m th tr bl np nd f1 f2 f3 f4 g5 g6 f7 g8 g9 g10 g11 g12 g13 g14 g15 f16 g17 M1))) 0 0 (bm_A base) := by
  refine bm_ofB (cc := cM_choiceOf) (maxL := 2) (ret := (some .long)) (by decide +kernel) (Nat.le_of_ble_eq_true rfl) ?_
  intro vp ve s vm args below meth vc hx hb hr hlk hts hown hml hnm ls hl hz hM hG R Q hR hQ
  have hown : s.vm.findClass "BlindMintModel" = some vm.cls := hown
  have hK := hG.K
  have hS : va_S (bm_A base) s.heap s.heap [] := va_S.rf
  have hl : lv_has ls 2 [(0, .ref m), (1, .int (nI k))] := hl
  have hF : bm_fr m M M := bm_fr.rf
  refine lv_aload_n hx hb dM_choiceOf_0 rfl (lv_at hl 0 rfl) ?_
  refine bm_get (ci := 7) (v := .ref (m + 9)) (C := "BlindMintModel") (T := bt_M) (N := 22) hx hb hts bu_M hown hK hM hP.c0 rfl 12 (by decide) (hts _ bw_614) (fun _ h9 => h9) rfl dM_choiceOf_1 ?_
  refine lv_bipush (v := 16) hx hb dM_choiceOf_4 (by decide) ?_
  refine lv_iload_n hx hb dM_choiceOf_6 rfl (lv_at hl 1 rfl) ?_
  refine lv_imul hx hb dM_choiceOf_7 ?_
  refine lv_iconst (v := 2) hx hb dM_choiceOf_8 (by decide) ?_
  refine lv_iadd hx hb dM_choiceOf_9 ?_
  refine bm_lald hx hb hK hM 1 hP.c9 rfl (16 * k + 2) (bm_ixm (c := 16) (i := 2) (by omega)) (by omega) dM_choiceOf_10 ?_
  refine lv_aload_n hx hb dM_choiceOf_11 rfl (lv_at hl 0 rfl) ?_
  refine bm_get (ci := 7) (v := .ref (m + 9)) (C := "BlindMintModel") (T := bt_M) (N := 22) hx hb hts bu_M hown hK hM hP.c0 rfl 12 (by decide) (hts _ bw_614) (fun _ h9 => h9) rfl dM_choiceOf_12 ?_
  refine lv_bipush (v := 16) hx hb dM_choiceOf_15 (by decide) ?_
  refine lv_iload_n hx hb dM_choiceOf_17 rfl (lv_at hl 1 rfl) ?_
  refine lv_imul hx hb dM_choiceOf_18 ?_
  refine lv_iconst (v := 3) hx hb dM_choiceOf_19 (by decide) ?_
  refine lv_iadd hx hb dM_choiceOf_20 ?_
  refine bm_lald hx hb hK hM 1 hP.c9 rfl (16 * k + 3) (bm_ixm (c := 16) (i := 3) (by omega)) (by omega) dM_choiceOf_21 ?_
  refine lv_aload_n hx hb dM_choiceOf_22 rfl (lv_at hl 0 rfl) ?_
  refine bm_get (ci := 7) (v := .ref (m + 9)) (C := "BlindMintModel") (T := bt_M) (N := 22) hx hb hts bu_M hown hK hM hP.c0 rfl 12 (by decide) (hts _ bw_614) (fun _ h9 => h9) rfl dM_choiceOf_23 ?_
  refine lv_bipush (v := 16) hx hb dM_choiceOf_26 (by decide) ?_
  refine lv_iload_n hx hb dM_choiceOf_28 rfl (lv_at hl 1 rfl) ?_
  refine lv_imul hx hb dM_choiceOf_29 ?_
  refine lv_iconst (v := 1) hx hb dM_choiceOf_30 (by decide) ?_
  refine lv_iadd hx hb dM_choiceOf_31 ?_
  refine bm_lald hx hb hK hM 1 hP.c9 rfl (16 * k + 1) (bm_ixm (c := 16) (i := 1) (by omega)) (by omega) dM_choiceOf_32 ?_
  refine bm_callE (va_runS (As := [.long (g9 (16 * k + 2)), .long (g9 (16 * k + 3)), .long (g9 (16 * k + 1))]) (rest := []) ⟨hx, hb, hml, hown, hts⟩ (bc_M_hash3 l D ct base ad M sz (g9 (16 * k + 2)) (g9 (16 * k + 3)) (g9 (16 * k + 1))) (va_cwS 3 hts (bm_goodS bw_761 bw_762 bw_5 bw_763) rfl rfl rfl (by decide +kernel) (by rw [← hR]; exact ⟨Nat.le_of_ble_eq_true rfl, Nat.le_of_ble_eq_true rfl⟩)) (bm_preS hM hG hS hz) rfl rfl hl.1 rfl (lv_room (Nat.le_of_ble_eq_true rfl)) dM_choiceOf_33 (by rw [← hR]; exact ⟨Nat.le_of_ble_eq_true rfl, Nat.le_of_ble_eq_true rfl⟩)) hS (fun H locs hz hM hS => ?_)
  exact bm_lret hQ hx hb hr hlk hM hS ⟨hz, ⟨rfl, hP⟩, hF⟩ (Nat.le_refl _) (Nat.le_refl _) dM_choiceOf_36
