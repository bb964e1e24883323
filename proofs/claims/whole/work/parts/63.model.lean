set_option maxHeartbeats 4000000 in
set_option maxRecDepth 100000 in
theorem bc_M_deposit_a (l : Launch) (D : va_G) (ct : Nat → ClassId) (base : Nat) (ad : Nat → Nat) (M : bm_Map) (sz : Nat) (m : Nat) (th : Int32) (tr : Int32) (bl : Int64) (np : Int32) (nd : Int32) (f1 : Nat → Int32) (f2 : Nat → Int32) (f3 : Nat → Int32) (f4 : Nat → Int32) (g5 : Nat → Int64) (g6 : Nat → Int64) (f7 : Nat → Int32) (g8 : Nat → Int64) (g9 : Nat → Int64) (g10 : Nat → Int64) (g11 : Nat → Int64) (g12 : Nat → Int64) (g13 : Nat → Int64) (g14 : Nat → Int64) (g15 : Nat → Int64) (f16 : Nat → Int32) (g17 : Nat → Int64) (v w : Int32) (hP : bm_MD ct m th tr bl np nd f1 f2 f3 f4 g5 g6 f7 g8 g9 g10 g11 g12 g13 g14 g15 f16 g17 M) (hw : bm_bl w 4 = 0) : Met l yM_deposit (bm_ws yM_deposit cM_deposit 6 (some .int)) { frames := 4, cells := 0, slots := 0, locals := 99 } (bm_Pre D ct base ad M sz [.ref m, .int v, .int w]) (bm_Post D base (bm_Pm m M sz (fun v M1 => v = some (.int 0) ∧ bm_MD ct m 1 tr bl np nd f1 f2 f3 f4 g5 g6 f7 g8 g9 g10 g11 g12 g13 g14 g15 f16 g17 M1))) 0 0 (bm_A base) := by
  refine bm_ofB (cc := cM_deposit) (maxL := 6) (ret := (some .int)) (by decide +kernel) (Nat.le_of_ble_eq_true rfl) ?_
  intro vp ve s vm args below meth vc hx hb hr hlk hts hown hml hnm ls hl hz hM hG R Q hR hQ
  have hown : s.vm.findClass "BlindMintModel" = some vm.cls := hown
  have hK := hG.K
  have hS : va_S (bm_A base) s.heap s.heap [] := va_S.rf
  have hl : lv_has ls 6 [(0, .ref m), (1, .int v), (2, .int w)] := hl
  have hF : bm_fr m M M := bm_fr.rf
  refine lv_aload_n hx hb dM_deposit_0 rfl (lv_at hl 0 rfl) ?_
  refine lv_iconst (v := 0) hx hb dM_deposit_1 (by decide) ?_
  refine bm_put (ci := 7) (v := .int 0) (ty := .int) (C := "BlindMintModel") (T := bt_M) (N := 22) hx hb hts bu_M by_M bo_M bn_M hown hK hM hS hP.c0 rfl 0 (by decide) (hts _ bw_602) (fun _ h9 => h9) rfl (by decide +kernel) rfl rfl (Nat.le_of_ble_eq_true rfl) dM_deposit_2 (fun H locs hz1 hM hS => ?_)
  have hz := hz1.trans hz
  obtain ⟨M1, hM, hP, hF⟩ : ∃ X, bm_M D base X H ∧ bm_MD ct m 0 tr bl np nd f1 f2 f3 f4 g5 g6 f7 g8 g9 g10 g11 g12 g13 g14 g15 f16 g17 X ∧ bm_fr m M X := ⟨_, hM, hP.s_th _, hF.up0⟩
  refine lv_iload_n hx hb dM_deposit_5 rfl (lv_at hl 2 rfl) ?_
  refine lv_iconst (v := 4) hx hb dM_deposit_6 (by decide) ?_
  refine bm_callE (va_runS (As := [.int w, .int 4]) (rest := []) ⟨hx, hb, hml, hown, hts⟩ (bc_M_below l D ct base ad M1 sz w 4) (va_cwS 2 hts (bm_goodS bw_679 bw_680 bw_5 bw_681) rfl rfl rfl (by decide +kernel) (by rw [← hR]; exact ⟨Nat.le_of_ble_eq_true rfl, Nat.le_of_ble_eq_true rfl⟩)) (bm_preS hM hG hS hz) rfl rfl hl.1 rfl (lv_room (Nat.le_of_ble_eq_true rfl)) dM_deposit_7 (by rw [← hR]; exact ⟨Nat.le_of_ble_eq_true rfl, Nat.le_of_ble_eq_true rfl⟩)) hS (fun H locs hz hM hS => ?_)
  refine lv_if_eq (tgt := 21) hx hb dM_deposit_10 rfl (fun h10 => ?_) (fun h10 => absurd hw h10)
  refine lv_aload_n hx hb dM_deposit_21 rfl (lv_at hl 0 rfl) ?_
  refine lv_iconst (v := 1) hx hb dM_deposit_22 (by decide) ?_
  refine bm_call (va_runV (As := [.int 1]) (rest := []) ⟨hx, hb, hml, hown, hts⟩ (bc_M_fail l D ct base ad M1 sz m 0 tr bl np nd f1 f2 f3 f4 g5 g6 f7 g8 g9 g10 g11 g12 g13 g14 g15 f16 g17 1 hP) (cwV 1 hts (bm_goodV bw_682 bw_684 bs_10 bw_5 bw_685) rfl rfl rfl (by decide +kernel) (by rw [← hR]; exact ⟨Nat.le_of_ble_eq_true rfl, Nat.le_of_ble_eq_true rfl⟩)) (bm_preV hM hG hS hz hP.c0 rfl) rfl rfl hl.1 rfl (lv_room (Nat.le_of_ble_eq_true rfl)) dM_deposit_23 (by rw [← hR]; exact ⟨Nat.le_of_ble_eq_true rfl, Nat.le_of_ble_eq_true rfl⟩)) hS (fun v9 M2 H locs hq hM hS _ => ?_)
  obtain ⟨hz, ⟨rfl, hP⟩, hF9⟩ := hq
  have hF := hF.tr hF9
  exact bm_iret hQ hx hb hr hlk hM hS ⟨hz, ⟨rfl, hP⟩, hF⟩ (Nat.le_refl _) (Nat.le_refl _) dM_deposit_26
set_option maxHeartbeats 4000000 in
set_option maxRecDepth 100000 in
theorem bc_M_deposit_n1 (l : Launch) (D : va_G) (ct : Nat → ClassId) (base : Nat) (ad : Nat → Nat) (M : bm_Map) (sz : Nat) (m : Nat) (th : Int32) (tr : Int32) (bl : Int64) (np : Int32) (nd : Int32) (f1 : Nat → Int32) (f2 : Nat → Int32) (f3 : Nat → Int32) (f4 : Nat → Int32) (g5 : Nat → Int64) (g6 : Nat → Int64) (f7 : Nat → Int32) (g8 : Nat → Int64) (g9 : Nat → Int64) (g10 : Nat → Int64) (g11 : Nat → Int64) (g12 : Nat → Int64) (g13 : Nat → Int64) (g14 : Nat → Int64) (g15 : Nat → Int64) (f16 : Nat → Int32) (g17 : Nat → Int64) (v : Int32) (j : Nat) (hP : bm_MD ct m th tr bl np nd f1 f2 f3 f4 g5 g6 f7 g8 g9 g10 g11 g12 g13 g14 g15 f16 g17 M) (hv : bm_bl v np = 0) (hj : j < 4) : Met l yM_deposit (bm_ws yM_deposit cM_deposit 6 (some .int)) { frames := 4, cells := 0, slots := 0, locals := 99 } (bm_Pre D ct base ad M sz [.ref m, .int v, .int (nI j)]) (bm_Post D base (bm_Pm m M sz (fun v M1 => v = some (.int 0) ∧ bm_MD ct m 1 tr bl np nd f1 f2 f3 f4 g5 g6 f7 g8 g9 g10 g11 g12 g13 g14 g15 f16 g17 M1))) 0 0 (bm_A base) := by
  refine bm_ofB (cc := cM_deposit) (maxL := 6) (ret := (some .int)) (by decide +kernel) (Nat.le_of_ble_eq_true rfl) ?_
  intro vp ve s vm args below meth vc hx hb hr hlk hts hown hml hnm ls hl hz hM hG R Q hR hQ
  have hown : s.vm.findClass "BlindMintModel" = some vm.cls := hown
  have hK := hG.K
  have hS : va_S (bm_A base) s.heap s.heap [] := va_S.rf
  have hl : lv_has ls 6 [(0, .ref m), (1, .int v), (2, .int (nI j))] := hl
  have hF : bm_fr m M M := bm_fr.rf
  refine lv_aload_n hx hb dM_deposit_0 rfl (lv_at hl 0 rfl) ?_
  refine lv_iconst (v := 0) hx hb dM_deposit_1 (by decide) ?_
  refine bm_put (ci := 7) (v := .int 0) (ty := .int) (C := "BlindMintModel") (T := bt_M) (N := 22) hx hb hts bu_M by_M bo_M bn_M hown hK hM hS hP.c0 rfl 0 (by decide) (hts _ bw_602) (fun _ h9 => h9) rfl (by decide +kernel) rfl rfl (Nat.le_of_ble_eq_true rfl) dM_deposit_2 (fun H locs hz1 hM hS => ?_)
  have hz := hz1.trans hz
  obtain ⟨M1, hM, hP, hF⟩ : ∃ X, bm_M D base X H ∧ bm_MD ct m 0 tr bl np nd f1 f2 f3 f4 g5 g6 f7 g8 g9 g10 g11 g12 g13 g14 g15 f16 g17 X ∧ bm_fr m M X := ⟨_, hM, hP.s_th _, hF.up0⟩
  refine lv_iload_n hx hb dM_deposit_5 rfl (lv_at hl 2 rfl) ?_
  refine lv_iconst (v := 4) hx hb dM_deposit_6 (by decide) ?_
  refine bm_callE (va_runS (As := [.int (nI j), .int 4]) (rest := []) ⟨hx, hb, hml, hown, hts⟩ (bc_M_below l D ct base ad M1 sz (nI j) 4) (va_cwS 2 hts (bm_goodS bw_679 bw_680 bw_5 bw_681) rfl rfl rfl (by decide +kernel) (by rw [← hR]; exact ⟨Nat.le_of_ble_eq_true rfl, Nat.le_of_ble_eq_true rfl⟩)) (bm_preS hM hG hS hz) rfl rfl hl.1 rfl (lv_room (Nat.le_of_ble_eq_true rfl)) dM_deposit_7 (by rw [← hR]; exact ⟨Nat.le_of_ble_eq_true rfl, Nat.le_of_ble_eq_true rfl⟩)) hS (fun H locs hz hM hS => ?_)
  refine lv_if_eq (tgt := 21) hx hb dM_deposit_10 rfl (fun h10 => absurd h10 (by rw [show bm_bl (nI j) 4 = 1 from (bm_bl_nI (N := 4) hj (by decide))]; decide)) (fun h10 => ?_)
  refine lv_aload_n hx hb dM_deposit_13 rfl (lv_at hl 0 rfl) ?_
  refine lv_iload_n hx hb dM_deposit_14 rfl (lv_at hl 1 rfl) ?_
  refine bm_call (va_runV (As := [.int v]) (rest := []) ⟨hx, hb, hml, hown, hts⟩ (bc_M_isGood_n1 l D ct base ad M1 sz m 0 tr bl np nd f1 f2 f3 f4 g5 g6 f7 g8 g9 g10 g11 g12 g13 g14 g15 f16 g17 v hP hv) (cwV 1 hts (bm_goodV bw_780 bw_782 bs_17 bw_5 bw_783) rfl rfl rfl (by decide +kernel) (by rw [← hR]; exact ⟨Nat.le_of_ble_eq_true rfl, Nat.le_of_ble_eq_true rfl⟩)) (bm_preV hM hG hS hz hP.c0 rfl) rfl rfl hl.1 rfl (lv_room (Nat.le_of_ble_eq_true rfl)) dM_deposit_15 (by rw [← hR]; exact ⟨Nat.le_of_ble_eq_true rfl, Nat.le_of_ble_eq_true rfl⟩)) hS (fun v9 M2 H locs hq hM hS _ => ?_)
  obtain ⟨hz, ⟨rfl, hP⟩, hF9⟩ := hq
  have hF := hF.tr hF9
  refine lv_if_ne (tgt := 27) hx hb dM_deposit_18 rfl (fun h => absurd h (by decide)) (fun _ => ?_)
  refine lv_aload_n hx hb dM_deposit_21 rfl (lv_at hl 0 rfl) ?_
  refine lv_iconst (v := 1) hx hb dM_deposit_22 (by decide) ?_
  refine bm_call (va_runV (As := [.int 1]) (rest := []) ⟨hx, hb, hml, hown, hts⟩ (bc_M_fail l D ct base ad M2 sz m 0 tr bl np nd f1 f2 f3 f4 g5 g6 f7 g8 g9 g10 g11 g12 g13 g14 g15 f16 g17 1 hP) (cwV 1 hts (bm_goodV bw_682 bw_684 bs_10 bw_5 bw_685) rfl rfl rfl (by decide +kernel) (by rw [← hR]; exact ⟨Nat.le_of_ble_eq_true rfl, Nat.le_of_ble_eq_true rfl⟩)) (bm_preV hM hG hS hz hP.c0 rfl) rfl rfl hl.1 rfl (lv_room (Nat.le_of_ble_eq_true rfl)) dM_deposit_23 (by rw [← hR]; exact ⟨Nat.le_of_ble_eq_true rfl, Nat.le_of_ble_eq_true rfl⟩)) hS (fun v9 M3 H locs hq hM hS _ => ?_)
  obtain ⟨hz, ⟨rfl, hP⟩, hF9⟩ := hq
  have hF := hF.tr hF9
  exact bm_iret hQ hx hb hr hlk hM hS ⟨hz, ⟨rfl, hP⟩, hF⟩ (Nat.le_refl _) (Nat.le_refl _) dM_deposit_26
set_option maxHeartbeats 4000000 in
set_option maxRecDepth 100000 in
theorem bc_M_deposit_n2 (l : Launch) (D : va_G) (ct : Nat → ClassId) (base : Nat) (ad : Nat → Nat) (M : bm_Map) (sz : Nat) (m : Nat) (th : Int32) (tr : Int32) (bl : Int64) (np : Int32) (nd : Int32) (f1 : Nat → Int32) (f2 : Nat → Int32) (f3 : Nat → Int32) (f4 : Nat → Int32) (g5 : Nat → Int64) (g6 : Nat → Int64) (f7 : Nat → Int32) (g8 : Nat → Int64) (g9 : Nat → Int64) (g10 : Nat → Int64) (g11 : Nat → Int64) (g12 : Nat → Int64) (g13 : Nat → Int64) (g14 : Nat → Int64) (g15 : Nat → Int64) (f16 : Nat → Int32) (g17 : Nat → Int64) (p : Nat) (j : Nat) (hP : bm_MD ct m th tr bl np nd f1 f2 f3 f4 g5 g6 f7 g8 g9 g10 g11 g12 g13 g14 g15 f16 g17 M) (hp20 : p < 20) (hv : bm_bl (nI p) np = 1) (hlo : g9 (16 * p) < 0) (hj : j < 4) : Met l yM_deposit (bm_ws yM_deposit cM_deposit 6 (some .int)) { frames := 4, cells := 0, slots := 0, locals := 99 } (bm_Pre D ct base ad M sz [.ref m, .int (nI p), .int (nI j)]) (bm_Post D base (bm_Pm m M sz (fun v M1 => v = some (.int 0) ∧ bm_MD ct m 1 tr bl np nd f1 f2 f3 f4 g5 g6 f7 g8 g9 g10 g11 g12 g13 g14 g15 f16 g17 M1))) 0 0 (bm_A base) := by
  refine bm_ofB (cc := cM_deposit) (maxL := 6) (ret := (some .int)) (by decide +kernel) (Nat.le_of_ble_eq_true rfl) ?_
  intro vp ve s vm args below meth vc hx hb hr hlk hts hown hml hnm ls hl hz hM hG R Q hR hQ
  have hown : s.vm.findClass "BlindMintModel" = some vm.cls := hown
  have hK := hG.K
  have hS : va_S (bm_A base) s.heap s.heap [] := va_S.rf
  have hl : lv_has ls 6 [(0, .ref m), (1, .int (nI p)), (2, .int (nI j))] := hl
  have hF : bm_fr m M M := bm_fr.rf
  refine lv_aload_n hx hb dM_deposit_0 rfl (lv_at hl 0 rfl) ?_
  refine lv_iconst (v := 0) hx hb dM_deposit_1 (by decide) ?_
  refine bm_put (ci := 7) (v := .int 0) (ty := .int) (C := "BlindMintModel") (T := bt_M) (N := 22) hx hb hts bu_M by_M bo_M bn_M hown hK hM hS hP.c0 rfl 0 (by decide) (hts _ bw_602) (fun _ h9 => h9) rfl (by decide +kernel) rfl rfl (Nat.le_of_ble_eq_true rfl) dM_deposit_2 (fun H locs hz1 hM hS => ?_)
  have hz := hz1.trans hz
  obtain ⟨M1, hM, hP, hF⟩ : ∃ X, bm_M D base X H ∧ bm_MD ct m 0 tr bl np nd f1 f2 f3 f4 g5 g6 f7 g8 g9 g10 g11 g12 g13 g14 g15 f16 g17 X ∧ bm_fr m M X := ⟨_, hM, hP.s_th _, hF.up0⟩
  refine lv_iload_n hx hb dM_deposit_5 rfl (lv_at hl 2 rfl) ?_
  refine lv_iconst (v := 4) hx hb dM_deposit_6 (by decide) ?_
  refine bm_callE (va_runS (As := [.int (nI j), .int 4]) (rest := []) ⟨hx, hb, hml, hown, hts⟩ (bc_M_below l D ct base ad M1 sz (nI j) 4) (va_cwS 2 hts (bm_goodS bw_679 bw_680 bw_5 bw_681) rfl rfl rfl (by decide +kernel) (by rw [← hR]; exact ⟨Nat.le_of_ble_eq_true rfl, Nat.le_of_ble_eq_true rfl⟩)) (bm_preS hM hG hS hz) rfl rfl hl.1 rfl (lv_room (Nat.le_of_ble_eq_true rfl)) dM_deposit_7 (by rw [← hR]; exact ⟨Nat.le_of_ble_eq_true rfl, Nat.le_of_ble_eq_true rfl⟩)) hS (fun H locs hz hM hS => ?_)
  refine lv_if_eq (tgt := 21) hx hb dM_deposit_10 rfl (fun h10 => absurd h10 (by rw [show bm_bl (nI j) 4 = 1 from (bm_bl_nI (N := 4) hj (by decide))]; decide)) (fun h10 => ?_)
  refine lv_aload_n hx hb dM_deposit_13 rfl (lv_at hl 0 rfl) ?_
  refine lv_iload_n hx hb dM_deposit_14 rfl (lv_at hl 1 rfl) ?_
  refine bm_call (va_runV (As := [.int (nI p)]) (rest := []) ⟨hx, hb, hml, hown, hts⟩ (bc_M_isGood_n2 l D ct base ad M1 sz m 0 tr bl np nd f1 f2 f3 f4 g5 g6 f7 g8 g9 g10 g11 g12 g13 g14 g15 f16 g17 p hP hp20 hv hlo) (cwV 1 hts (bm_goodV bw_780 bw_782 bs_17 bw_5 bw_783) rfl rfl rfl (by decide +kernel) (by rw [← hR]; exact ⟨Nat.le_of_ble_eq_true rfl, Nat.le_of_ble_eq_true rfl⟩)) (bm_preV hM hG hS hz hP.c0 rfl) rfl rfl hl.1 rfl (lv_room (Nat.le_of_ble_eq_true rfl)) dM_deposit_15 (by rw [← hR]; exact ⟨Nat.le_of_ble_eq_true rfl, Nat.le_of_ble_eq_true rfl⟩)) hS (fun v9 M2 H locs hq hM hS _ => ?_)
  obtain ⟨hz, ⟨rfl, hP⟩, hF9⟩ := hq
  have hF := hF.tr hF9
  refine lv_if_ne (tgt := 27) hx hb dM_deposit_18 rfl (fun h => absurd h (by decide)) (fun _ => ?_)
  refine lv_aload_n hx hb dM_deposit_21 rfl (lv_at hl 0 rfl) ?_
  refine lv_iconst (v := 1) hx hb dM_deposit_22 (by decide) ?_
  refine bm_call (va_runV (As := [.int 1]) (rest := []) ⟨hx, hb, hml, hown, hts⟩ (bc_M_fail l D ct base ad M2 sz m 0 tr bl np nd f1 f2 f3 f4 g5 g6 f7 g8 g9 g10 g11 g12 g13 g14 g15 f16 g17 1 hP) (cwV 1 hts (bm_goodV bw_682 bw_684 bs_10 bw_5 bw_685) rfl rfl rfl (by decide +kernel) (by rw [← hR]; exact ⟨Nat.le_of_ble_eq_true rfl, Nat.le_of_ble_eq_true rfl⟩)) (bm_preV hM hG hS hz hP.c0 rfl) rfl rfl hl.1 rfl (lv_room (Nat.le_of_ble_eq_true rfl)) dM_deposit_23 (by rw [← hR]; exact ⟨Nat.le_of_ble_eq_true rfl, Nat.le_of_ble_eq_true rfl⟩)) hS (fun v9 M3 H locs hq hM hS _ => ?_)
  obtain ⟨hz, ⟨rfl, hP⟩, hF9⟩ := hq
  have hF := hF.tr hF9
  exact bm_iret hQ hx hb hr hlk hM hS ⟨hz, ⟨rfl, hP⟩, hF⟩ (Nat.le_refl _) (Nat.le_refl _) dM_deposit_26
set_option maxHeartbeats 4000000 in
set_option maxRecDepth 100000 in
theorem bc_M_deposit_n3 (l : Launch) (D : va_G) (ct : Nat → ClassId) (base : Nat) (ad : Nat → Nat) (M : bm_Map) (sz : Nat) (m : Nat) (th : Int32) (tr : Int32) (bl : Int64) (np : Int32) (nd : Int32) (f1 : Nat → Int32) (f2 : Nat → Int32) (f3 : Nat → Int32) (f4 : Nat → Int32) (g5 : Nat → Int64) (g6 : Nat → Int64) (f7 : Nat → Int32) (g8 : Nat → Int64) (g9 : Nat → Int64) (g10 : Nat → Int64) (g11 : Nat → Int64) (g12 : Nat → Int64) (g13 : Nat → Int64) (g14 : Nat → Int64) (g15 : Nat → Int64) (f16 : Nat → Int32) (g17 : Nat → Int64) (p : Nat) (j : Nat) (hP : bm_MD ct m th tr bl np nd f1 f2 f3 f4 g5 g6 f7 g8 g9 g10 g11 g12 g13 g14 g15 f16 g17 M) (hp20 : p < 20) (hv : bm_bl (nI p) np = 1) (hlo : ¬ g9 (16 * p) < 0) (hhi : 2 < g9 (16 * p)) (hj : j < 4) : Met l yM_deposit (bm_ws yM_deposit cM_deposit 6 (some .int)) { frames := 4, cells := 0, slots := 0, locals := 99 } (bm_Pre D ct base ad M sz [.ref m, .int (nI p), .int (nI j)]) (bm_Post D base (bm_Pm m M sz (fun v M1 => v = some (.int 0) ∧ bm_MD ct m 1 tr bl np nd f1 f2 f3 f4 g5 g6 f7 g8 g9 g10 g11 g12 g13 g14 g15 f16 g17 M1))) 0 0 (bm_A base) := by
  refine bm_ofB (cc := cM_deposit) (maxL := 6) (ret := (some .int)) (by decide +kernel) (Nat.le_of_ble_eq_true rfl) ?_
  intro vp ve s vm args below meth vc hx hb hr hlk hts hown hml hnm ls hl hz hM hG R Q hR hQ
  have hown : s.vm.findClass "BlindMintModel" = some vm.cls := hown
  have hK := hG.K
  have hS : va_S (bm_A base) s.heap s.heap [] := va_S.rf
  have hl : lv_has ls 6 [(0, .ref m), (1, .int (nI p)), (2, .int (nI j))] := hl
  have hF : bm_fr m M M := bm_fr.rf
  refine lv_aload_n hx hb dM_deposit_0 rfl (lv_at hl 0 rfl) ?_
  refine lv_iconst (v := 0) hx hb dM_deposit_1 (by decide) ?_
  refine bm_put (ci := 7) (v := .int 0) (ty := .int) (C := "BlindMintModel") (T := bt_M) (N := 22) hx hb hts bu_M by_M bo_M bn_M hown hK hM hS hP.c0 rfl 0 (by decide) (hts _ bw_602) (fun _ h9 => h9) rfl (by decide +kernel) rfl rfl (Nat.le_of_ble_eq_true rfl) dM_deposit_2 (fun H locs hz1 hM hS => ?_)
  have hz := hz1.trans hz
  obtain ⟨M1, hM, hP, hF⟩ : ∃ X, bm_M D base X H ∧ bm_MD ct m 0 tr bl np nd f1 f2 f3 f4 g5 g6 f7 g8 g9 g10 g11 g12 g13 g14 g15 f16 g17 X ∧ bm_fr m M X := ⟨_, hM, hP.s_th _, hF.up0⟩
  refine lv_iload_n hx hb dM_deposit_5 rfl (lv_at hl 2 rfl) ?_
  refine lv_iconst (v := 4) hx hb dM_deposit_6 (by decide) ?_
  refine bm_callE (va_runS (As := [.int (nI j), .int 4]) (rest := []) ⟨hx, hb, hml, hown, hts⟩ (bc_M_below l D ct base ad M1 sz (nI j) 4) (va_cwS 2 hts (bm_goodS bw_679 bw_680 bw_5 bw_681) rfl rfl rfl (by decide +kernel) (by rw [← hR]; exact ⟨Nat.le_of_ble_eq_true rfl, Nat.le_of_ble_eq_true rfl⟩)) (bm_preS hM hG hS hz) rfl rfl hl.1 rfl (lv_room (Nat.le_of_ble_eq_true rfl)) dM_deposit_7 (by rw [← hR]; exact ⟨Nat.le_of_ble_eq_true rfl, Nat.le_of_ble_eq_true rfl⟩)) hS (fun H locs hz hM hS => ?_)
  refine lv_if_eq (tgt := 21) hx hb dM_deposit_10 rfl (fun h10 => absurd h10 (by rw [show bm_bl (nI j) 4 = 1 from (bm_bl_nI (N := 4) hj (by decide))]; decide)) (fun h10 => ?_)
  refine lv_aload_n hx hb dM_deposit_13 rfl (lv_at hl 0 rfl) ?_
  refine lv_iload_n hx hb dM_deposit_14 rfl (lv_at hl 1 rfl) ?_
  refine bm_call (va_runV (As := [.int (nI p)]) (rest := []) ⟨hx, hb, hml, hown, hts⟩ (bc_M_isGood_n3 l D ct base ad M1 sz m 0 tr bl np nd f1 f2 f3 f4 g5 g6 f7 g8 g9 g10 g11 g12 g13 g14 g15 f16 g17 p hP hp20 hv hlo hhi) (cwV 1 hts (bm_goodV bw_780 bw_782 bs_17 bw_5 bw_783) rfl rfl rfl (by decide +kernel) (by rw [← hR]; exact ⟨Nat.le_of_ble_eq_true rfl, Nat.le_of_ble_eq_true rfl⟩)) (bm_preV hM hG hS hz hP.c0 rfl) rfl rfl hl.1 rfl (lv_room (Nat.le_of_ble_eq_true rfl)) dM_deposit_15 (by rw [← hR]; exact ⟨Nat.le_of_ble_eq_true rfl, Nat.le_of_ble_eq_true rfl⟩)) hS (fun v9 M2 H locs hq hM hS _ => ?_)
  obtain ⟨hz, ⟨rfl, hP⟩, hF9⟩ := hq
  have hF := hF.tr hF9
  refine lv_if_ne (tgt := 27) hx hb dM_deposit_18 rfl (fun h => absurd h (by decide)) (fun _ => ?_)
  refine lv_aload_n hx hb dM_deposit_21 rfl (lv_at hl 0 rfl) ?_
  refine lv_iconst (v := 1) hx hb dM_deposit_22 (by decide) ?_
  refine bm_call (va_runV (As := [.int 1]) (rest := []) ⟨hx, hb, hml, hown, hts⟩ (bc_M_fail l D ct base ad M2 sz m 0 tr bl np nd f1 f2 f3 f4 g5 g6 f7 g8 g9 g10 g11 g12 g13 g14 g15 f16 g17 1 hP) (cwV 1 hts (bm_goodV bw_682 bw_684 bs_10 bw_5 bw_685) rfl rfl rfl (by decide +kernel) (by rw [← hR]; exact ⟨Nat.le_of_ble_eq_true rfl, Nat.le_of_ble_eq_true rfl⟩)) (bm_preV hM hG hS hz hP.c0 rfl) rfl rfl hl.1 rfl (lv_room (Nat.le_of_ble_eq_true rfl)) dM_deposit_23 (by rw [← hR]; exact ⟨Nat.le_of_ble_eq_true rfl, Nat.le_of_ble_eq_true rfl⟩)) hS (fun v9 M3 H locs hq hM hS _ => ?_)
  obtain ⟨hz, ⟨rfl, hP⟩, hF9⟩ := hq
  have hF := hF.tr hF9
  exact bm_iret hQ hx hb hr hlk hM hS ⟨hz, ⟨rfl, hP⟩, hF⟩ (Nat.le_refl _) (Nat.le_refl _) dM_deposit_26
set_option maxHeartbeats 4000000 in
set_option maxRecDepth 100000 in
theorem bc_M_deposit_n4 (l : Launch) (D : va_G) (ct : Nat → ClassId) (base : Nat) (ad : Nat → Nat) (M : bm_Map) (sz : Nat) (m : Nat) (th : Int32) (tr : Int32) (bl : Int64) (np : Int32) (nd : Int32) (f1 : Nat → Int32) (f2 : Nat → Int32) (f3 : Nat → Int32) (f4 : Nat → Int32) (g5 : Nat → Int64) (g6 : Nat → Int64) (f7 : Nat → Int32) (g8 : Nat → Int64) (g9 : Nat → Int64) (g10 : Nat → Int64) (g11 : Nat → Int64) (g12 : Nat → Int64) (g13 : Nat → Int64) (g14 : Nat → Int64) (g15 : Nat → Int64) (f16 : Nat → Int32) (g17 : Nat → Int64) (p : Nat) (j : Nat) (hP : bm_MD ct m th tr bl np nd f1 f2 f3 f4 g5 g6 f7 g8 g9 g10 g11 g12 g13 g14 g15 f16 g17 M) (hp20 : p < 20) (hv : bm_bl (nI p) np = 1) (d k : Nat) (hd0 : g9 (16 * p) = lN d) (hd : d < 3) (hnum : bm_hc (lN d) (bm_ph g9 p (bm_ch g9 p)) = lN k) (hk : k < 2 ^ 59) (hj : j < 4) (hbad : bm_gd (bm_gw (bm_ph g9 p (bm_ch g9 p)) 4) (bm_is d (g9 (16 * p + 1)) k) = 0) : Met l yM_deposit (bm_ws yM_deposit cM_deposit 6 (some .int)) { frames := 4, cells := 0, slots := 0, locals := 99 } (bm_Pre D ct base ad M sz [.ref m, .int (nI p), .int (nI j)]) (bm_Post D base (bm_Pm m M sz (fun v M1 => v = some (.int 0) ∧ bm_MD ct m 1 tr bl np nd f1 f2 f3 f4 g5 g6 f7 g8 g9 g10 g11 g12 g13 g14 g15 f16 (bm_hs (bm_ph g9 p (bm_ch g9 p)) g17 4) M1))) 0 0 (bm_A base) := by
  refine bm_ofB (cc := cM_deposit) (maxL := 6) (ret := (some .int)) (by decide +kernel) (Nat.le_of_ble_eq_true rfl) ?_
  intro vp ve s vm args below meth vc hx hb hr hlk hts hown hml hnm ls hl hz hM hG R Q hR hQ
  have hown : s.vm.findClass "BlindMintModel" = some vm.cls := hown
  have hK := hG.K
  have hS : va_S (bm_A base) s.heap s.heap [] := va_S.rf
  have hl : lv_has ls 6 [(0, .ref m), (1, .int (nI p)), (2, .int (nI j))] := hl
  have hF : bm_fr m M M := bm_fr.rf
  refine lv_aload_n hx hb dM_deposit_0 rfl (lv_at hl 0 rfl) ?_
  refine lv_iconst (v := 0) hx hb dM_deposit_1 (by decide) ?_
  refine bm_put (ci := 7) (v := .int 0) (ty := .int) (C := "BlindMintModel") (T := bt_M) (N := 22) hx hb hts bu_M by_M bo_M bn_M hown hK hM hS hP.c0 rfl 0 (by decide) (hts _ bw_602) (fun _ h9 => h9) rfl (by decide +kernel) rfl rfl (Nat.le_of_ble_eq_true rfl) dM_deposit_2 (fun H locs hz1 hM hS => ?_)
  have hz := hz1.trans hz
  obtain ⟨M1, hM, hP, hF⟩ : ∃ X, bm_M D base X H ∧ bm_MD ct m 0 tr bl np nd f1 f2 f3 f4 g5 g6 f7 g8 g9 g10 g11 g12 g13 g14 g15 f16 g17 X ∧ bm_fr m M X := ⟨_, hM, hP.s_th _, hF.up0⟩
  refine lv_iload_n hx hb dM_deposit_5 rfl (lv_at hl 2 rfl) ?_
  refine lv_iconst (v := 4) hx hb dM_deposit_6 (by decide) ?_
  refine bm_callE (va_runS (As := [.int (nI j), .int 4]) (rest := []) ⟨hx, hb, hml, hown, hts⟩ (bc_M_below l D ct base ad M1 sz (nI j) 4) (va_cwS 2 hts (bm_goodS bw_679 bw_680 bw_5 bw_681) rfl rfl rfl (by decide +kernel) (by rw [← hR]; exact ⟨Nat.le_of_ble_eq_true rfl, Nat.le_of_ble_eq_true rfl⟩)) (bm_preS hM hG hS hz) rfl rfl hl.1 rfl (lv_room (Nat.le_of_ble_eq_true rfl)) dM_deposit_7 (by rw [← hR]; exact ⟨Nat.le_of_ble_eq_true rfl, Nat.le_of_ble_eq_true rfl⟩)) hS (fun H locs hz hM hS => ?_)
  refine lv_if_eq (tgt := 21) hx hb dM_deposit_10 rfl (fun h10 => absurd h10 (by rw [show bm_bl (nI j) 4 = 1 from (bm_bl_nI (N := 4) hj (by decide))]; decide)) (fun h10 => ?_)
  refine lv_aload_n hx hb dM_deposit_13 rfl (lv_at hl 0 rfl) ?_
  refine lv_iload_n hx hb dM_deposit_14 rfl (lv_at hl 1 rfl) ?_
  refine bm_call (va_runV (As := [.int (nI p)]) (rest := []) ⟨hx, hb, hml, hown, hts⟩ (bc_M_isGood_ok l D ct base ad M1 sz m 0 tr bl np nd f1 f2 f3 f4 g5 g6 f7 g8 g9 g10 g11 g12 g13 g14 g15 f16 g17 p hP hp20 hv d k hd0 hd hnum hk) (cwV 1 hts (bm_goodV bw_780 bw_782 bs_17 bw_5 bw_783) rfl rfl rfl (by decide +kernel) (by rw [← hR]; exact ⟨Nat.le_of_ble_eq_true rfl, Nat.le_of_ble_eq_true rfl⟩)) (bm_preV hM hG hS hz hP.c0 rfl) rfl rfl hl.1 rfl (lv_room (Nat.le_of_ble_eq_true rfl)) dM_deposit_15 (by rw [← hR]; exact ⟨Nat.le_of_ble_eq_true rfl, Nat.le_of_ble_eq_true rfl⟩)) hS (fun v9 M2 H locs hq hM hS _ => ?_)
  obtain ⟨hz, ⟨rfl, hP⟩, hF9⟩ := hq
  have hF := hF.tr hF9
  refine lv_if_ne (tgt := 27) hx hb dM_deposit_18 rfl (fun h18 => absurd hbad h18) (fun h18 => ?_)
  refine lv_aload_n hx hb dM_deposit_21 rfl (lv_at hl 0 rfl) ?_
  refine lv_iconst (v := 1) hx hb dM_deposit_22 (by decide) ?_
  refine bm_call (va_runV (As := [.int 1]) (rest := []) ⟨hx, hb, hml, hown, hts⟩ (bc_M_fail l D ct base ad M2 sz m 0 tr bl np nd f1 f2 f3 f4 g5 g6 f7 g8 g9 g10 g11 g12 g13 g14 g15 f16 (bm_hs (bm_ph g9 p (bm_ch g9 p)) g17 4) 1 hP) (cwV 1 hts (bm_goodV bw_682 bw_684 bs_10 bw_5 bw_685) rfl rfl rfl (by decide +kernel) (by rw [← hR]; exact ⟨Nat.le_of_ble_eq_true rfl, Nat.le_of_ble_eq_true rfl⟩)) (bm_preV hM hG hS hz hP.c0 rfl) rfl rfl hl.1 rfl (lv_room (Nat.le_of_ble_eq_true rfl)) dM_deposit_23 (by rw [← hR]; exact ⟨Nat.le_of_ble_eq_true rfl, Nat.le_of_ble_eq_true rfl⟩)) hS (fun v9 M3 H locs hq hM hS _ => ?_)
  obtain ⟨hz, ⟨rfl, hP⟩, hF9⟩ := hq
  have hF := hF.tr hF9
  exact bm_iret hQ hx hb hr hlk hM hS ⟨hz, ⟨rfl, hP⟩, hF⟩ (Nat.le_refl _) (Nat.le_refl _) dM_deposit_26
set_option maxHeartbeats 4000000 in
set_option maxRecDepth 100000 in
theorem bc_M_deposit_rep (l : Launch) (D : va_G) (ct : Nat → ClassId) (base : Nat) (ad : Nat → Nat) (M : bm_Map) (sz : Nat) (m : Nat) (th : Int32) (tr : Int32) (bl : Int64) (np : Int32) (nd : Int32) (f1 : Nat → Int32) (f2 : Nat → Int32) (f3 : Nat → Int32) (f4 : Nat → Int32) (g5 : Nat → Int64) (g6 : Nat → Int64) (f7 : Nat → Int32) (g8 : Nat → Int64) (g9 : Nat → Int64) (g10 : Nat → Int64) (g11 : Nat → Int64) (g12 : Nat → Int64) (g13 : Nat → Int64) (g14 : Nat → Int64) (g15 : Nat → Int64) (f16 : Nat → Int32) (g17 : Nat → Int64) (p : Nat) (j : Nat) (hP : bm_MD ct m th tr bl np nd f1 f2 f3 f4 g5 g6 f7 g8 g9 g10 g11 g12 g13 g14 g15 f16 g17 M) (hp20 : p < 20) (hv : bm_bl (nI p) np = 1) (d k : Nat) (hd0 : g9 (16 * p) = lN d) (hd : d < 3) (hnum : bm_hc (lN d) (bm_ph g9 p (bm_ch g9 p)) = lN k) (hk : k < 2 ^ 59) (hj : j < 4) (hgood : ¬ bm_gd (bm_gw (bm_ph g9 p (bm_ch g9 p)) 4) (bm_is d (g9 (16 * p + 1)) k) = 0) (K : Nat) (hkd : nd = nI K) (hK5 : K < 520) (kk : Nat) (hkk : kk < K) (hnone : ∀ i, i < kk → bm_me g10 (bm_ph g9 p (bm_ch g9 p)) (lN d) i 4 = 0) (hfound : ¬ bm_me g10 (bm_ph g9 p (bm_ch g9 p)) (lN d) kk 4 = 0) : Met l yM_deposit (bm_ws yM_deposit cM_deposit 6 (some .int)) { frames := 4, cells := 0, slots := 0, locals := 99 } (bm_Pre D ct base ad M sz [.ref m, .int (nI p), .int (nI j)]) (bm_Post D base (bm_Pm m M sz (fun v M1 => v = some (.int 0) ∧ bm_MD ct m 2 (bm_tv g9 g10 p kk (bm_df g9 g10 p kk) 4) bl np nd f1 (upd f2 3 (f2 3 + 1)) f3 f4 g5 g6 f7 g8 g9 g10 g11 g12 g13 g14 g15 f16 (bm_hs (bm_ph g9 p (bm_ch g9 p)) g17 4) M1))) 0 0 (bm_A base) := by
  refine bm_ofB (cc := cM_deposit) (maxL := 6) (ret := (some .int)) (by decide +kernel) (Nat.le_of_ble_eq_true rfl) ?_
  intro vp ve s vm args below meth vc hx hb hr hlk hts hown hml hnm ls hl hz hM hG R Q hR hQ
  have hown : s.vm.findClass "BlindMintModel" = some vm.cls := hown
  have hK := hG.K
  have hS : va_S (bm_A base) s.heap s.heap [] := va_S.rf
  have hl : lv_has ls 6 [(0, .ref m), (1, .int (nI p)), (2, .int (nI j))] := hl
  have hF : bm_fr m M M := bm_fr.rf
  refine lv_aload_n hx hb dM_deposit_0 rfl (lv_at hl 0 rfl) ?_
  refine lv_iconst (v := 0) hx hb dM_deposit_1 (by decide) ?_
  refine bm_put (ci := 7) (v := .int 0) (ty := .int) (C := "BlindMintModel") (T := bt_M) (N := 22) hx hb hts bu_M by_M bo_M bn_M hown hK hM hS hP.c0 rfl 0 (by decide) (hts _ bw_602) (fun _ h9 => h9) rfl (by decide +kernel) rfl rfl (Nat.le_of_ble_eq_true rfl) dM_deposit_2 (fun H locs hz1 hM hS => ?_)
  have hz := hz1.trans hz
  obtain ⟨M1, hM, hP, hF⟩ : ∃ X, bm_M D base X H ∧ bm_MD ct m 0 tr bl np nd f1 f2 f3 f4 g5 g6 f7 g8 g9 g10 g11 g12 g13 g14 g15 f16 g17 X ∧ bm_fr m M X := ⟨_, hM, hP.s_th _, hF.up0⟩
  refine lv_iload_n hx hb dM_deposit_5 rfl (lv_at hl 2 rfl) ?_
  refine lv_iconst (v := 4) hx hb dM_deposit_6 (by decide) ?_
  refine bm_callE (va_runS (As := [.int (nI j), .int 4]) (rest := []) ⟨hx, hb, hml, hown, hts⟩ (bc_M_below l D ct base ad M1 sz (nI j) 4) (va_cwS 2 hts (bm_goodS bw_679 bw_680 bw_5 bw_681) rfl rfl rfl (by decide +kernel) (by rw [← hR]; exact ⟨Nat.le_of_ble_eq_true rfl, Nat.le_of_ble_eq_true rfl⟩)) (bm_preS hM hG hS hz) rfl rfl hl.1 rfl (lv_room (Nat.le_of_ble_eq_true rfl)) dM_deposit_7 (by rw [← hR]; exact ⟨Nat.le_of_ble_eq_true rfl, Nat.le_of_ble_eq_true rfl⟩)) hS (fun H locs hz hM hS => ?_)
  refine lv_if_eq (tgt := 21) hx hb dM_deposit_10 rfl (fun h10 => absurd h10 (by rw [show bm_bl (nI j) 4 = 1 from (bm_bl_nI (N := 4) hj (by decide))]; decide)) (fun h10 => ?_)
  refine lv_aload_n hx hb dM_deposit_13 rfl (lv_at hl 0 rfl) ?_
  refine lv_iload_n hx hb dM_deposit_14 rfl (lv_at hl 1 rfl) ?_
  refine bm_call (va_runV (As := [.int (nI p)]) (rest := []) ⟨hx, hb, hml, hown, hts⟩ (bc_M_isGood_ok l D ct base ad M1 sz m 0 tr bl np nd f1 f2 f3 f4 g5 g6 f7 g8 g9 g10 g11 g12 g13 g14 g15 f16 g17 p hP hp20 hv d k hd0 hd hnum hk) (cwV 1 hts (bm_goodV bw_780 bw_782 bs_17 bw_5 bw_783) rfl rfl rfl (by decide +kernel) (by rw [← hR]; exact ⟨Nat.le_of_ble_eq_true rfl, Nat.le_of_ble_eq_true rfl⟩)) (bm_preV hM hG hS hz hP.c0 rfl) rfl rfl hl.1 rfl (lv_room (Nat.le_of_ble_eq_true rfl)) dM_deposit_15 (by rw [← hR]; exact ⟨Nat.le_of_ble_eq_true rfl, Nat.le_of_ble_eq_true rfl⟩)) hS (fun v9 M2 H locs hq hM hS _ => ?_)
  obtain ⟨hz, ⟨rfl, hP⟩, hF9⟩ := hq
  have hF := hF.tr hF9
  refine lv_if_ne (tgt := 27) hx hb dM_deposit_18 rfl (fun h18 => ?_) (fun h18 => absurd h18 hgood)
  refine lv_aload_n hx hb dM_deposit_27 rfl (lv_at hl 0 rfl) ?_
  refine lv_aload_n hx hb dM_deposit_28 rfl (lv_at hl 0 rfl) ?_
  refine bm_get (ci := 7) (v := .ref (m + 9)) (C := "BlindMintModel") (T := bt_M) (N := 22) hx hb hts bu_M hown hK hM hP.c0 rfl 12 (by decide) (hts _ bw_614) (fun _ h9 => h9) rfl dM_deposit_29 ?_
  refine lv_bipush (v := 16) hx hb dM_deposit_32 (by decide) ?_
  refine lv_iload_n hx hb dM_deposit_34 rfl (lv_at hl 1 rfl) ?_
  refine lv_imul hx hb dM_deposit_35 ?_
  refine lv_topi (fun t3 e_t3 => ?_)
  have e_t3 : t3 = nI (16 * p) := by rw [e_t3]; exact pk_mul 16 p
  subst e_t3
  refine bm_lald hx hb hK hM 1 hP.c9 rfl (16 * p) (bm_ix_nI (by omega)) (by omega) dM_deposit_36 ?_
  refine lv_topl (fun t4 e_t4 => ?_)
  have e_t4 : t4 = lN d := by rw [e_t4]; exact hd0
  subst e_t4
  refine bm_call (va_runV (As := [.long (lN d)]) (rest := []) ⟨hx, hb, hml, hown, hts⟩ (bc_M_noted_ok l D ct base ad M2 sz m 0 tr bl np nd f1 f2 f3 f4 g5 g6 f7 g8 g9 g10 g11 g12 g13 g14 g15 f16 (bm_hs (bm_ph g9 p (bm_ch g9 p)) g17 4) (lN d) K kk hP hkd (by omega) hkk (fun i hi => (bm_me_cg (fun t ht => bm_hs_at ht) 4 (Nat.le_refl _)).trans (hnone i hi)) (fun q => hfound ((bm_me_cg (fun t ht => bm_hs_at ht) 4 (Nat.le_refl _)).symm.trans q))) (cwV 1 hts (bm_goodV bw_795 bw_797 bs_19 bw_5 bw_798) rfl rfl rfl (by decide +kernel) (by rw [← hR]; exact ⟨Nat.le_of_ble_eq_true rfl, Nat.le_of_ble_eq_true rfl⟩)) (bm_preV hM hG hS hz hP.c0 rfl) rfl rfl hl.1 rfl (lv_room (Nat.le_of_ble_eq_true rfl)) dM_deposit_37 (by rw [← hR]; exact ⟨Nat.le_of_ble_eq_true rfl, Nat.le_of_ble_eq_true rfl⟩)) hS (fun v9 M5 H locs hq hM hS _ => ?_)
  obtain ⟨hz, ⟨rfl, hP⟩, hF9⟩ := hq
  have hF := hF.tr hF9
  refine lv_istore_n hx hb dM_deposit_40 rfl hl (by decide) rfl (fun ls hl => ?_)
  have hl : lv_has ls 6 [(3, .int (nI kk)), (0, .ref m), (1, .int (nI p)), (2, .int (nI j))] := hl
  refine lv_iload_n hx hb dM_deposit_41 rfl (lv_at hl 0 rfl) ?_
  refine lv_if_lt (tgt := 67) hx hb dM_deposit_42 rfl (fun h42 => absurd h42 (nI_pos (by omega))) (fun h42 => ?_)
  refine lv_aload_n hx hb dM_deposit_45 rfl (lv_at hl 1 rfl) ?_
  refine lv_iload_n hx hb dM_deposit_46 rfl (lv_at hl 2 rfl) ?_
  refine lv_iload_n hx hb dM_deposit_47 rfl (lv_at hl 0 rfl) ?_
  refine bm_call (va_runV (As := [.int (nI p), .int (nI kk)]) (rest := []) ⟨hx, hb, hml, hown, hts⟩ (bc_M_trace l D ct base ad M5 sz m 0 tr bl np nd f1 f2 f3 f4 g5 g6 f7 g8 g9 g10 g11 g12 g13 g14 g15 f16 (bm_hs (bm_ph g9 p (bm_ch g9 p)) g17 4) p kk hP hp20 (by omega)) (cwV 2 hts (bm_goodV bw_799 bw_801 bs_20 bw_5 bw_802) rfl rfl rfl (by decide +kernel) (by rw [← hR]; exact ⟨Nat.le_of_ble_eq_true rfl, Nat.le_of_ble_eq_true rfl⟩)) (bm_preV hM hG hS hz hP.c0 rfl) rfl rfl hl.1 rfl (lv_room (Nat.le_of_ble_eq_true rfl)) dM_deposit_48 (by rw [← hR]; exact ⟨Nat.le_of_ble_eq_true rfl, Nat.le_of_ble_eq_true rfl⟩)) hS (fun v9 M6 H locs hq hM hS _ => ?_)
  obtain ⟨hz, ⟨rfl, hP⟩, hF9⟩ := hq
  have hF := hF.tr hF9
  refine lv_aload_n hx hb dM_deposit_51 rfl (lv_at hl 1 rfl) ?_
  refine bm_get (ci := 7) (v := .ref (m + 2)) (C := "BlindMintModel") (T := bt_M) (N := 22) hx hb hts bu_M hown hK hM hP.c0 rfl 2 (by decide) (hts _ bw_604) (fun _ h9 => h9) rfl dM_deposit_52 ?_
  refine lv_iconst (v := 3) hx hb dM_deposit_55 (by decide) ?_
  refine lv_dup2_11 hx hb dM_deposit_56 rfl rfl ?_
  refine bm_iald hx hb hK hM 0 hP.c2 rfl 3 (bm_ix_nI (k := 3) (by decide)) (by decide) dM_deposit_57 ?_
  refine lv_iconst (v := 1) hx hb dM_deposit_58 (by decide) ?_
  refine lv_iadd hx hb dM_deposit_59 ?_
  refine bm_iast hx hb hK hM hS 0 hP.c2 rfl 3 (bm_ix_nI (k := 3) (by decide)) (by decide) dM_deposit_60 (fun H locs hz1 hM hS => ?_)
  have hz := hz1.trans hz
  obtain ⟨M7, hM, hP, hF⟩ : ∃ X, bm_M D base X H ∧ bm_MD ct m 0 (bm_tv g9 g10 p kk (bm_df g9 g10 p kk) 4) bl np nd f1 (upd f2 3 ((f2 3) + 1)) f3 f4 g5 g6 f7 g8 g9 g10 g11 g12 g13 g14 g15 f16 (bm_hs (bm_ph g9 p (bm_ch g9 p)) g17 4) X ∧ bm_fr m M X := ⟨_, hM, hP.s2 _, hF.up (by decide)⟩
  refine lv_aload_n hx hb dM_deposit_61 rfl (lv_at hl 1 rfl) ?_
  refine lv_iconst (v := 2) hx hb dM_deposit_62 (by decide) ?_
  refine bm_call (va_runV (As := [.int 2]) (rest := []) ⟨hx, hb, hml, hown, hts⟩ (bc_M_fail l D ct base ad M7 sz m 0 (bm_tv g9 g10 p kk (bm_df g9 g10 p kk) 4) bl np nd f1 (upd f2 3 ((f2 3) + 1)) f3 f4 g5 g6 f7 g8 g9 g10 g11 g12 g13 g14 g15 f16 (bm_hs (bm_ph g9 p (bm_ch g9 p)) g17 4) 2 hP) (cwV 1 hts (bm_goodV bw_682 bw_684 bs_10 bw_5 bw_685) rfl rfl rfl (by decide +kernel) (by rw [← hR]; exact ⟨Nat.le_of_ble_eq_true rfl, Nat.le_of_ble_eq_true rfl⟩)) (bm_preV hM hG hS hz hP.c0 rfl) rfl rfl hl.1 rfl (lv_room (Nat.le_of_ble_eq_true rfl)) dM_deposit_63 (by rw [← hR]; exact ⟨Nat.le_of_ble_eq_true rfl, Nat.le_of_ble_eq_true rfl⟩)) hS (fun v9 M8 H locs hq hM hS _ => ?_)
  obtain ⟨hz, ⟨rfl, hP⟩, hF9⟩ := hq
  have hF := hF.tr hF9
  exact bm_iret hQ hx hb hr hlk hM hS ⟨hz, ⟨rfl, hP⟩, hF⟩ (Nat.le_refl _) (Nat.le_refl _) dM_deposit_66
set_option maxHeartbeats 4000000 in
set_option maxRecDepth 100000 in
theorem bc_M_deposit_ok (l : Launch) (D : va_G) (ct : Nat → ClassId) (base : Nat) (ad : Nat → Nat) (M : bm_Map) (sz : Nat) (m : Nat) (th : Int32) (tr : Int32) (bl : Int64) (np : Int32) (nd : Int32) (f1 : Nat → Int32) (f2 : Nat → Int32) (f3 : Nat → Int32) (f4 : Nat → Int32) (g5 : Nat → Int64) (g6 : Nat → Int64) (f7 : Nat → Int32) (g8 : Nat → Int64) (g9 : Nat → Int64) (g10 : Nat → Int64) (g11 : Nat → Int64) (g12 : Nat → Int64) (g13 : Nat → Int64) (g14 : Nat → Int64) (g15 : Nat → Int64) (f16 : Nat → Int32) (g17 : Nat → Int64) (p : Nat) (j : Nat) (hP : bm_MD ct m th tr bl np nd f1 f2 f3 f4 g5 g6 f7 g8 g9 g10 g11 g12 g13 g14 g15 f16 g17 M) (hp20 : p < 20) (hv : bm_bl (nI p) np = 1) (d k : Nat) (hd0 : g9 (16 * p) = lN d) (hd : d < 3) (hnum : bm_hc (lN d) (bm_ph g9 p (bm_ch g9 p)) = lN k) (hk : k < 2 ^ 59) (hj : j < 4) (hgood : ¬ bm_gd (bm_gw (bm_ph g9 p (bm_ch g9 p)) 4) (bm_is d (g9 (16 * p + 1)) k) = 0) (K : Nat) (hkd : nd = nI K) (hK5 : K < 520) (hnone : ∀ i, i < K → bm_me g10 (bm_ph g9 p (bm_ch g9 p)) (lN d) i 4 = 0) : Met l yM_deposit (bm_ws yM_deposit cM_deposit 6 (some .int)) { frames := 4, cells := 0, slots := 0, locals := 99 } (bm_Pre D ct base ad M sz [.ref m, .int (nI p), .int (nI j)]) (bm_Post D base (bm_Pm m M sz (fun v M1 => v = some (.int (bm_w d)) ∧ bm_MD ct m 0 tr bl np (nd + 1) (upd f1 j (f1 j + bm_w d)) (upd f2 1 (f2 1 + 1)) f3 f4 g5 g6 f7 g8 g9 (bm_td g9 (bm_ph g9 p (bm_ch g9 p)) p K (vp_updL (vp_updL g10 (10 * K) (lN d)) (10 * K + 5) (bm_ch g9 p)) 4) g11 g12 g13 g14 g15 f16 (bm_hs (bm_ph g9 p (bm_ch g9 p)) g17 4) M1))) 0 0 (bm_A base) := by
  refine bm_ofB (cc := cM_deposit) (maxL := 6) (ret := (some .int)) (by decide +kernel) (Nat.le_of_ble_eq_true rfl) ?_
  intro vp ve s vm args below meth vc hx hb hr hlk hts hown hml hnm ls hl hz hM hG R Q hR hQ
  have hown : s.vm.findClass "BlindMintModel" = some vm.cls := hown
  have hK := hG.K
  have hS : va_S (bm_A base) s.heap s.heap [] := va_S.rf
  have hl : lv_has ls 6 [(0, .ref m), (1, .int (nI p)), (2, .int (nI j))] := hl
  have hF : bm_fr m M M := bm_fr.rf
  refine lv_aload_n hx hb dM_deposit_0 rfl (lv_at hl 0 rfl) ?_
  refine lv_iconst (v := 0) hx hb dM_deposit_1 (by decide) ?_
  refine bm_put (ci := 7) (v := .int 0) (ty := .int) (C := "BlindMintModel") (T := bt_M) (N := 22) hx hb hts bu_M by_M bo_M bn_M hown hK hM hS hP.c0 rfl 0 (by decide) (hts _ bw_602) (fun _ h9 => h9) rfl (by decide +kernel) rfl rfl (Nat.le_of_ble_eq_true rfl) dM_deposit_2 (fun H locs hz1 hM hS => ?_)
  have hz := hz1.trans hz
  obtain ⟨M1, hM, hP, hF⟩ : ∃ X, bm_M D base X H ∧ bm_MD ct m 0 tr bl np nd f1 f2 f3 f4 g5 g6 f7 g8 g9 g10 g11 g12 g13 g14 g15 f16 g17 X ∧ bm_fr m M X := ⟨_, hM, hP.s_th _, hF.up0⟩
  refine lv_iload_n hx hb dM_deposit_5 rfl (lv_at hl 2 rfl) ?_
  refine lv_iconst (v := 4) hx hb dM_deposit_6 (by decide) ?_
  refine bm_callE (va_runS (As := [.int (nI j), .int 4]) (rest := []) ⟨hx, hb, hml, hown, hts⟩ (bc_M_below l D ct base ad M1 sz (nI j) 4) (va_cwS 2 hts (bm_goodS bw_679 bw_680 bw_5 bw_681) rfl rfl rfl (by decide +kernel) (by rw [← hR]; exact ⟨Nat.le_of_ble_eq_true rfl, Nat.le_of_ble_eq_true rfl⟩)) (bm_preS hM hG hS hz) rfl rfl hl.1 rfl (lv_room (Nat.le_of_ble_eq_true rfl)) dM_deposit_7 (by rw [← hR]; exact ⟨Nat.le_of_ble_eq_true rfl, Nat.le_of_ble_eq_true rfl⟩)) hS (fun H locs hz hM hS => ?_)
  refine lv_if_eq (tgt := 21) hx hb dM_deposit_10 rfl (fun h10 => absurd h10 (by rw [show bm_bl (nI j) 4 = 1 from (bm_bl_nI (N := 4) hj (by decide))]; decide)) (fun h10 => ?_)
  refine lv_aload_n hx hb dM_deposit_13 rfl (lv_at hl 0 rfl) ?_
  refine lv_iload_n hx hb dM_deposit_14 rfl (lv_at hl 1 rfl) ?_
  refine bm_call (va_runV (As := [.int (nI p)]) (rest := []) ⟨hx, hb, hml, hown, hts⟩ (bc_M_isGood_ok l D ct base ad M1 sz m 0 tr bl np nd f1 f2 f3 f4 g5 g6 f7 g8 g9 g10 g11 g12 g13 g14 g15 f16 g17 p hP hp20 hv d k hd0 hd hnum hk) (cwV 1 hts (bm_goodV bw_780 bw_782 bs_17 bw_5 bw_783) rfl rfl rfl (by decide +kernel) (by rw [← hR]; exact ⟨Nat.le_of_ble_eq_true rfl, Nat.le_of_ble_eq_true rfl⟩)) (bm_preV hM hG hS hz hP.c0 rfl) rfl rfl hl.1 rfl (lv_room (Nat.le_of_ble_eq_true rfl)) dM_deposit_15 (by rw [← hR]; exact ⟨Nat.le_of_ble_eq_true rfl, Nat.le_of_ble_eq_true rfl⟩)) hS (fun v9 M2 H locs hq hM hS _ => ?_)
  obtain ⟨hz, ⟨rfl, hP⟩, hF9⟩ := hq
  have hF := hF.tr hF9
  refine lv_if_ne (tgt := 27) hx hb dM_deposit_18 rfl (fun h18 => ?_) (fun h18 => absurd h18 hgood)
  refine lv_aload_n hx hb dM_deposit_27 rfl (lv_at hl 0 rfl) ?_
  refine lv_aload_n hx hb dM_deposit_28 rfl (lv_at hl 0 rfl) ?_
  refine bm_get (ci := 7) (v := .ref (m + 9)) (C := "BlindMintModel") (T := bt_M) (N := 22) hx hb hts bu_M hown hK hM hP.c0 rfl 12 (by decide) (hts _ bw_614) (fun _ h9 => h9) rfl dM_deposit_29 ?_
  refine lv_bipush (v := 16) hx hb dM_deposit_32 (by decide) ?_
  refine lv_iload_n hx hb dM_deposit_34 rfl (lv_at hl 1 rfl) ?_
  refine lv_imul hx hb dM_deposit_35 ?_
  refine lv_topi (fun t3 e_t3 => ?_)
  have e_t3 : t3 = nI (16 * p) := by rw [e_t3]; exact pk_mul 16 p
  subst e_t3
  refine bm_lald hx hb hK hM 1 hP.c9 rfl (16 * p) (bm_ix_nI (by omega)) (by omega) dM_deposit_36 ?_
  refine lv_topl (fun t4 e_t4 => ?_)
  have e_t4 : t4 = lN d := by rw [e_t4]; exact hd0
  subst e_t4
  refine bm_call (va_runV (As := [.long (lN d)]) (rest := []) ⟨hx, hb, hml, hown, hts⟩ (bc_M_noted_none l D ct base ad M2 sz m 0 tr bl np nd f1 f2 f3 f4 g5 g6 f7 g8 g9 g10 g11 g12 g13 g14 g15 f16 (bm_hs (bm_ph g9 p (bm_ch g9 p)) g17 4) (lN d) K hP hkd (by omega) (fun i hi => (bm_me_cg (fun t ht => bm_hs_at ht) 4 (Nat.le_refl _)).trans (hnone i hi))) (cwV 1 hts (bm_goodV bw_795 bw_797 bs_19 bw_5 bw_798) rfl rfl rfl (by decide +kernel) (by rw [← hR]; exact ⟨Nat.le_of_ble_eq_true rfl, Nat.le_of_ble_eq_true rfl⟩)) (bm_preV hM hG hS hz hP.c0 rfl) rfl rfl hl.1 rfl (lv_room (Nat.le_of_ble_eq_true rfl)) dM_deposit_37 (by rw [← hR]; exact ⟨Nat.le_of_ble_eq_true rfl, Nat.le_of_ble_eq_true rfl⟩)) hS (fun v9 M5 H locs hq hM hS _ => ?_)
  obtain ⟨hz, ⟨rfl, hP⟩, hF9⟩ := hq
  have hF := hF.tr hF9
  refine lv_istore_n hx hb dM_deposit_40 rfl hl (by decide) rfl (fun ls hl => ?_)
  have hl : lv_has ls 6 [(3, .int (-1)), (0, .ref m), (1, .int (nI p)), (2, .int (nI j))] := hl
  refine lv_iload_n hx hb dM_deposit_41 rfl (lv_at hl 0 rfl) ?_
  refine lv_if_lt (tgt := 67) hx hb dM_deposit_42 rfl (fun _ => ?_) (fun h => absurd h (by decide))
  refine lv_bipush (v := 10) hx hb dM_deposit_67 (by decide) ?_
  refine lv_aload_n hx hb dM_deposit_69 rfl (lv_at hl 1 rfl) ?_
  refine bm_get (ci := 7) (v := .int nd) (C := "BlindMintModel") (T := bt_M) (N := 22) hx hb hts bu_M hown hK hM hP.c0 rfl 13 (by decide) (hts _ bw_615) (fun _ h9 => h9) rfl dM_deposit_70 ?_
  refine lv_topi (fun t6 e_t6 => ?_)
  have e_t6 : t6 = nI K := by rw [e_t6]; exact hkd
  subst e_t6
  refine lv_imul hx hb dM_deposit_73 ?_
  refine lv_topi (fun t7 e_t7 => ?_)
  have e_t7 : t7 = nI (10 * K) := by rw [e_t7]; exact pk_mul 10 K
  subst e_t7
  refine lv_istore hx hb dM_deposit_74 hl (by decide) rfl (fun ls hl => ?_)
  have hl : lv_has ls 6 [(4, .int (nI (10 * K))), (3, .int (-1)), (0, .ref m), (1, .int (nI p)), (2, .int (nI j))] := hl
  refine lv_aload_n hx hb dM_deposit_76 rfl (lv_at hl 2 rfl) ?_
  refine bm_get (ci := 7) (v := .ref (m + 10)) (C := "BlindMintModel") (T := bt_M) (N := 22) hx hb hts bu_M hown hK hM hP.c0 rfl 14 (by decide) (hts _ bw_616) (fun _ h9 => h9) rfl dM_deposit_77 ?_
  refine lv_iload hx hb dM_deposit_80 (lv_at hl 0 rfl) ?_
  refine lv_aload_n hx hb dM_deposit_82 rfl (lv_at hl 2 rfl) ?_
  refine bm_get (ci := 7) (v := .ref (m + 9)) (C := "BlindMintModel") (T := bt_M) (N := 22) hx hb hts bu_M hown hK hM hP.c0 rfl 12 (by decide) (hts _ bw_614) (fun _ h9 => h9) rfl dM_deposit_83 ?_
  refine lv_bipush (v := 16) hx hb dM_deposit_86 (by decide) ?_
  refine lv_iload_n hx hb dM_deposit_88 rfl (lv_at hl 3 rfl) ?_
  refine lv_imul hx hb dM_deposit_89 ?_
  refine lv_topi (fun t8 e_t8 => ?_)
  have e_t8 : t8 = nI (16 * p) := by rw [e_t8]; exact pk_mul 16 p
  subst e_t8
  refine bm_lald hx hb hK hM 1 hP.c9 rfl (16 * p) (bm_ix_nI (by omega)) (by omega) dM_deposit_90 ?_
  refine lv_topl (fun t9 e_t9 => ?_)
  have e_t9 : t9 = lN d := by rw [e_t9]; exact hd0
  subst e_t9
  refine bm_last hx hb hK hM hS 1 hP.c10 rfl (10 * K) (bm_ix_nI (by omega)) (by omega) dM_deposit_91 (fun H locs hz1 hM hS => ?_)
  have hz := hz1.trans hz
  obtain ⟨M10, hM, hP, hF⟩ : ∃ X, bm_M D base X H ∧ bm_MD ct m 0 tr bl np nd f1 f2 f3 f4 g5 g6 f7 g8 g9 (vp_updL g10 (10 * K) (lN d)) g11 g12 g13 g14 g15 f16 (bm_hs (bm_ph g9 p (bm_ch g9 p)) g17 4) X ∧ bm_fr m M X := ⟨_, hM, hP.s10 _, hF.up (by decide)⟩
  refine lv_aload_n hx hb dM_deposit_92 rfl (lv_at hl 2 rfl) ?_
  refine bm_get (ci := 7) (v := .ref (m + 10)) (C := "BlindMintModel") (T := bt_M) (N := 22) hx hb hts bu_M hown hK hM hP.c0 rfl 14 (by decide) (hts _ bw_616) (fun _ h9 => h9) rfl dM_deposit_93 ?_
  refine lv_iload hx hb dM_deposit_96 (lv_at hl 0 rfl) ?_
  refine lv_iconst (v := 5) hx hb dM_deposit_98 (by decide) ?_
  refine lv_iadd hx hb dM_deposit_99 ?_
  refine lv_topi (fun t11 e_t11 => ?_)
  have e_t11 : t11 = nI (10 * K + 5) := by rw [e_t11]; exact nI_add _ 5
  subst e_t11
  refine lv_aload_n hx hb dM_deposit_100 rfl (lv_at hl 2 rfl) ?_
  refine lv_iload_n hx hb dM_deposit_101 rfl (lv_at hl 3 rfl) ?_
  refine bm_call (va_runV (As := [.int (nI p)]) (rest := [.int (nI (10 * K + 5)), .ref (m + 10)]) ⟨hx, hb, hml, hown, hts⟩ (bc_M_choiceOf l D ct base ad M10 sz m 0 tr bl np nd f1 f2 f3 f4 g5 g6 f7 g8 g9 (vp_updL g10 (10 * K) (lN d)) g11 g12 g13 g14 g15 f16 (bm_hs (bm_ph g9 p (bm_ch g9 p)) g17 4) p hP hp20) (cwV 1 hts (bm_goodV bw_784 bw_786 bs_18 bw_5 bw_787) rfl rfl rfl (by decide +kernel) (by rw [← hR]; exact ⟨Nat.le_of_ble_eq_true rfl, Nat.le_of_ble_eq_true rfl⟩)) (bm_preV hM hG hS hz hP.c0 rfl) rfl rfl hl.1 rfl (lv_room (Nat.le_of_ble_eq_true rfl)) dM_deposit_102 (by rw [← hR]; exact ⟨Nat.le_of_ble_eq_true rfl, Nat.le_of_ble_eq_true rfl⟩)) hS (fun v9 M12 H locs hq hM hS _ => ?_)
  obtain ⟨hz, ⟨rfl, hP⟩, hF9⟩ := hq
  have hF := hF.tr hF9
  refine bm_last hx hb hK hM hS 1 hP.c10 rfl (10 * K + 5) (bm_ix_nI (by omega)) (by omega) dM_deposit_105 (fun H locs hz1 hM hS => ?_)
  have hz := hz1.trans hz
  obtain ⟨M13, hM, hP, hF⟩ : ∃ X, bm_M D base X H ∧ bm_MD ct m 0 tr bl np nd f1 f2 f3 f4 g5 g6 f7 g8 g9 (vp_updL (vp_updL g10 (10 * K) (lN d)) (10 * K + 5) (bm_ch g9 p)) g11 g12 g13 g14 g15 f16 (bm_hs (bm_ph g9 p (bm_ch g9 p)) g17 4) X ∧ bm_fr m M X := ⟨_, hM, hP.s10 _, hF.up (by decide)⟩
  refine lv_iconst (v := 0) hx hb dM_deposit_106 (by decide) ?_
  refine lv_istore hx hb dM_deposit_107 hl (by decide) rfl (fun ls hl => ?_)
  have hl : lv_has ls 6 [(5, .int 0), (4, .int (nI (10 * K))), (3, .int (-1)), (0, .ref m), (1, .int (nI p)), (2, .int (nI j))] := hl
  have hl : lv_has ls 6 [(0, .ref m), (1, .int (nI p)), (2, .int (nI j)), (4, .int (nI (10 * K))), (5, .int 0)] := lv_sub hl [3, 4, 5, 1, 0] rfl
  have loop : ∀ (n : Nat) (i : Nat) (ls : Array Slot) (H : Heap) (locs : List Loc) (M14 : bm_Map), i + n = 4 → lv_has ls 6 [(0, .ref m), (1, .int (nI p)), (2, .int (nI j)), (4, .int (nI (10 * K))), (5, .int (nI i))] → H.size = sz → bm_M D base M14 H → va_S (bm_A base) s.heap H locs → bm_MD ct m 0 tr bl np nd f1 f2 f3 f4 g5 g6 f7 g8 g9 (bm_td g9 (bm_ph g9 p (bm_ch g9 p)) p K (vp_updL (vp_updL g10 (10 * K) (lN d)) (10 * K + 5) (bm_ch g9 p)) i) g11 g12 g13 g14 g15 f16 (bm_hs (bm_ph g9 p (bm_ch g9 p)) g17 4) M14 → bm_fr m M M14 → W vp l ve R s vm args below meth vc H locs 0 0 Q (F0 vm 109 ls []) := by
    clear hP hF hM hz hS hl
    intro n
    induction n with
    | zero =>
      intro i ls H locs M14 hi hl hz hM hS hP hF
      obtain rfl : i = 4 := by omega
      have hl : lv_has ls 6 [(0, .ref m), (1, .int (nI p)), (2, .int (nI j)), (4, .int (nI (10 * K))), (5, .int 4)] := hl
      refine lv_iload hx hb dM_deposit_109 (lv_at hl 4 rfl) ?_
      refine lv_iconst (v := 4) hx hb dM_deposit_111 (by decide) ?_
      refine lv_icmp_ge (tgt := 169) hx hb dM_deposit_112 rfl (fun _ => ?_) (fun h => absurd h (by decide))
      refine lv_aload_n hx hb dM_deposit_169 rfl (lv_at hl 0 rfl) ?_
      refine lv_dup hx hb dM_deposit_170 rfl ?_
      refine bm_get (ci := 7) (v := .int nd) (C := "BlindMintModel") (T := bt_M) (N := 22) hx hb hts bu_M hown hK hM hP.c0 rfl 13 (by decide) (hts _ bw_615) (fun _ h9 => h9) rfl dM_deposit_171 ?_
      refine lv_iconst (v := 1) hx hb dM_deposit_174 (by decide) ?_
      refine lv_iadd hx hb dM_deposit_175 ?_
      refine bm_put (ci := 7) (v := .int (nd + 1)) (ty := .int) (C := "BlindMintModel") (T := bt_M) (N := 22) hx hb hts bu_M by_M bo_M bn_M hown hK hM hS hP.c0 rfl 13 (by decide) (hts _ bw_615) (fun _ h9 => h9) rfl (by decide +kernel) rfl rfl (Nat.le_of_ble_eq_true rfl) dM_deposit_176 (fun H locs hz1 hM hS => ?_)
      have hz := hz1.trans hz
      obtain ⟨M15, hM, hP, hF⟩ : ∃ X, bm_M D base X H ∧ bm_MD ct m 0 tr bl np (nd + 1) f1 f2 f3 f4 g5 g6 f7 g8 g9 (bm_td g9 (bm_ph g9 p (bm_ch g9 p)) p K (vp_updL (vp_updL g10 (10 * K) (lN d)) (10 * K + 5) (bm_ch g9 p)) 4) g11 g12 g13 g14 g15 f16 (bm_hs (bm_ph g9 p (bm_ch g9 p)) g17 4) X ∧ bm_fr m M X := ⟨_, hM, hP.s_nd _, hF.up0⟩
      refine lv_aload_n hx hb dM_deposit_179 rfl (lv_at hl 0 rfl) ?_
      refine bm_get (ci := 7) (v := .ref (m + 9)) (C := "BlindMintModel") (T := bt_M) (N := 22) hx hb hts bu_M hown hK hM hP.c0 rfl 12 (by decide) (hts _ bw_614) (fun _ h9 => h9) rfl dM_deposit_180 ?_
      refine lv_bipush (v := 16) hx hb dM_deposit_183 (by decide) ?_
      refine lv_iload_n hx hb dM_deposit_185 rfl (lv_at hl 1 rfl) ?_
      refine lv_imul hx hb dM_deposit_186 ?_
      refine lv_topi (fun t16 e_t16 => ?_)
      have e_t16 : t16 = nI (16 * p) := by rw [e_t16]; exact pk_mul 16 p
      subst e_t16
      refine bm_lald hx hb hK hM 1 hP.c9 rfl (16 * p) (bm_ix_nI (by omega)) (by omega) dM_deposit_187 ?_
      refine lv_topl (fun t17 e_t17 => ?_)
      have e_t17 : t17 = lN d := by rw [e_t17]; exact hd0
      subst e_t17
      refine lv_l2i (v := nI d) hx hb dM_deposit_188 (lN_i _) ?_
      refine bm_callE (va_runS (As := [.int (nI d)]) (rest := []) ⟨hx, hb, hml, hown, hts⟩ (bc_M_worth l D ct base ad M15 sz d hd) (va_cwS 1 hts (bm_goodS bw_686 bw_687 bw_5 bw_688) rfl rfl rfl (by decide +kernel) (by rw [← hR]; exact ⟨Nat.le_of_ble_eq_true rfl, Nat.le_of_ble_eq_true rfl⟩)) (bm_preS hM hG hS hz) rfl rfl hl.1 rfl (lv_room (Nat.le_of_ble_eq_true rfl)) dM_deposit_189 (by rw [← hR]; exact ⟨Nat.le_of_ble_eq_true rfl, Nat.le_of_ble_eq_true rfl⟩)) hS (fun H locs hz hM hS => ?_)
      refine lv_istore hx hb dM_deposit_192 hl (by decide) rfl (fun ls hl => ?_)
      have hl : lv_has ls 6 [(5, .int (bm_w d)), (0, .ref m), (1, .int (nI p)), (2, .int (nI j)), (4, .int (nI (10 * K)))] := hl
      refine lv_aload_n hx hb dM_deposit_194 rfl (lv_at hl 1 rfl) ?_
      refine bm_get (ci := 7) (v := .ref (m + 1)) (C := "BlindMintModel") (T := bt_M) (N := 22) hx hb hts bu_M hown hK hM hP.c0 rfl 1 (by decide) (hts _ bw_603) (fun _ h9 => h9) rfl dM_deposit_195 ?_
      refine lv_iload_n hx hb dM_deposit_198 rfl (lv_at hl 3 rfl) ?_
      refine lv_dup2_11 hx hb dM_deposit_199 rfl rfl ?_
      refine bm_iald hx hb hK hM 0 hP.c1 rfl j (bm_ix_nI (by omega)) (by omega) dM_deposit_200 ?_
      refine lv_iload hx hb dM_deposit_201 (lv_at hl 0 rfl) ?_
      refine lv_iadd hx hb dM_deposit_203 ?_
      refine bm_iast hx hb hK hM hS 0 hP.c1 rfl j (bm_ix_nI (by omega)) (by omega) dM_deposit_204 (fun H locs hz1 hM hS => ?_)
      have hz := hz1.trans hz
      obtain ⟨M18, hM, hP, hF⟩ : ∃ X, bm_M D base X H ∧ bm_MD ct m 0 tr bl np (nd + 1) (upd f1 j ((f1 j) + (bm_w d))) f2 f3 f4 g5 g6 f7 g8 g9 (bm_td g9 (bm_ph g9 p (bm_ch g9 p)) p K (vp_updL (vp_updL g10 (10 * K) (lN d)) (10 * K + 5) (bm_ch g9 p)) 4) g11 g12 g13 g14 g15 f16 (bm_hs (bm_ph g9 p (bm_ch g9 p)) g17 4) X ∧ bm_fr m M X := ⟨_, hM, hP.s1 _, hF.up (by decide)⟩
      refine lv_aload_n hx hb dM_deposit_205 rfl (lv_at hl 1 rfl) ?_
      refine bm_get (ci := 7) (v := .ref (m + 2)) (C := "BlindMintModel") (T := bt_M) (N := 22) hx hb hts bu_M hown hK hM hP.c0 rfl 2 (by decide) (hts _ bw_604) (fun _ h9 => h9) rfl dM_deposit_206 ?_
      refine lv_iconst (v := 1) hx hb dM_deposit_209 (by decide) ?_
      refine lv_dup2_11 hx hb dM_deposit_210 rfl rfl ?_
      refine bm_iald hx hb hK hM 0 hP.c2 rfl 1 (bm_ix_nI (k := 1) (by decide)) (by decide) dM_deposit_211 ?_
      refine lv_iconst (v := 1) hx hb dM_deposit_212 (by decide) ?_
      refine lv_iadd hx hb dM_deposit_213 ?_
      refine bm_iast hx hb hK hM hS 0 hP.c2 rfl 1 (bm_ix_nI (k := 1) (by decide)) (by decide) dM_deposit_214 (fun H locs hz1 hM hS => ?_)
      have hz := hz1.trans hz
      obtain ⟨M19, hM, hP, hF⟩ : ∃ X, bm_M D base X H ∧ bm_MD ct m 0 tr bl np (nd + 1) (upd f1 j ((f1 j) + (bm_w d))) (upd f2 1 ((f2 1) + 1)) f3 f4 g5 g6 f7 g8 g9 (bm_td g9 (bm_ph g9 p (bm_ch g9 p)) p K (vp_updL (vp_updL g10 (10 * K) (lN d)) (10 * K + 5) (bm_ch g9 p)) 4) g11 g12 g13 g14 g15 f16 (bm_hs (bm_ph g9 p (bm_ch g9 p)) g17 4) X ∧ bm_fr m M X := ⟨_, hM, hP.s2 _, hF.up (by decide)⟩
      refine lv_iload hx hb dM_deposit_215 (lv_at hl 0 rfl) ?_
      exact bm_iret hQ hx hb hr hlk hM hS ⟨hz, ⟨rfl, hP⟩, hF⟩ (Nat.le_refl _) (Nat.le_refl _) dM_deposit_217
    | succ n ih =>
      intro i ls H locs M14 hi hl hz hM hS hP hF
      refine lv_iload hx hb dM_deposit_109 (lv_at hl 4 rfl) ?_
      refine lv_iconst (v := 4) hx hb dM_deposit_111 (by decide) ?_
      refine lv_icmp_ge (tgt := 169) hx hb dM_deposit_112 rfl (fun h112 => absurd h112 (nI_ge (b := 4) (by omega) (by decide))) (fun h112 => ?_)
      refine lv_aload_n hx hb dM_deposit_115 rfl (lv_at hl 0 rfl) ?_
      refine bm_get (ci := 7) (v := .ref (m + 10)) (C := "BlindMintModel") (T := bt_M) (N := 22) hx hb hts bu_M hown hK hM hP.c0 rfl 14 (by decide) (hts _ bw_616) (fun _ h9 => h9) rfl dM_deposit_116 ?_
      refine lv_iload hx hb dM_deposit_119 (lv_at hl 3 rfl) ?_
      refine lv_iconst (v := 1) hx hb dM_deposit_121 (by decide) ?_
      refine lv_iadd hx hb dM_deposit_122 ?_
      refine lv_iload hx hb dM_deposit_123 (lv_at hl 4 rfl) ?_
      refine lv_iadd hx hb dM_deposit_125 ?_
      refine lv_topi (fun t20 e_t20 => ?_)
      have e_t20 : t20 = nI (10 * K + (1 + i)) := by rw [e_t20]; show nI (10 * K) + nI 1 + nI i = _; rw [nI_add, nI_add, Nat.add_assoc]
      subst e_t20
      refine lv_aload_n hx hb dM_deposit_126 rfl (lv_at hl 0 rfl) ?_
      refine bm_get (ci := 7) (v := .ref (m + 17)) (C := "BlindMintModel") (T := bt_M) (N := 22) hx hb hts bu_M hown hK hM hP.c0 rfl 21 (by decide) (hts _ bw_623) (fun _ h9 => h9) rfl dM_deposit_127 ?_
      refine lv_iload hx hb dM_deposit_130 (lv_at hl 4 rfl) ?_
      refine bm_lald hx hb hK hM 1 hP.c17 rfl i (bm_ix_nI (by omega)) (by omega) dM_deposit_132 ?_
      refine lv_topl (fun t21 e_t21 => ?_)
      have e_t21 : t21 = bm_ph g9 p (bm_ch g9 p) i := by rw [e_t21]; exact bm_hs_at (by omega)
      subst e_t21
      refine bm_last hx hb hK hM hS 1 hP.c10 rfl (10 * K + (1 + i)) (bm_ix_nI (by omega)) (by omega) dM_deposit_133 (fun H locs hz1 hM hS => ?_)
      have hz := hz1.trans hz
      obtain ⟨M22, hM, hP, hF⟩ : ∃ X, bm_M D base X H ∧ bm_MD ct m 0 tr bl np nd f1 f2 f3 f4 g5 g6 f7 g8 g9 (vp_updL (bm_td g9 (bm_ph g9 p (bm_ch g9 p)) p K (vp_updL (vp_updL g10 (10 * K) (lN d)) (10 * K + 5) (bm_ch g9 p)) i) (10 * K + (1 + i)) (bm_ph g9 p (bm_ch g9 p) i)) g11 g12 g13 g14 g15 f16 (bm_hs (bm_ph g9 p (bm_ch g9 p)) g17 4) X ∧ bm_fr m M X := ⟨_, hM, hP.s10 _, hF.up (by decide)⟩
      refine lv_aload_n hx hb dM_deposit_134 rfl (lv_at hl 0 rfl) ?_
      refine bm_get (ci := 7) (v := .ref (m + 10)) (C := "BlindMintModel") (T := bt_M) (N := 22) hx hb hts bu_M hown hK hM hP.c0 rfl 14 (by decide) (hts _ bw_616) (fun _ h9 => h9) rfl dM_deposit_135 ?_
      refine lv_iload hx hb dM_deposit_138 (lv_at hl 3 rfl) ?_
      refine lv_bipush (v := 6) hx hb dM_deposit_140 (by decide) ?_
      refine lv_iadd hx hb dM_deposit_142 ?_
      refine lv_iload hx hb dM_deposit_143 (lv_at hl 4 rfl) ?_
      refine lv_iadd hx hb dM_deposit_145 ?_
      refine lv_topi (fun t23 e_t23 => ?_)
      have e_t23 : t23 = nI (10 * K + (6 + i)) := by rw [e_t23]; show nI (10 * K) + nI 6 + nI i = _; rw [nI_add, nI_add, Nat.add_assoc]
      subst e_t23
      refine lv_aload_n hx hb dM_deposit_146 rfl (lv_at hl 0 rfl) ?_
      refine bm_get (ci := 7) (v := .ref (m + 9)) (C := "BlindMintModel") (T := bt_M) (N := 22) hx hb hts bu_M hown hK hM hP.c0 rfl 12 (by decide) (hts _ bw_614) (fun _ h9 => h9) rfl dM_deposit_147 ?_
      refine lv_bipush (v := 16) hx hb dM_deposit_150 (by decide) ?_
      refine lv_iload_n hx hb dM_deposit_152 rfl (lv_at hl 1 rfl) ?_
      refine lv_imul hx hb dM_deposit_153 ?_
      refine lv_iconst (v := 4) hx hb dM_deposit_154 (by decide) ?_
      refine lv_iadd hx hb dM_deposit_155 ?_
      refine lv_iconst (v := 3) hx hb dM_deposit_156 (by decide) ?_
      refine lv_iload hx hb dM_deposit_157 (lv_at hl 4 rfl) ?_
      refine lv_imul hx hb dM_deposit_159 ?_
      refine lv_iadd hx hb dM_deposit_160 ?_
      refine lv_topi (fun t24 e_t24 => ?_)
      have e_t24 : t24 = nI (16 * p + (4 + 3 * i)) := by rw [e_t24]; show nI 16 * nI p + nI 4 + nI 3 * nI i = _; rw [pk_mul, pk_mul, nI_add, nI_add, Nat.add_assoc]
      subst e_t24
      refine bm_lald hx hb hK hM 1 hP.c9 rfl (16 * p + (4 + 3 * i)) (bm_ix_nI (by omega)) (by omega) dM_deposit_161 ?_
      refine bm_last hx hb hK hM hS 1 hP.c10 rfl (10 * K + (6 + i)) (bm_ix_nI (by omega)) (by omega) dM_deposit_162 (fun H locs hz1 hM hS => ?_)
      have hz := hz1.trans hz
      obtain ⟨M25, hM, hP, hF⟩ : ∃ X, bm_M D base X H ∧ bm_MD ct m 0 tr bl np nd f1 f2 f3 f4 g5 g6 f7 g8 g9 (vp_updL (vp_updL (bm_td g9 (bm_ph g9 p (bm_ch g9 p)) p K (vp_updL (vp_updL g10 (10 * K) (lN d)) (10 * K + 5) (bm_ch g9 p)) i) (10 * K + (1 + i)) (bm_ph g9 p (bm_ch g9 p) i)) (10 * K + (6 + i)) (g9 (16 * p + (4 + 3 * i)))) g11 g12 g13 g14 g15 f16 (bm_hs (bm_ph g9 p (bm_ch g9 p)) g17 4) X ∧ bm_fr m M X := ⟨_, hM, hP.s10 _, hF.up (by decide)⟩
      refine lv_iinc (v := nI (i + 1)) (k := 4) hx hb dM_deposit_163 hl rfl (bm_inc i) (by decide) rfl (fun ls hl => ?_)
      have hl : lv_has ls 6 [(5, .int (nI (i + 1))), (0, .ref m), (1, .int (nI p)), (2, .int (nI j)), (4, .int (nI (10 * K)))] := hl
      refine lv_goto (tgt := 109) hx hb dM_deposit_166 rfl ?_
      have hl : lv_has ls 6 [(0, .ref m), (1, .int (nI p)), (2, .int (nI j)), (4, .int (nI (10 * K))), (5, .int (nI (i + 1)))] := lv_sub hl [1, 2, 3, 4, 0] rfl
      exact ih (i + 1) ls _ _ _ (by omega) hl hz hM hS hP hF
  exact loop 4 0 ls _ _ _ rfl hl hz hM hS hP hF
