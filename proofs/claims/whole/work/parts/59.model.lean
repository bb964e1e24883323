set_option maxHeartbeats 4000000 in
set_option maxRecDepth 100000 in
theorem bc_M_choose_n1 (l : Launch) (D : va_G) (ct : Nat → ClassId) (base : Nat) (ad : Nat → Nat) (M : bm_Map) (sz : Nat) (m : Nat) (th : Int32) (tr : Int32) (bl : Int64) (np : Int32) (nd : Int32) (f1 : Nat → Int32) (f2 : Nat → Int32) (f3 : Nat → Int32) (f4 : Nat → Int32) (g5 : Nat → Int64) (g6 : Nat → Int64) (f7 : Nat → Int32) (g8 : Nat → Int64) (g9 : Nat → Int64) (g10 : Nat → Int64) (g11 : Nat → Int64) (g12 : Nat → Int64) (g13 : Nat → Int64) (g14 : Nat → Int64) (g15 : Nat → Int64) (f16 : Nat → Int32) (g17 : Nat → Int64) (v w : Int32) (hP : bm_MD ct m th tr bl np nd f1 f2 f3 f4 g5 g6 f7 g8 g9 g10 g11 g12 g13 g14 g15 f16 g17 M) (hv : bm_bl v 4 = 0) : Met l yM_choose (bm_ws yM_choose cM_choose 9 (some .int)) { frames := 1, cells := 0, slots := 0, locals := 21 } (bm_Pre D ct base ad M sz [.ref m, .int v, .int w]) (bm_Post D base (bm_Pm m M sz (fun v M1 => v = some (.int 0) ∧ bm_MD ct m 1 tr bl np nd f1 f2 f3 f4 g5 g6 f7 g8 g9 g10 g11 g12 g13 g14 g15 f16 g17 M1))) 0 0 (bm_A base) := by
  refine bm_ofB (cc := cM_choose) (maxL := 9) (ret := (some .int)) (by decide +kernel) (Nat.le_of_ble_eq_true rfl) ?_
  intro vp ve s vm args below meth vc hx hb hr hlk hts hown hml hnm ls hl hz hM hG R Q hR hQ
  have hown : s.vm.findClass "BlindMintModel" = some vm.cls := hown
  have hK := hG.K
  have hS : va_S (bm_A base) s.heap s.heap [] := va_S.rf
  have hl : lv_has ls 9 [(0, .ref m), (1, .int v), (2, .int w)] := hl
  have hF : bm_fr m M M := bm_fr.rf
  refine lv_aload_n hx hb dM_choose_0 rfl (lv_at hl 0 rfl) ?_
  refine lv_iconst (v := 0) hx hb dM_choose_1 (by decide) ?_
  refine bm_put (ci := 7) (v := .int 0) (ty := .int) (C := "BlindMintModel") (T := bt_M) (N := 22) hx hb hts bu_M by_M bo_M bn_M hown hK hM hS hP.c0 rfl 0 (by decide) (hts _ bw_602) (fun _ h9 => h9) rfl (by decide +kernel) rfl rfl (Nat.le_of_ble_eq_true rfl) dM_choose_2 (fun H locs hz1 hM hS => ?_)
  have hz := hz1.trans hz
  obtain ⟨M1, hM, hP, hF⟩ : ∃ X, bm_M D base X H ∧ bm_MD ct m 0 tr bl np nd f1 f2 f3 f4 g5 g6 f7 g8 g9 g10 g11 g12 g13 g14 g15 f16 g17 X ∧ bm_fr m M X := ⟨_, hM, hP.s_th _, hF.up0⟩
  refine lv_iload_n hx hb dM_choose_5 rfl (lv_at hl 1 rfl) ?_
  refine lv_iconst (v := 4) hx hb dM_choose_6 (by decide) ?_
  refine bm_callE (va_runS (As := [.int v, .int 4]) (rest := []) ⟨hx, hb, hml, hown, hts⟩ (bc_M_below l D ct base ad M1 sz v 4) (va_cwS 2 hts (bm_goodS bw_679 bw_680 bw_5 bw_681) rfl rfl rfl (by decide +kernel) (by rw [← hR]; exact ⟨Nat.le_of_ble_eq_true rfl, Nat.le_of_ble_eq_true rfl⟩)) (bm_preS hM hG hS hz) rfl rfl hl.1 rfl (lv_room (Nat.le_of_ble_eq_true rfl)) dM_choose_7 (by rw [← hR]; exact ⟨Nat.le_of_ble_eq_true rfl, Nat.le_of_ble_eq_true rfl⟩)) hS (fun H locs hz hM hS => ?_)
  refine lv_if_eq (tgt := 18) hx hb dM_choose_10 rfl (fun h10 => ?_) (fun h10 => absurd hv h10)
  refine lv_aload_n hx hb dM_choose_18 rfl (lv_at hl 0 rfl) ?_
  refine lv_iconst (v := 1) hx hb dM_choose_19 (by decide) ?_
  refine bm_call (va_runV (As := [.int 1]) (rest := []) ⟨hx, hb, hml, hown, hts⟩ (bc_M_fail l D ct base ad M1 sz m 0 tr bl np nd f1 f2 f3 f4 g5 g6 f7 g8 g9 g10 g11 g12 g13 g14 g15 f16 g17 1 hP) (cwV 1 hts (bm_goodV bw_682 bw_684 bs_10 bw_5 bw_685) rfl rfl rfl (by decide +kernel) (by rw [← hR]; exact ⟨Nat.le_of_ble_eq_true rfl, Nat.le_of_ble_eq_true rfl⟩)) (bm_preV hM hG hS hz hP.c0 rfl) rfl rfl hl.1 rfl (lv_room (Nat.le_of_ble_eq_true rfl)) dM_choose_20 (by rw [← hR]; exact ⟨Nat.le_of_ble_eq_true rfl, Nat.le_of_ble_eq_true rfl⟩)) hS (fun v9 M2 H locs hq hM hS _ => ?_)
  obtain ⟨hz, ⟨rfl, hP⟩, hF9⟩ := hq
  have hF := hF.tr hF9
  exact bm_iret hQ hx hb hr hlk hM hS ⟨hz, ⟨rfl, hP⟩, hF⟩ (Nat.le_refl _) (Nat.le_refl _) dM_choose_23
set_option maxHeartbeats 4000000 in
set_option maxRecDepth 100000 in
theorem bc_M_choose_n2 (l : Launch) (D : va_G) (ct : Nat → ClassId) (base : Nat) (ad : Nat → Nat) (M : bm_Map) (sz : Nat) (m : Nat) (th : Int32) (tr : Int32) (bl : Int64) (np : Int32) (nd : Int32) (f1 : Nat → Int32) (f2 : Nat → Int32) (f3 : Nat → Int32) (f4 : Nat → Int32) (g5 : Nat → Int64) (g6 : Nat → Int64) (f7 : Nat → Int32) (g8 : Nat → Int64) (g9 : Nat → Int64) (g10 : Nat → Int64) (g11 : Nat → Int64) (g12 : Nat → Int64) (g13 : Nat → Int64) (g14 : Nat → Int64) (g15 : Nat → Int64) (f16 : Nat → Int32) (g17 : Nat → Int64) (j : Nat) (w : Int32) (hP : bm_MD ct m th tr bl np nd f1 f2 f3 f4 g5 g6 f7 g8 g9 g10 g11 g12 g13 g14 g15 f16 g17 M) (hj : j < 4) (hw : ¬ 1 ≤ w) : Met l yM_choose (bm_ws yM_choose cM_choose 9 (some .int)) { frames := 1, cells := 0, slots := 0, locals := 21 } (bm_Pre D ct base ad M sz [.ref m, .int (nI j), .int w]) (bm_Post D base (bm_Pm m M sz (fun v M1 => v = some (.int 0) ∧ bm_MD ct m 1 tr bl np nd f1 f2 f3 f4 g5 g6 f7 g8 g9 g10 g11 g12 g13 g14 g15 f16 g17 M1))) 0 0 (bm_A base) := by
  refine bm_ofB (cc := cM_choose) (maxL := 9) (ret := (some .int)) (by decide +kernel) (Nat.le_of_ble_eq_true rfl) ?_
  intro vp ve s vm args below meth vc hx hb hr hlk hts hown hml hnm ls hl hz hM hG R Q hR hQ
  have hown : s.vm.findClass "BlindMintModel" = some vm.cls := hown
  have hK := hG.K
  have hS : va_S (bm_A base) s.heap s.heap [] := va_S.rf
  have hl : lv_has ls 9 [(0, .ref m), (1, .int (nI j)), (2, .int w)] := hl
  have hF : bm_fr m M M := bm_fr.rf
  refine lv_aload_n hx hb dM_choose_0 rfl (lv_at hl 0 rfl) ?_
  refine lv_iconst (v := 0) hx hb dM_choose_1 (by decide) ?_
  refine bm_put (ci := 7) (v := .int 0) (ty := .int) (C := "BlindMintModel") (T := bt_M) (N := 22) hx hb hts bu_M by_M bo_M bn_M hown hK hM hS hP.c0 rfl 0 (by decide) (hts _ bw_602) (fun _ h9 => h9) rfl (by decide +kernel) rfl rfl (Nat.le_of_ble_eq_true rfl) dM_choose_2 (fun H locs hz1 hM hS => ?_)
  have hz := hz1.trans hz
  obtain ⟨M1, hM, hP, hF⟩ : ∃ X, bm_M D base X H ∧ bm_MD ct m 0 tr bl np nd f1 f2 f3 f4 g5 g6 f7 g8 g9 g10 g11 g12 g13 g14 g15 f16 g17 X ∧ bm_fr m M X := ⟨_, hM, hP.s_th _, hF.up0⟩
  refine lv_iload_n hx hb dM_choose_5 rfl (lv_at hl 1 rfl) ?_
  refine lv_iconst (v := 4) hx hb dM_choose_6 (by decide) ?_
  refine bm_callE (va_runS (As := [.int (nI j), .int 4]) (rest := []) ⟨hx, hb, hml, hown, hts⟩ (bc_M_below l D ct base ad M1 sz (nI j) 4) (va_cwS 2 hts (bm_goodS bw_679 bw_680 bw_5 bw_681) rfl rfl rfl (by decide +kernel) (by rw [← hR]; exact ⟨Nat.le_of_ble_eq_true rfl, Nat.le_of_ble_eq_true rfl⟩)) (bm_preS hM hG hS hz) rfl rfl hl.1 rfl (lv_room (Nat.le_of_ble_eq_true rfl)) dM_choose_7 (by rw [← hR]; exact ⟨Nat.le_of_ble_eq_true rfl, Nat.le_of_ble_eq_true rfl⟩)) hS (fun H locs hz hM hS => ?_)
  refine lv_if_eq (tgt := 18) hx hb dM_choose_10 rfl (fun h10 => absurd h10 (by rw [show bm_bl (nI j) 4 = 1 from (bm_bl_nI (N := 4) hj (by decide))]; decide)) (fun h10 => ?_)
  refine lv_iload_n hx hb dM_choose_13 rfl (lv_at hl 2 rfl) ?_
  refine lv_iconst (v := 1) hx hb dM_choose_14 (by decide) ?_
  refine lv_icmp_ge (tgt := 24) hx hb dM_choose_15 rfl (fun h15 => absurd h15 hw) (fun h15 => ?_)
  refine lv_aload_n hx hb dM_choose_18 rfl (lv_at hl 0 rfl) ?_
  refine lv_iconst (v := 1) hx hb dM_choose_19 (by decide) ?_
  refine bm_call (va_runV (As := [.int 1]) (rest := []) ⟨hx, hb, hml, hown, hts⟩ (bc_M_fail l D ct base ad M1 sz m 0 tr bl np nd f1 f2 f3 f4 g5 g6 f7 g8 g9 g10 g11 g12 g13 g14 g15 f16 g17 1 hP) (cwV 1 hts (bm_goodV bw_682 bw_684 bs_10 bw_5 bw_685) rfl rfl rfl (by decide +kernel) (by rw [← hR]; exact ⟨Nat.le_of_ble_eq_true rfl, Nat.le_of_ble_eq_true rfl⟩)) (bm_preV hM hG hS hz hP.c0 rfl) rfl rfl hl.1 rfl (lv_room (Nat.le_of_ble_eq_true rfl)) dM_choose_20 (by rw [← hR]; exact ⟨Nat.le_of_ble_eq_true rfl, Nat.le_of_ble_eq_true rfl⟩)) hS (fun v9 M2 H locs hq hM hS _ => ?_)
  obtain ⟨hz, ⟨rfl, hP⟩, hF9⟩ := hq
  have hF := hF.tr hF9
  exact bm_iret hQ hx hb hr hlk hM hS ⟨hz, ⟨rfl, hP⟩, hF⟩ (Nat.le_refl _) (Nat.le_refl _) dM_choose_23
set_option maxHeartbeats 4000000 in
set_option maxRecDepth 100000 in
theorem bc_M_choose_q (l : Launch) (D : va_G) (ct : Nat → ClassId) (base : Nat) (ad : Nat → Nat) (M : bm_Map) (sz : Nat) (m : Nat) (th : Int32) (tr : Int32) (bl : Int64) (np : Int32) (nd : Int32) (f1 : Nat → Int32) (f2 : Nat → Int32) (f3 : Nat → Int32) (f4 : Nat → Int32) (g5 : Nat → Int64) (g6 : Nat → Int64) (f7 : Nat → Int32) (g8 : Nat → Int64) (g9 : Nat → Int64) (g10 : Nat → Int64) (g11 : Nat → Int64) (g12 : Nat → Int64) (g13 : Nat → Int64) (g14 : Nat → Int64) (g15 : Nat → Int64) (f16 : Nat → Int32) (g17 : Nat → Int64) (j K : Nat) (w : Int32) (hP : bm_MD ct m th tr bl np nd f1 f2 f3 f4 g5 g6 f7 g8 g9 g10 g11 g12 g13 g14 g15 f16 g17 M) (hj : j < 4) (hw : 1 ≤ w) (hkc : f3 j = nI K) (hK8 : K ≤ 8) (hend : ¬ (bm_cz f4 f7 j K w).2 ≤ 0) : Met l yM_choose (bm_ws yM_choose cM_choose 9 (some .int)) { frames := 1, cells := 0, slots := 0, locals := 21 } (bm_Pre D ct base ad M sz [.ref m, .int (nI j), .int w]) (bm_Post D base (bm_Pm m M sz (fun v M1 => v = some (.int 0) ∧ bm_MD ct m 2 tr bl np nd f1 f2 f3 f4 g5 g6 f7 g8 g9 g10 g11 g12 g13 g14 g15 f16 g17 M1))) 0 0 (bm_A base) := by
  refine bm_ofB (cc := cM_choose) (maxL := 9) (ret := (some .int)) (by decide +kernel) (Nat.le_of_ble_eq_true rfl) ?_
  intro vp ve s vm args below meth vc hx hb hr hlk hts hown hml hnm ls hl hz hM hG R Q hR hQ
  have hown : s.vm.findClass "BlindMintModel" = some vm.cls := hown
  have hK := hG.K
  have hS : va_S (bm_A base) s.heap s.heap [] := va_S.rf
  have hl : lv_has ls 9 [(0, .ref m), (1, .int (nI j)), (2, .int w)] := hl
  have hF : bm_fr m M M := bm_fr.rf
  refine lv_aload_n hx hb dM_choose_0 rfl (lv_at hl 0 rfl) ?_
  refine lv_iconst (v := 0) hx hb dM_choose_1 (by decide) ?_
  refine bm_put (ci := 7) (v := .int 0) (ty := .int) (C := "BlindMintModel") (T := bt_M) (N := 22) hx hb hts bu_M by_M bo_M bn_M hown hK hM hS hP.c0 rfl 0 (by decide) (hts _ bw_602) (fun _ h9 => h9) rfl (by decide +kernel) rfl rfl (Nat.le_of_ble_eq_true rfl) dM_choose_2 (fun H locs hz1 hM hS => ?_)
  have hz := hz1.trans hz
  obtain ⟨M1, hM, hP, hF⟩ : ∃ X, bm_M D base X H ∧ bm_MD ct m 0 tr bl np nd f1 f2 f3 f4 g5 g6 f7 g8 g9 g10 g11 g12 g13 g14 g15 f16 g17 X ∧ bm_fr m M X := ⟨_, hM, hP.s_th _, hF.up0⟩
  refine lv_iload_n hx hb dM_choose_5 rfl (lv_at hl 1 rfl) ?_
  refine lv_iconst (v := 4) hx hb dM_choose_6 (by decide) ?_
  refine bm_callE (va_runS (As := [.int (nI j), .int 4]) (rest := []) ⟨hx, hb, hml, hown, hts⟩ (bc_M_below l D ct base ad M1 sz (nI j) 4) (va_cwS 2 hts (bm_goodS bw_679 bw_680 bw_5 bw_681) rfl rfl rfl (by decide +kernel) (by rw [← hR]; exact ⟨Nat.le_of_ble_eq_true rfl, Nat.le_of_ble_eq_true rfl⟩)) (bm_preS hM hG hS hz) rfl rfl hl.1 rfl (lv_room (Nat.le_of_ble_eq_true rfl)) dM_choose_7 (by rw [← hR]; exact ⟨Nat.le_of_ble_eq_true rfl, Nat.le_of_ble_eq_true rfl⟩)) hS (fun H locs hz hM hS => ?_)
  refine lv_if_eq (tgt := 18) hx hb dM_choose_10 rfl (fun h10 => absurd h10 (by rw [show bm_bl (nI j) 4 = 1 from (bm_bl_nI (N := 4) hj (by decide))]; decide)) (fun h10 => ?_)
  refine lv_iload_n hx hb dM_choose_13 rfl (lv_at hl 2 rfl) ?_
  refine lv_iconst (v := 1) hx hb dM_choose_14 (by decide) ?_
  refine lv_icmp_ge (tgt := 24) hx hb dM_choose_15 rfl (fun h15 => ?_) (fun h15 => absurd hw h15)
  refine lv_iload_n hx hb dM_choose_24 rfl (lv_at hl 2 rfl) ?_
  refine lv_istore_n hx hb dM_choose_25 rfl hl (by decide) rfl (fun ls hl => ?_)
  have hl : lv_has ls 9 [(3, .int w), (0, .ref m), (1, .int (nI j)), (2, .int w)] := hl
  refine lv_iconst (v := 0) hx hb dM_choose_26 (by decide) ?_
  refine lv_istore hx hb dM_choose_27 hl (by decide) rfl (fun ls hl => ?_)
  have hl : lv_has ls 9 [(4, .int 0), (3, .int w), (0, .ref m), (1, .int (nI j)), (2, .int w)] := hl
  refine lv_iconst (v := 2) hx hb dM_choose_29 (by decide) ?_
  refine lv_istore hx hb dM_choose_30 hl (by decide) rfl (fun ls hl => ?_)
  have hl : lv_has ls 9 [(5, .int 2), (4, .int 0), (3, .int w), (0, .ref m), (1, .int (nI j)), (2, .int w)] := hl
  refine lv_iload hx hb dM_choose_32 (lv_at hl 0 rfl) ?_
  refine lv_if_lt (tgt := 145) hx hb dM_choose_34 rfl (fun h => absurd h (by decide)) (fun _ => ?_)
  refine lv_iconst (v := 0) hx hb dM_choose_37 (by decide) ?_
  refine lv_istore hx hb dM_choose_38 hl (by decide) rfl (fun ls hl => ?_)
  have hl : lv_has ls 9 [(6, .int 0), (5, .int 2), (4, .int 0), (3, .int w), (0, .ref m), (1, .int (nI j)), (2, .int w)] := hl
  have hl : lv_has ls 9 [(0, .ref m), (1, .int (nI j)), (3, .int w), (4, .int 0), (5, .int 2), (6, .int 0)] := lv_sub hl [4, 5, 3, 2, 1, 0] rfl
  have loop : ∀ (n : Nat) (k : Nat) (ls : Array Slot) (H : Heap) (locs : List Loc), k + n = K → lv_has ls 9 [(0, .ref m), (1, .int (nI j)), (3, .int ((bm_cs f4 f7 j 2 k (0, w)).2)), (4, .int ((bm_cs f4 f7 j 2 k (0, w)).1)), (5, .int 2), (6, .int (nI k))] → H.size = sz → bm_M D base M1 H → va_S (bm_A base) s.heap H locs → W vp l ve R s vm args below meth vc H locs 0 0 Q (F0 vm 40 ls []) := by
    intro n
    induction n with
    | zero =>
      intro k ls H locs hi hl hz hM hS
      obtain rfl : K = k := by omega
      have hl : lv_has ls 9 [(0, .ref m), (1, .int (nI j)), (3, .int ((bm_cs f4 f7 j 2 K (0, w)).2)), (4, .int ((bm_cs f4 f7 j 2 K (0, w)).1)), (5, .int 2), (6, .int (nI K))] := hl
      refine lv_iload hx hb dM_choose_40 (lv_at hl 5 rfl) ?_
      refine lv_aload_n hx hb dM_choose_42 rfl (lv_at hl 0 rfl) ?_
      refine bm_get (ci := 7) (v := .ref (m + 3)) (C := "BlindMintModel") (T := bt_M) (N := 22) hx hb hts bu_M hown hK hM hP.c0 rfl 5 (by decide) (hts _ bw_607) (fun _ h9 => h9) rfl dM_choose_43 ?_
      refine lv_iload_n hx hb dM_choose_46 rfl (lv_at hl 1 rfl) ?_
      refine bm_iald hx hb hK hM 0 hP.c3 rfl j (bm_ix_nI (by omega)) (by omega) dM_choose_47 ?_
      refine lv_topi (fun t2 e_t2 => ?_)
      have e_t2 : t2 = nI K := by rw [e_t2]; exact hkc
      subst e_t2
      refine lv_icmp_ge (tgt := 139) hx hb dM_choose_48 rfl (fun h48 => ?_) (fun h48 => absurd (Int32.le_refl _) h48)
      refine lv_iinc (v := 1) (k := 4) hx hb dM_choose_139 hl rfl (by decide) (by decide) rfl (fun ls hl => ?_)
      have hl : lv_has ls 9 [(5, .int 1), (0, .ref m), (1, .int (nI j)), (3, .int ((bm_cs f4 f7 j 2 K (0, w)).2)), (4, .int ((bm_cs f4 f7 j 2 K (0, w)).1)), (6, .int (nI K))] := hl
      refine lv_goto (tgt := 32) hx hb dM_choose_142 rfl ?_
      refine lv_iload hx hb dM_choose_32 (lv_at hl 0 rfl) ?_
      refine lv_if_lt (tgt := 145) hx hb dM_choose_34 rfl (fun h => absurd h (by decide)) (fun _ => ?_)
      refine lv_iconst (v := 0) hx hb dM_choose_37 (by decide) ?_
      refine lv_istore hx hb dM_choose_38 hl (by decide) rfl (fun ls hl => ?_)
      have hl : lv_has ls 9 [(6, .int 0), (5, .int 1), (0, .ref m), (1, .int (nI j)), (3, .int ((bm_cs f4 f7 j 2 K (0, w)).2)), (4, .int ((bm_cs f4 f7 j 2 K (0, w)).1))] := hl
      have hl : lv_has ls 9 [(0, .ref m), (1, .int (nI j)), (3, .int ((bm_cs f4 f7 j 2 K (0, w)).2)), (4, .int ((bm_cs f4 f7 j 2 K (0, w)).1)), (5, .int 1), (6, .int 0)] := lv_sub hl [2, 3, 4, 5, 1, 0] rfl
      have loop : ∀ (n : Nat) (k : Nat) (ls : Array Slot) (H : Heap) (locs : List Loc), k + n = K → lv_has ls 9 [(0, .ref m), (1, .int (nI j)), (3, .int ((bm_cs f4 f7 j 1 k (bm_cs f4 f7 j 2 K (0, w))).2)), (4, .int ((bm_cs f4 f7 j 1 k (bm_cs f4 f7 j 2 K (0, w))).1)), (5, .int 1), (6, .int (nI k))] → H.size = sz → bm_M D base M1 H → va_S (bm_A base) s.heap H locs → W vp l ve R s vm args below meth vc H locs 0 0 Q (F0 vm 40 ls []) := by
        intro n
        induction n with
        | zero =>
          intro k ls H locs hi hl hz hM hS
          obtain rfl : K = k := by omega
          have hl : lv_has ls 9 [(0, .ref m), (1, .int (nI j)), (3, .int ((bm_cs f4 f7 j 1 K (bm_cs f4 f7 j 2 K (0, w))).2)), (4, .int ((bm_cs f4 f7 j 1 K (bm_cs f4 f7 j 2 K (0, w))).1)), (5, .int 1), (6, .int (nI K))] := hl
          refine lv_iload hx hb dM_choose_40 (lv_at hl 5 rfl) ?_
          refine lv_aload_n hx hb dM_choose_42 rfl (lv_at hl 0 rfl) ?_
          refine bm_get (ci := 7) (v := .ref (m + 3)) (C := "BlindMintModel") (T := bt_M) (N := 22) hx hb hts bu_M hown hK hM hP.c0 rfl 5 (by decide) (hts _ bw_607) (fun _ h9 => h9) rfl dM_choose_43 ?_
          refine lv_iload_n hx hb dM_choose_46 rfl (lv_at hl 1 rfl) ?_
          refine bm_iald hx hb hK hM 0 hP.c3 rfl j (bm_ix_nI (by omega)) (by omega) dM_choose_47 ?_
          refine lv_topi (fun t3 e_t3 => ?_)
          have e_t3 : t3 = nI K := by rw [e_t3]; exact hkc
          subst e_t3
          refine lv_icmp_ge (tgt := 139) hx hb dM_choose_48 rfl (fun h48 => ?_) (fun h48 => absurd (Int32.le_refl _) h48)
          refine lv_iinc (v := 0) (k := 4) hx hb dM_choose_139 hl rfl (by decide) (by decide) rfl (fun ls hl => ?_)
          have hl : lv_has ls 9 [(5, .int 0), (0, .ref m), (1, .int (nI j)), (3, .int ((bm_cs f4 f7 j 1 K (bm_cs f4 f7 j 2 K (0, w))).2)), (4, .int ((bm_cs f4 f7 j 1 K (bm_cs f4 f7 j 2 K (0, w))).1)), (6, .int (nI K))] := hl
          refine lv_goto (tgt := 32) hx hb dM_choose_142 rfl ?_
          refine lv_iload hx hb dM_choose_32 (lv_at hl 0 rfl) ?_
          refine lv_if_lt (tgt := 145) hx hb dM_choose_34 rfl (fun h => absurd h (by decide)) (fun _ => ?_)
          refine lv_iconst (v := 0) hx hb dM_choose_37 (by decide) ?_
          refine lv_istore hx hb dM_choose_38 hl (by decide) rfl (fun ls hl => ?_)
          have hl : lv_has ls 9 [(6, .int 0), (5, .int 0), (0, .ref m), (1, .int (nI j)), (3, .int ((bm_cs f4 f7 j 1 K (bm_cs f4 f7 j 2 K (0, w))).2)), (4, .int ((bm_cs f4 f7 j 1 K (bm_cs f4 f7 j 2 K (0, w))).1))] := hl
          have hl : lv_has ls 9 [(0, .ref m), (1, .int (nI j)), (3, .int ((bm_cs f4 f7 j 1 K (bm_cs f4 f7 j 2 K (0, w))).2)), (4, .int ((bm_cs f4 f7 j 1 K (bm_cs f4 f7 j 2 K (0, w))).1)), (5, .int 0), (6, .int 0)] := lv_sub hl [2, 3, 4, 5, 1, 0] rfl
          have loop : ∀ (n : Nat) (k : Nat) (ls : Array Slot) (H : Heap) (locs : List Loc), k + n = K → lv_has ls 9 [(0, .ref m), (1, .int (nI j)), (3, .int ((bm_cs f4 f7 j 0 k (bm_cs f4 f7 j 1 K (bm_cs f4 f7 j 2 K (0, w)))).2)), (4, .int ((bm_cs f4 f7 j 0 k (bm_cs f4 f7 j 1 K (bm_cs f4 f7 j 2 K (0, w)))).1)), (5, .int 0), (6, .int (nI k))] → H.size = sz → bm_M D base M1 H → va_S (bm_A base) s.heap H locs → W vp l ve R s vm args below meth vc H locs 0 0 Q (F0 vm 40 ls []) := by
            intro n
            induction n with
            | zero =>
              intro k ls H locs hi hl hz hM hS
              obtain rfl : K = k := by omega
              have hl : lv_has ls 9 [(0, .ref m), (1, .int (nI j)), (3, .int ((bm_cs f4 f7 j 0 K (bm_cs f4 f7 j 1 K (bm_cs f4 f7 j 2 K (0, w)))).2)), (4, .int ((bm_cs f4 f7 j 0 K (bm_cs f4 f7 j 1 K (bm_cs f4 f7 j 2 K (0, w)))).1)), (5, .int 0), (6, .int (nI K))] := hl
              refine lv_iload hx hb dM_choose_40 (lv_at hl 5 rfl) ?_
              refine lv_aload_n hx hb dM_choose_42 rfl (lv_at hl 0 rfl) ?_
              refine bm_get (ci := 7) (v := .ref (m + 3)) (C := "BlindMintModel") (T := bt_M) (N := 22) hx hb hts bu_M hown hK hM hP.c0 rfl 5 (by decide) (hts _ bw_607) (fun _ h9 => h9) rfl dM_choose_43 ?_
              refine lv_iload_n hx hb dM_choose_46 rfl (lv_at hl 1 rfl) ?_
              refine bm_iald hx hb hK hM 0 hP.c3 rfl j (bm_ix_nI (by omega)) (by omega) dM_choose_47 ?_
              refine lv_topi (fun t4 e_t4 => ?_)
              have e_t4 : t4 = nI K := by rw [e_t4]; exact hkc
              subst e_t4
              refine lv_icmp_ge (tgt := 139) hx hb dM_choose_48 rfl (fun h48 => ?_) (fun h48 => absurd (Int32.le_refl _) h48)
              refine lv_iinc (v := (-1)) (k := 4) hx hb dM_choose_139 hl rfl (by decide) (by decide) rfl (fun ls hl => ?_)
              have hl : lv_has ls 9 [(5, .int (-1)), (0, .ref m), (1, .int (nI j)), (3, .int ((bm_cs f4 f7 j 0 K (bm_cs f4 f7 j 1 K (bm_cs f4 f7 j 2 K (0, w)))).2)), (4, .int ((bm_cs f4 f7 j 0 K (bm_cs f4 f7 j 1 K (bm_cs f4 f7 j 2 K (0, w)))).1)), (6, .int (nI K))] := hl
              refine lv_goto (tgt := 32) hx hb dM_choose_142 rfl ?_
              refine lv_iload hx hb dM_choose_32 (lv_at hl 0 rfl) ?_
              refine lv_if_lt (tgt := 145) hx hb dM_choose_34 rfl (fun _ => ?_) (fun h => absurd h (by decide))
              refine lv_iload_n hx hb dM_choose_145 rfl (lv_at hl 3 rfl) ?_
              refine lv_if_le (tgt := 157) hx hb dM_choose_146 rfl (fun h146 => absurd h146 hend) (fun h146 => ?_)
              refine lv_aload_n hx hb dM_choose_149 rfl (lv_at hl 1 rfl) ?_
              refine lv_iconst (v := 2) hx hb dM_choose_150 (by decide) ?_
              refine bm_call (va_runV (As := [.int 2]) (rest := []) ⟨hx, hb, hml, hown, hts⟩ (bc_M_fail l D ct base ad M1 sz m 0 tr bl np nd f1 f2 f3 f4 g5 g6 f7 g8 g9 g10 g11 g12 g13 g14 g15 f16 g17 2 hP) (cwV 1 hts (bm_goodV bw_682 bw_684 bs_10 bw_5 bw_685) rfl rfl rfl (by decide +kernel) (by rw [← hR]; exact ⟨Nat.le_of_ble_eq_true rfl, Nat.le_of_ble_eq_true rfl⟩)) (bm_preV hM hG hS hz hP.c0 rfl) rfl rfl hl.1 rfl (lv_room (Nat.le_of_ble_eq_true rfl)) dM_choose_151 (by rw [← hR]; exact ⟨Nat.le_of_ble_eq_true rfl, Nat.le_of_ble_eq_true rfl⟩)) hS (fun v9 M5 H locs hq hM hS _ => ?_)
              obtain ⟨hz, ⟨rfl, hP⟩, hF9⟩ := hq
              have hF := hF.tr hF9
              refine lv_goto (tgt := 159) hx hb dM_choose_154 rfl ?_
              exact bm_iret hQ hx hb hr hlk hM hS ⟨hz, ⟨rfl, hP⟩, hF⟩ (Nat.le_refl _) (Nat.le_refl _) dM_choose_159
            | succ n ih =>
              intro k ls H locs hi hl hz hM hS
              refine lv_iload hx hb dM_choose_40 (lv_at hl 5 rfl) ?_
              refine lv_aload_n hx hb dM_choose_42 rfl (lv_at hl 0 rfl) ?_
              refine bm_get (ci := 7) (v := .ref (m + 3)) (C := "BlindMintModel") (T := bt_M) (N := 22) hx hb hts bu_M hown hK hM hP.c0 rfl 5 (by decide) (hts _ bw_607) (fun _ h9 => h9) rfl dM_choose_43 ?_
              refine lv_iload_n hx hb dM_choose_46 rfl (lv_at hl 1 rfl) ?_
              refine bm_iald hx hb hK hM 0 hP.c3 rfl j (bm_ix_nI (by omega)) (by omega) dM_choose_47 ?_
              refine lv_topi (fun t6 e_t6 => ?_)
              have e_t6 : t6 = nI K := by rw [e_t6]; exact hkc
              subst e_t6
              refine lv_icmp_ge (tgt := 139) hx hb dM_choose_48 rfl (fun h48 => absurd h48 (nI_ge (by omega) (by omega))) (fun h48 => ?_)
              refine lv_bipush (v := 8) hx hb dM_choose_51 (by decide) ?_
              refine lv_iload_n hx hb dM_choose_53 rfl (lv_at hl 1 rfl) ?_
              refine lv_imul hx hb dM_choose_54 ?_
              refine lv_iload hx hb dM_choose_55 (lv_at hl 5 rfl) ?_
              refine lv_iadd hx hb dM_choose_57 ?_
              refine lv_topi (fun t7 e_t7 => ?_)
              have e_t7 : t7 = nI (8 * j + k) := by rw [e_t7]; show nI 8 * nI j + nI k = _; rw [pk_mul, nI_add]
              subst e_t7
              refine lv_istore hx hb dM_choose_58 hl (by decide) rfl (fun ls hl => ?_)
              have hl : lv_has ls 9 [(7, .int (nI (8 * j + k))), (0, .ref m), (1, .int (nI j)), (3, .int ((bm_cs f4 f7 j 0 k (bm_cs f4 f7 j 1 K (bm_cs f4 f7 j 2 K (0, w)))).2)), (4, .int ((bm_cs f4 f7 j 0 k (bm_cs f4 f7 j 1 K (bm_cs f4 f7 j 2 K (0, w)))).1)), (5, .int 0), (6, .int (nI k))] := hl
              refine lv_aload_n hx hb dM_choose_60 rfl (lv_at hl 1 rfl) ?_
              refine bm_get (ci := 7) (v := .ref (m + 4)) (C := "BlindMintModel") (T := bt_M) (N := 22) hx hb hts bu_M hown hK hM hP.c0 rfl 6 (by decide) (hts _ bw_608) (fun _ h9 => h9) rfl dM_choose_61 ?_
              refine lv_iload hx hb dM_choose_64 (lv_at hl 0 rfl) ?_
              refine bm_iald hx hb hK hM 0 hP.c4 rfl (8 * j + k) (bm_ix_nI (by omega)) (by omega) dM_choose_66 ?_
              refine lv_iload hx hb dM_choose_67 (lv_at hl 5 rfl) ?_
              refine lv_icmp_ne (tgt := 95) hx hb dM_choose_69 rfl (fun h69 => ?_) (fun h69 => ?_)
              · refine lv_iconst (v := 0) hx hb dM_choose_95 (by decide) ?_
                refine lv_istore hx hb dM_choose_96 hl (by decide) rfl (fun ls hl => ?_)
                have hl : lv_has ls 9 [(8, .int 0), (7, .int (nI (8 * j + k))), (0, .ref m), (1, .int (nI j)), (3, .int ((bm_cs f4 f7 j 0 k (bm_cs f4 f7 j 1 K (bm_cs f4 f7 j 2 K (0, w)))).2)), (4, .int ((bm_cs f4 f7 j 0 k (bm_cs f4 f7 j 1 K (bm_cs f4 f7 j 2 K (0, w)))).1)), (5, .int 0), (6, .int (nI k))] := hl
                refine lv_iload hx hb dM_choose_98 (lv_at hl 5 rfl) ?_
                refine lv_iload hx hb dM_choose_100 (lv_at hl 0 rfl) ?_
                refine lv_if_eq (tgt := 112) hx hb dM_choose_102 rfl (fun _ => ?_) (fun h => absurd h (by decide))
                refine lv_iconst (v := 0) hx hb dM_choose_112 (by decide) ?_
                refine lv_ior hx hb dM_choose_113 ?_
                refine lv_istore hx hb dM_choose_114 hl (by decide) rfl (fun ls hl => ?_)
                have hl : lv_has ls 9 [(4, .int (((bm_cs f4 f7 j 0 k (bm_cs f4 f7 j 1 K (bm_cs f4 f7 j 2 K (0, w)))).1) ||| 0)), (8, .int 0), (7, .int (nI (8 * j + k))), (0, .ref m), (1, .int (nI j)), (3, .int ((bm_cs f4 f7 j 0 k (bm_cs f4 f7 j 1 K (bm_cs f4 f7 j 2 K (0, w)))).2)), (5, .int 0), (6, .int (nI k))] := hl
                refine lv_iload_n hx hb dM_choose_116 rfl (lv_at hl 5 rfl) ?_
                refine lv_iload hx hb dM_choose_117 (lv_at hl 1 rfl) ?_
                refine lv_if_eq (tgt := 130) hx hb dM_choose_119 rfl (fun _ => ?_) (fun h => absurd h (by decide))
                refine lv_iconst (v := 0) hx hb dM_choose_130 (by decide) ?_
                refine lv_isub hx hb dM_choose_131 ?_
                refine lv_istore_n hx hb dM_choose_132 rfl hl (by decide) rfl (fun ls hl => ?_)
                have hl : lv_has ls 9 [(3, .int (((bm_cs f4 f7 j 0 k (bm_cs f4 f7 j 1 K (bm_cs f4 f7 j 2 K (0, w)))).2) - 0)), (4, .int (((bm_cs f4 f7 j 0 k (bm_cs f4 f7 j 1 K (bm_cs f4 f7 j 2 K (0, w)))).1) ||| 0)), (8, .int 0), (7, .int (nI (8 * j + k))), (0, .ref m), (1, .int (nI j)), (5, .int 0), (6, .int (nI k))] := hl
                have hl : lv_has ls 9 [(3, .int ((bm_cs f4 f7 j 0 (k + 1) (bm_cs f4 f7 j 1 K (bm_cs f4 f7 j 2 K (0, w)))).2)), (4, .int ((bm_cs f4 f7 j 0 (k + 1) (bm_cs f4 f7 j 1 K (bm_cs f4 f7 j 2 K (0, w)))).1)), (8, .int 0), (7, .int (nI (8 * j + k))), (0, .ref m), (1, .int (nI j)), (5, .int 0), (6, .int (nI k))] := by rw [show bm_cs f4 f7 j 0 (k + 1) (bm_cs f4 f7 j 1 K (bm_cs f4 f7 j 2 K (0, w))) = _ from bm_cs_n (fun q => h69 q.1)]; exact hl
                refine lv_iinc (v := nI (k + 1)) (k := 7) hx hb dM_choose_133 hl rfl (bm_inc k) (by decide) rfl (fun ls hl => ?_)
                have hl : lv_has ls 9 [(6, .int (nI (k + 1))), (3, .int ((bm_cs f4 f7 j 0 (k + 1) (bm_cs f4 f7 j 1 K (bm_cs f4 f7 j 2 K (0, w)))).2)), (4, .int ((bm_cs f4 f7 j 0 (k + 1) (bm_cs f4 f7 j 1 K (bm_cs f4 f7 j 2 K (0, w)))).1)), (8, .int 0), (7, .int (nI (8 * j + k))), (0, .ref m), (1, .int (nI j)), (5, .int 0)] := hl
                refine lv_goto (tgt := 40) hx hb dM_choose_136 rfl ?_
                have hl : lv_has ls 9 [(0, .ref m), (1, .int (nI j)), (3, .int ((bm_cs f4 f7 j 0 (k + 1) (bm_cs f4 f7 j 1 K (bm_cs f4 f7 j 2 K (0, w)))).2)), (4, .int ((bm_cs f4 f7 j 0 (k + 1) (bm_cs f4 f7 j 1 K (bm_cs f4 f7 j 2 K (0, w)))).1)), (5, .int 0), (6, .int (nI (k + 1)))] := lv_sub hl [5, 6, 1, 2, 7, 0] rfl
                exact ih (k + 1) ls _ _ (by omega) hl hz hM hS
              · refine lv_aload_n hx hb dM_choose_72 rfl (lv_at hl 1 rfl) ?_
                refine bm_get (ci := 7) (v := .ref (m + 7)) (C := "BlindMintModel") (T := bt_M) (N := 22) hx hb hts bu_M hown hK hM hP.c0 rfl 9 (by decide) (hts _ bw_611) (fun _ h9 => h9) rfl dM_choose_73 ?_
                refine lv_iload hx hb dM_choose_76 (lv_at hl 0 rfl) ?_
                refine bm_zald hx hb hK hM 2 hP.c7 rfl (8 * j + k) (bm_ix_nI (by omega)) (by omega) dM_choose_78 ?_
                refine lv_if_ne (tgt := 95) hx hb dM_choose_79 rfl (fun h79 => ?_) (fun h79 => ?_)
                · refine lv_iconst (v := 0) hx hb dM_choose_95 (by decide) ?_
                  refine lv_istore hx hb dM_choose_96 hl (by decide) rfl (fun ls hl => ?_)
                  have hl : lv_has ls 9 [(8, .int 0), (7, .int (nI (8 * j + k))), (0, .ref m), (1, .int (nI j)), (3, .int ((bm_cs f4 f7 j 0 k (bm_cs f4 f7 j 1 K (bm_cs f4 f7 j 2 K (0, w)))).2)), (4, .int ((bm_cs f4 f7 j 0 k (bm_cs f4 f7 j 1 K (bm_cs f4 f7 j 2 K (0, w)))).1)), (5, .int 0), (6, .int (nI k))] := hl
                  refine lv_iload hx hb dM_choose_98 (lv_at hl 5 rfl) ?_
                  refine lv_iload hx hb dM_choose_100 (lv_at hl 0 rfl) ?_
                  refine lv_if_eq (tgt := 112) hx hb dM_choose_102 rfl (fun _ => ?_) (fun h => absurd h (by decide))
                  refine lv_iconst (v := 0) hx hb dM_choose_112 (by decide) ?_
                  refine lv_ior hx hb dM_choose_113 ?_
                  refine lv_istore hx hb dM_choose_114 hl (by decide) rfl (fun ls hl => ?_)
                  have hl : lv_has ls 9 [(4, .int (((bm_cs f4 f7 j 0 k (bm_cs f4 f7 j 1 K (bm_cs f4 f7 j 2 K (0, w)))).1) ||| 0)), (8, .int 0), (7, .int (nI (8 * j + k))), (0, .ref m), (1, .int (nI j)), (3, .int ((bm_cs f4 f7 j 0 k (bm_cs f4 f7 j 1 K (bm_cs f4 f7 j 2 K (0, w)))).2)), (5, .int 0), (6, .int (nI k))] := hl
                  refine lv_iload_n hx hb dM_choose_116 rfl (lv_at hl 5 rfl) ?_
                  refine lv_iload hx hb dM_choose_117 (lv_at hl 1 rfl) ?_
                  refine lv_if_eq (tgt := 130) hx hb dM_choose_119 rfl (fun _ => ?_) (fun h => absurd h (by decide))
                  refine lv_iconst (v := 0) hx hb dM_choose_130 (by decide) ?_
                  refine lv_isub hx hb dM_choose_131 ?_
                  refine lv_istore_n hx hb dM_choose_132 rfl hl (by decide) rfl (fun ls hl => ?_)
                  have hl : lv_has ls 9 [(3, .int (((bm_cs f4 f7 j 0 k (bm_cs f4 f7 j 1 K (bm_cs f4 f7 j 2 K (0, w)))).2) - 0)), (4, .int (((bm_cs f4 f7 j 0 k (bm_cs f4 f7 j 1 K (bm_cs f4 f7 j 2 K (0, w)))).1) ||| 0)), (8, .int 0), (7, .int (nI (8 * j + k))), (0, .ref m), (1, .int (nI j)), (5, .int 0), (6, .int (nI k))] := hl
                  have hl : lv_has ls 9 [(3, .int ((bm_cs f4 f7 j 0 (k + 1) (bm_cs f4 f7 j 1 K (bm_cs f4 f7 j 2 K (0, w)))).2)), (4, .int ((bm_cs f4 f7 j 0 (k + 1) (bm_cs f4 f7 j 1 K (bm_cs f4 f7 j 2 K (0, w)))).1)), (8, .int 0), (7, .int (nI (8 * j + k))), (0, .ref m), (1, .int (nI j)), (5, .int 0), (6, .int (nI k))] := by rw [show bm_cs f4 f7 j 0 (k + 1) (bm_cs f4 f7 j 1 K (bm_cs f4 f7 j 2 K (0, w))) = _ from bm_cs_n (fun q => h79 q.2.1)]; exact hl
                  refine lv_iinc (v := nI (k + 1)) (k := 7) hx hb dM_choose_133 hl rfl (bm_inc k) (by decide) rfl (fun ls hl => ?_)
                  have hl : lv_has ls 9 [(6, .int (nI (k + 1))), (3, .int ((bm_cs f4 f7 j 0 (k + 1) (bm_cs f4 f7 j 1 K (bm_cs f4 f7 j 2 K (0, w)))).2)), (4, .int ((bm_cs f4 f7 j 0 (k + 1) (bm_cs f4 f7 j 1 K (bm_cs f4 f7 j 2 K (0, w)))).1)), (8, .int 0), (7, .int (nI (8 * j + k))), (0, .ref m), (1, .int (nI j)), (5, .int 0)] := hl
                  refine lv_goto (tgt := 40) hx hb dM_choose_136 rfl ?_
                  have hl : lv_has ls 9 [(0, .ref m), (1, .int (nI j)), (3, .int ((bm_cs f4 f7 j 0 (k + 1) (bm_cs f4 f7 j 1 K (bm_cs f4 f7 j 2 K (0, w)))).2)), (4, .int ((bm_cs f4 f7 j 0 (k + 1) (bm_cs f4 f7 j 1 K (bm_cs f4 f7 j 2 K (0, w)))).1)), (5, .int 0), (6, .int (nI (k + 1)))] := lv_sub hl [5, 6, 1, 2, 7, 0] rfl
                  exact ih (k + 1) ls _ _ (by omega) hl hz hM hS
                · refine lv_iload hx hb dM_choose_82 (lv_at hl 5 rfl) ?_
                  refine bm_callE (va_runS (As := [.int 0]) (rest := []) ⟨hx, hb, hml, hown, hts⟩ (bc_M_worth0 l D ct base ad M1 sz) (va_cwS 1 hts (bm_goodS bw_686 bw_687 bw_5 bw_688) rfl rfl rfl (by decide +kernel) (by rw [← hR]; exact ⟨Nat.le_of_ble_eq_true rfl, Nat.le_of_ble_eq_true rfl⟩)) (bm_preS hM hG hS hz) rfl rfl hl.1 rfl (lv_room (Nat.le_of_ble_eq_true rfl)) dM_choose_84 (by rw [← hR]; exact ⟨Nat.le_of_ble_eq_true rfl, Nat.le_of_ble_eq_true rfl⟩)) hS (fun H locs hz hM hS => ?_)
                  refine lv_iload_n hx hb dM_choose_87 rfl (lv_at hl 3 rfl) ?_
                  refine lv_icmp_gt (tgt := 95) hx hb dM_choose_88 rfl (fun h88 => ?_) (fun h88 => ?_)
                  · refine lv_iconst (v := 0) hx hb dM_choose_95 (by decide) ?_
                    refine lv_istore hx hb dM_choose_96 hl (by decide) rfl (fun ls hl => ?_)
                    have hl : lv_has ls 9 [(8, .int 0), (7, .int (nI (8 * j + k))), (0, .ref m), (1, .int (nI j)), (3, .int ((bm_cs f4 f7 j 0 k (bm_cs f4 f7 j 1 K (bm_cs f4 f7 j 2 K (0, w)))).2)), (4, .int ((bm_cs f4 f7 j 0 k (bm_cs f4 f7 j 1 K (bm_cs f4 f7 j 2 K (0, w)))).1)), (5, .int 0), (6, .int (nI k))] := hl
                    refine lv_iload hx hb dM_choose_98 (lv_at hl 5 rfl) ?_
                    refine lv_iload hx hb dM_choose_100 (lv_at hl 0 rfl) ?_
                    refine lv_if_eq (tgt := 112) hx hb dM_choose_102 rfl (fun _ => ?_) (fun h => absurd h (by decide))
                    refine lv_iconst (v := 0) hx hb dM_choose_112 (by decide) ?_
                    refine lv_ior hx hb dM_choose_113 ?_
                    refine lv_istore hx hb dM_choose_114 hl (by decide) rfl (fun ls hl => ?_)
                    have hl : lv_has ls 9 [(4, .int (((bm_cs f4 f7 j 0 k (bm_cs f4 f7 j 1 K (bm_cs f4 f7 j 2 K (0, w)))).1) ||| 0)), (8, .int 0), (7, .int (nI (8 * j + k))), (0, .ref m), (1, .int (nI j)), (3, .int ((bm_cs f4 f7 j 0 k (bm_cs f4 f7 j 1 K (bm_cs f4 f7 j 2 K (0, w)))).2)), (5, .int 0), (6, .int (nI k))] := hl
                    refine lv_iload_n hx hb dM_choose_116 rfl (lv_at hl 5 rfl) ?_
                    refine lv_iload hx hb dM_choose_117 (lv_at hl 1 rfl) ?_
                    refine lv_if_eq (tgt := 130) hx hb dM_choose_119 rfl (fun _ => ?_) (fun h => absurd h (by decide))
                    refine lv_iconst (v := 0) hx hb dM_choose_130 (by decide) ?_
                    refine lv_isub hx hb dM_choose_131 ?_
                    refine lv_istore_n hx hb dM_choose_132 rfl hl (by decide) rfl (fun ls hl => ?_)
                    have hl : lv_has ls 9 [(3, .int (((bm_cs f4 f7 j 0 k (bm_cs f4 f7 j 1 K (bm_cs f4 f7 j 2 K (0, w)))).2) - 0)), (4, .int (((bm_cs f4 f7 j 0 k (bm_cs f4 f7 j 1 K (bm_cs f4 f7 j 2 K (0, w)))).1) ||| 0)), (8, .int 0), (7, .int (nI (8 * j + k))), (0, .ref m), (1, .int (nI j)), (5, .int 0), (6, .int (nI k))] := hl
                    have hl : lv_has ls 9 [(3, .int ((bm_cs f4 f7 j 0 (k + 1) (bm_cs f4 f7 j 1 K (bm_cs f4 f7 j 2 K (0, w)))).2)), (4, .int ((bm_cs f4 f7 j 0 (k + 1) (bm_cs f4 f7 j 1 K (bm_cs f4 f7 j 2 K (0, w)))).1)), (8, .int 0), (7, .int (nI (8 * j + k))), (0, .ref m), (1, .int (nI j)), (5, .int 0), (6, .int (nI k))] := by rw [show bm_cs f4 f7 j 0 (k + 1) (bm_cs f4 f7 j 1 K (bm_cs f4 f7 j 2 K (0, w))) = _ from bm_cs_n (fun q => q.2.2 h88)]; exact hl
                    refine lv_iinc (v := nI (k + 1)) (k := 7) hx hb dM_choose_133 hl rfl (bm_inc k) (by decide) rfl (fun ls hl => ?_)
                    have hl : lv_has ls 9 [(6, .int (nI (k + 1))), (3, .int ((bm_cs f4 f7 j 0 (k + 1) (bm_cs f4 f7 j 1 K (bm_cs f4 f7 j 2 K (0, w)))).2)), (4, .int ((bm_cs f4 f7 j 0 (k + 1) (bm_cs f4 f7 j 1 K (bm_cs f4 f7 j 2 K (0, w)))).1)), (8, .int 0), (7, .int (nI (8 * j + k))), (0, .ref m), (1, .int (nI j)), (5, .int 0)] := hl
                    refine lv_goto (tgt := 40) hx hb dM_choose_136 rfl ?_
                    have hl : lv_has ls 9 [(0, .ref m), (1, .int (nI j)), (3, .int ((bm_cs f4 f7 j 0 (k + 1) (bm_cs f4 f7 j 1 K (bm_cs f4 f7 j 2 K (0, w)))).2)), (4, .int ((bm_cs f4 f7 j 0 (k + 1) (bm_cs f4 f7 j 1 K (bm_cs f4 f7 j 2 K (0, w)))).1)), (5, .int 0), (6, .int (nI (k + 1)))] := lv_sub hl [5, 6, 1, 2, 7, 0] rfl
                    exact ih (k + 1) ls _ _ (by omega) hl hz hM hS
                  · refine lv_iconst (v := 1) hx hb dM_choose_91 (by decide) ?_
                    refine lv_goto (tgt := 96) hx hb dM_choose_92 rfl ?_
                    refine lv_istore hx hb dM_choose_96 hl (by decide) rfl (fun ls hl => ?_)
                    have hl : lv_has ls 9 [(8, .int 1), (7, .int (nI (8 * j + k))), (0, .ref m), (1, .int (nI j)), (3, .int ((bm_cs f4 f7 j 0 k (bm_cs f4 f7 j 1 K (bm_cs f4 f7 j 2 K (0, w)))).2)), (4, .int ((bm_cs f4 f7 j 0 k (bm_cs f4 f7 j 1 K (bm_cs f4 f7 j 2 K (0, w)))).1)), (5, .int 0), (6, .int (nI k))] := hl
                    refine lv_iload hx hb dM_choose_98 (lv_at hl 5 rfl) ?_
                    refine lv_iload hx hb dM_choose_100 (lv_at hl 0 rfl) ?_
                    refine lv_if_eq (tgt := 112) hx hb dM_choose_102 rfl (fun h => absurd h (by decide)) (fun _ => ?_)
                    refine lv_iconst (v := 1) hx hb dM_choose_105 (by decide) ?_
                    refine lv_iload hx hb dM_choose_106 (lv_at hl 7 rfl) ?_
                    refine lv_ishl hx hb dM_choose_108 ?_
                    refine lv_goto (tgt := 113) hx hb dM_choose_109 rfl ?_
                    refine lv_ior hx hb dM_choose_113 ?_
                    refine lv_istore hx hb dM_choose_114 hl (by decide) rfl (fun ls hl => ?_)
                    have hl : lv_has ls 9 [(4, .int (((bm_cs f4 f7 j 0 k (bm_cs f4 f7 j 1 K (bm_cs f4 f7 j 2 K (0, w)))).1) ||| (1 <<< ((nI k) &&& 31)))), (8, .int 1), (7, .int (nI (8 * j + k))), (0, .ref m), (1, .int (nI j)), (3, .int ((bm_cs f4 f7 j 0 k (bm_cs f4 f7 j 1 K (bm_cs f4 f7 j 2 K (0, w)))).2)), (5, .int 0), (6, .int (nI k))] := hl
                    refine lv_iload_n hx hb dM_choose_116 rfl (lv_at hl 5 rfl) ?_
                    refine lv_iload hx hb dM_choose_117 (lv_at hl 1 rfl) ?_
                    refine lv_if_eq (tgt := 130) hx hb dM_choose_119 rfl (fun h => absurd h (by decide)) (fun _ => ?_)
                    refine lv_iload hx hb dM_choose_122 (lv_at hl 6 rfl) ?_
                    refine bm_callE (va_runS (As := [.int 0]) (rest := [.int ((bm_cs f4 f7 j 0 k (bm_cs f4 f7 j 1 K (bm_cs f4 f7 j 2 K (0, w)))).2)]) ⟨hx, hb, hml, hown, hts⟩ (bc_M_worth0 l D ct base ad M1 sz) (va_cwS 1 hts (bm_goodS bw_686 bw_687 bw_5 bw_688) rfl rfl rfl (by decide +kernel) (by rw [← hR]; exact ⟨Nat.le_of_ble_eq_true rfl, Nat.le_of_ble_eq_true rfl⟩)) (bm_preS hM hG hS hz) rfl rfl hl.1 rfl (lv_room (Nat.le_of_ble_eq_true rfl)) dM_choose_124 (by rw [← hR]; exact ⟨Nat.le_of_ble_eq_true rfl, Nat.le_of_ble_eq_true rfl⟩)) hS (fun H locs hz hM hS => ?_)
                    refine lv_goto (tgt := 131) hx hb dM_choose_127 rfl ?_
                    refine lv_isub hx hb dM_choose_131 ?_
                    refine lv_istore_n hx hb dM_choose_132 rfl hl (by decide) rfl (fun ls hl => ?_)
                    have hl : lv_has ls 9 [(3, .int (((bm_cs f4 f7 j 0 k (bm_cs f4 f7 j 1 K (bm_cs f4 f7 j 2 K (0, w)))).2) - (bm_w 0))), (4, .int (((bm_cs f4 f7 j 0 k (bm_cs f4 f7 j 1 K (bm_cs f4 f7 j 2 K (0, w)))).1) ||| (1 <<< ((nI k) &&& 31)))), (8, .int 1), (7, .int (nI (8 * j + k))), (0, .ref m), (1, .int (nI j)), (5, .int 0), (6, .int (nI k))] := hl
                    have hl : lv_has ls 9 [(3, .int ((bm_cs f4 f7 j 0 (k + 1) (bm_cs f4 f7 j 1 K (bm_cs f4 f7 j 2 K (0, w)))).2)), (4, .int ((bm_cs f4 f7 j 0 (k + 1) (bm_cs f4 f7 j 1 K (bm_cs f4 f7 j 2 K (0, w)))).1)), (8, .int 1), (7, .int (nI (8 * j + k))), (0, .ref m), (1, .int (nI j)), (5, .int 0), (6, .int (nI k))] := by rw [show bm_cs f4 f7 j 0 (k + 1) (bm_cs f4 f7 j 1 K (bm_cs f4 f7 j 2 K (0, w))) = _ from bm_cs_y h69 h79 h88]; exact hl
                    refine lv_iinc (v := nI (k + 1)) (k := 7) hx hb dM_choose_133 hl rfl (bm_inc k) (by decide) rfl (fun ls hl => ?_)
                    have hl : lv_has ls 9 [(6, .int (nI (k + 1))), (3, .int ((bm_cs f4 f7 j 0 (k + 1) (bm_cs f4 f7 j 1 K (bm_cs f4 f7 j 2 K (0, w)))).2)), (4, .int ((bm_cs f4 f7 j 0 (k + 1) (bm_cs f4 f7 j 1 K (bm_cs f4 f7 j 2 K (0, w)))).1)), (8, .int 1), (7, .int (nI (8 * j + k))), (0, .ref m), (1, .int (nI j)), (5, .int 0)] := hl
                    refine lv_goto (tgt := 40) hx hb dM_choose_136 rfl ?_
                    have hl : lv_has ls 9 [(0, .ref m), (1, .int (nI j)), (3, .int ((bm_cs f4 f7 j 0 (k + 1) (bm_cs f4 f7 j 1 K (bm_cs f4 f7 j 2 K (0, w)))).2)), (4, .int ((bm_cs f4 f7 j 0 (k + 1) (bm_cs f4 f7 j 1 K (bm_cs f4 f7 j 2 K (0, w)))).1)), (5, .int 0), (6, .int (nI (k + 1)))] := lv_sub hl [5, 6, 1, 2, 7, 0] rfl
                    exact ih (k + 1) ls _ _ (by omega) hl hz hM hS
          exact loop K 0 ls _ _ (by omega) hl hz hM hS
        | succ n ih =>
          intro k ls H locs hi hl hz hM hS
          refine lv_iload hx hb dM_choose_40 (lv_at hl 5 rfl) ?_
          refine lv_aload_n hx hb dM_choose_42 rfl (lv_at hl 0 rfl) ?_
          refine bm_get (ci := 7) (v := .ref (m + 3)) (C := "BlindMintModel") (T := bt_M) (N := 22) hx hb hts bu_M hown hK hM hP.c0 rfl 5 (by decide) (hts _ bw_607) (fun _ h9 => h9) rfl dM_choose_43 ?_
          refine lv_iload_n hx hb dM_choose_46 rfl (lv_at hl 1 rfl) ?_
          refine bm_iald hx hb hK hM 0 hP.c3 rfl j (bm_ix_nI (by omega)) (by omega) dM_choose_47 ?_
          refine lv_topi (fun t8 e_t8 => ?_)
          have e_t8 : t8 = nI K := by rw [e_t8]; exact hkc
          subst e_t8
          refine lv_icmp_ge (tgt := 139) hx hb dM_choose_48 rfl (fun h48 => absurd h48 (nI_ge (by omega) (by omega))) (fun h48 => ?_)
          refine lv_bipush (v := 8) hx hb dM_choose_51 (by decide) ?_
          refine lv_iload_n hx hb dM_choose_53 rfl (lv_at hl 1 rfl) ?_
          refine lv_imul hx hb dM_choose_54 ?_
          refine lv_iload hx hb dM_choose_55 (lv_at hl 5 rfl) ?_
          refine lv_iadd hx hb dM_choose_57 ?_
          refine lv_topi (fun t9 e_t9 => ?_)
          have e_t9 : t9 = nI (8 * j + k) := by rw [e_t9]; show nI 8 * nI j + nI k = _; rw [pk_mul, nI_add]
          subst e_t9
          refine lv_istore hx hb dM_choose_58 hl (by decide) rfl (fun ls hl => ?_)
          have hl : lv_has ls 9 [(7, .int (nI (8 * j + k))), (0, .ref m), (1, .int (nI j)), (3, .int ((bm_cs f4 f7 j 1 k (bm_cs f4 f7 j 2 K (0, w))).2)), (4, .int ((bm_cs f4 f7 j 1 k (bm_cs f4 f7 j 2 K (0, w))).1)), (5, .int 1), (6, .int (nI k))] := hl
          refine lv_aload_n hx hb dM_choose_60 rfl (lv_at hl 1 rfl) ?_
          refine bm_get (ci := 7) (v := .ref (m + 4)) (C := "BlindMintModel") (T := bt_M) (N := 22) hx hb hts bu_M hown hK hM hP.c0 rfl 6 (by decide) (hts _ bw_608) (fun _ h9 => h9) rfl dM_choose_61 ?_
          refine lv_iload hx hb dM_choose_64 (lv_at hl 0 rfl) ?_
          refine bm_iald hx hb hK hM 0 hP.c4 rfl (8 * j + k) (bm_ix_nI (by omega)) (by omega) dM_choose_66 ?_
          refine lv_iload hx hb dM_choose_67 (lv_at hl 5 rfl) ?_
          refine lv_icmp_ne (tgt := 95) hx hb dM_choose_69 rfl (fun h69 => ?_) (fun h69 => ?_)
          · refine lv_iconst (v := 0) hx hb dM_choose_95 (by decide) ?_
            refine lv_istore hx hb dM_choose_96 hl (by decide) rfl (fun ls hl => ?_)
            have hl : lv_has ls 9 [(8, .int 0), (7, .int (nI (8 * j + k))), (0, .ref m), (1, .int (nI j)), (3, .int ((bm_cs f4 f7 j 1 k (bm_cs f4 f7 j 2 K (0, w))).2)), (4, .int ((bm_cs f4 f7 j 1 k (bm_cs f4 f7 j 2 K (0, w))).1)), (5, .int 1), (6, .int (nI k))] := hl
            refine lv_iload hx hb dM_choose_98 (lv_at hl 5 rfl) ?_
            refine lv_iload hx hb dM_choose_100 (lv_at hl 0 rfl) ?_
            refine lv_if_eq (tgt := 112) hx hb dM_choose_102 rfl (fun _ => ?_) (fun h => absurd h (by decide))
            refine lv_iconst (v := 0) hx hb dM_choose_112 (by decide) ?_
            refine lv_ior hx hb dM_choose_113 ?_
            refine lv_istore hx hb dM_choose_114 hl (by decide) rfl (fun ls hl => ?_)
            have hl : lv_has ls 9 [(4, .int (((bm_cs f4 f7 j 1 k (bm_cs f4 f7 j 2 K (0, w))).1) ||| 0)), (8, .int 0), (7, .int (nI (8 * j + k))), (0, .ref m), (1, .int (nI j)), (3, .int ((bm_cs f4 f7 j 1 k (bm_cs f4 f7 j 2 K (0, w))).2)), (5, .int 1), (6, .int (nI k))] := hl
            refine lv_iload_n hx hb dM_choose_116 rfl (lv_at hl 5 rfl) ?_
            refine lv_iload hx hb dM_choose_117 (lv_at hl 1 rfl) ?_
            refine lv_if_eq (tgt := 130) hx hb dM_choose_119 rfl (fun _ => ?_) (fun h => absurd h (by decide))
            refine lv_iconst (v := 0) hx hb dM_choose_130 (by decide) ?_
            refine lv_isub hx hb dM_choose_131 ?_
            refine lv_istore_n hx hb dM_choose_132 rfl hl (by decide) rfl (fun ls hl => ?_)
            have hl : lv_has ls 9 [(3, .int (((bm_cs f4 f7 j 1 k (bm_cs f4 f7 j 2 K (0, w))).2) - 0)), (4, .int (((bm_cs f4 f7 j 1 k (bm_cs f4 f7 j 2 K (0, w))).1) ||| 0)), (8, .int 0), (7, .int (nI (8 * j + k))), (0, .ref m), (1, .int (nI j)), (5, .int 1), (6, .int (nI k))] := hl
            have hl : lv_has ls 9 [(3, .int ((bm_cs f4 f7 j 1 (k + 1) (bm_cs f4 f7 j 2 K (0, w))).2)), (4, .int ((bm_cs f4 f7 j 1 (k + 1) (bm_cs f4 f7 j 2 K (0, w))).1)), (8, .int 0), (7, .int (nI (8 * j + k))), (0, .ref m), (1, .int (nI j)), (5, .int 1), (6, .int (nI k))] := by rw [show bm_cs f4 f7 j 1 (k + 1) (bm_cs f4 f7 j 2 K (0, w)) = _ from bm_cs_n (fun q => h69 q.1)]; exact hl
            refine lv_iinc (v := nI (k + 1)) (k := 7) hx hb dM_choose_133 hl rfl (bm_inc k) (by decide) rfl (fun ls hl => ?_)
            have hl : lv_has ls 9 [(6, .int (nI (k + 1))), (3, .int ((bm_cs f4 f7 j 1 (k + 1) (bm_cs f4 f7 j 2 K (0, w))).2)), (4, .int ((bm_cs f4 f7 j 1 (k + 1) (bm_cs f4 f7 j 2 K (0, w))).1)), (8, .int 0), (7, .int (nI (8 * j + k))), (0, .ref m), (1, .int (nI j)), (5, .int 1)] := hl
            refine lv_goto (tgt := 40) hx hb dM_choose_136 rfl ?_
            have hl : lv_has ls 9 [(0, .ref m), (1, .int (nI j)), (3, .int ((bm_cs f4 f7 j 1 (k + 1) (bm_cs f4 f7 j 2 K (0, w))).2)), (4, .int ((bm_cs f4 f7 j 1 (k + 1) (bm_cs f4 f7 j 2 K (0, w))).1)), (5, .int 1), (6, .int (nI (k + 1)))] := lv_sub hl [5, 6, 1, 2, 7, 0] rfl
            exact ih (k + 1) ls _ _ (by omega) hl hz hM hS
          · refine lv_aload_n hx hb dM_choose_72 rfl (lv_at hl 1 rfl) ?_
            refine bm_get (ci := 7) (v := .ref (m + 7)) (C := "BlindMintModel") (T := bt_M) (N := 22) hx hb hts bu_M hown hK hM hP.c0 rfl 9 (by decide) (hts _ bw_611) (fun _ h9 => h9) rfl dM_choose_73 ?_
            refine lv_iload hx hb dM_choose_76 (lv_at hl 0 rfl) ?_
            refine bm_zald hx hb hK hM 2 hP.c7 rfl (8 * j + k) (bm_ix_nI (by omega)) (by omega) dM_choose_78 ?_
            refine lv_if_ne (tgt := 95) hx hb dM_choose_79 rfl (fun h79 => ?_) (fun h79 => ?_)
            · refine lv_iconst (v := 0) hx hb dM_choose_95 (by decide) ?_
              refine lv_istore hx hb dM_choose_96 hl (by decide) rfl (fun ls hl => ?_)
              have hl : lv_has ls 9 [(8, .int 0), (7, .int (nI (8 * j + k))), (0, .ref m), (1, .int (nI j)), (3, .int ((bm_cs f4 f7 j 1 k (bm_cs f4 f7 j 2 K (0, w))).2)), (4, .int ((bm_cs f4 f7 j 1 k (bm_cs f4 f7 j 2 K (0, w))).1)), (5, .int 1), (6, .int (nI k))] := hl
              refine lv_iload hx hb dM_choose_98 (lv_at hl 5 rfl) ?_
              refine lv_iload hx hb dM_choose_100 (lv_at hl 0 rfl) ?_
              refine lv_if_eq (tgt := 112) hx hb dM_choose_102 rfl (fun _ => ?_) (fun h => absurd h (by decide))
              refine lv_iconst (v := 0) hx hb dM_choose_112 (by decide) ?_
              refine lv_ior hx hb dM_choose_113 ?_
              refine lv_istore hx hb dM_choose_114 hl (by decide) rfl (fun ls hl => ?_)
              have hl : lv_has ls 9 [(4, .int (((bm_cs f4 f7 j 1 k (bm_cs f4 f7 j 2 K (0, w))).1) ||| 0)), (8, .int 0), (7, .int (nI (8 * j + k))), (0, .ref m), (1, .int (nI j)), (3, .int ((bm_cs f4 f7 j 1 k (bm_cs f4 f7 j 2 K (0, w))).2)), (5, .int 1), (6, .int (nI k))] := hl
              refine lv_iload_n hx hb dM_choose_116 rfl (lv_at hl 5 rfl) ?_
              refine lv_iload hx hb dM_choose_117 (lv_at hl 1 rfl) ?_
              refine lv_if_eq (tgt := 130) hx hb dM_choose_119 rfl (fun _ => ?_) (fun h => absurd h (by decide))
              refine lv_iconst (v := 0) hx hb dM_choose_130 (by decide) ?_
              refine lv_isub hx hb dM_choose_131 ?_
              refine lv_istore_n hx hb dM_choose_132 rfl hl (by decide) rfl (fun ls hl => ?_)
              have hl : lv_has ls 9 [(3, .int (((bm_cs f4 f7 j 1 k (bm_cs f4 f7 j 2 K (0, w))).2) - 0)), (4, .int (((bm_cs f4 f7 j 1 k (bm_cs f4 f7 j 2 K (0, w))).1) ||| 0)), (8, .int 0), (7, .int (nI (8 * j + k))), (0, .ref m), (1, .int (nI j)), (5, .int 1), (6, .int (nI k))] := hl
              have hl : lv_has ls 9 [(3, .int ((bm_cs f4 f7 j 1 (k + 1) (bm_cs f4 f7 j 2 K (0, w))).2)), (4, .int ((bm_cs f4 f7 j 1 (k + 1) (bm_cs f4 f7 j 2 K (0, w))).1)), (8, .int 0), (7, .int (nI (8 * j + k))), (0, .ref m), (1, .int (nI j)), (5, .int 1), (6, .int (nI k))] := by rw [show bm_cs f4 f7 j 1 (k + 1) (bm_cs f4 f7 j 2 K (0, w)) = _ from bm_cs_n (fun q => h79 q.2.1)]; exact hl
              refine lv_iinc (v := nI (k + 1)) (k := 7) hx hb dM_choose_133 hl rfl (bm_inc k) (by decide) rfl (fun ls hl => ?_)
              have hl : lv_has ls 9 [(6, .int (nI (k + 1))), (3, .int ((bm_cs f4 f7 j 1 (k + 1) (bm_cs f4 f7 j 2 K (0, w))).2)), (4, .int ((bm_cs f4 f7 j 1 (k + 1) (bm_cs f4 f7 j 2 K (0, w))).1)), (8, .int 0), (7, .int (nI (8 * j + k))), (0, .ref m), (1, .int (nI j)), (5, .int 1)] := hl
              refine lv_goto (tgt := 40) hx hb dM_choose_136 rfl ?_
              have hl : lv_has ls 9 [(0, .ref m), (1, .int (nI j)), (3, .int ((bm_cs f4 f7 j 1 (k + 1) (bm_cs f4 f7 j 2 K (0, w))).2)), (4, .int ((bm_cs f4 f7 j 1 (k + 1) (bm_cs f4 f7 j 2 K (0, w))).1)), (5, .int 1), (6, .int (nI (k + 1)))] := lv_sub hl [5, 6, 1, 2, 7, 0] rfl
              exact ih (k + 1) ls _ _ (by omega) hl hz hM hS
            · refine lv_iload hx hb dM_choose_82 (lv_at hl 5 rfl) ?_
              refine bm_callE (va_runS (As := [.int 1]) (rest := []) ⟨hx, hb, hml, hown, hts⟩ (bc_M_worth1 l D ct base ad M1 sz) (va_cwS 1 hts (bm_goodS bw_686 bw_687 bw_5 bw_688) rfl rfl rfl (by decide +kernel) (by rw [← hR]; exact ⟨Nat.le_of_ble_eq_true rfl, Nat.le_of_ble_eq_true rfl⟩)) (bm_preS hM hG hS hz) rfl rfl hl.1 rfl (lv_room (Nat.le_of_ble_eq_true rfl)) dM_choose_84 (by rw [← hR]; exact ⟨Nat.le_of_ble_eq_true rfl, Nat.le_of_ble_eq_true rfl⟩)) hS (fun H locs hz hM hS => ?_)
              refine lv_iload_n hx hb dM_choose_87 rfl (lv_at hl 3 rfl) ?_
              refine lv_icmp_gt (tgt := 95) hx hb dM_choose_88 rfl (fun h88 => ?_) (fun h88 => ?_)
              · refine lv_iconst (v := 0) hx hb dM_choose_95 (by decide) ?_
                refine lv_istore hx hb dM_choose_96 hl (by decide) rfl (fun ls hl => ?_)
                have hl : lv_has ls 9 [(8, .int 0), (7, .int (nI (8 * j + k))), (0, .ref m), (1, .int (nI j)), (3, .int ((bm_cs f4 f7 j 1 k (bm_cs f4 f7 j 2 K (0, w))).2)), (4, .int ((bm_cs f4 f7 j 1 k (bm_cs f4 f7 j 2 K (0, w))).1)), (5, .int 1), (6, .int (nI k))] := hl
                refine lv_iload hx hb dM_choose_98 (lv_at hl 5 rfl) ?_
                refine lv_iload hx hb dM_choose_100 (lv_at hl 0 rfl) ?_
                refine lv_if_eq (tgt := 112) hx hb dM_choose_102 rfl (fun _ => ?_) (fun h => absurd h (by decide))
                refine lv_iconst (v := 0) hx hb dM_choose_112 (by decide) ?_
                refine lv_ior hx hb dM_choose_113 ?_
                refine lv_istore hx hb dM_choose_114 hl (by decide) rfl (fun ls hl => ?_)
                have hl : lv_has ls 9 [(4, .int (((bm_cs f4 f7 j 1 k (bm_cs f4 f7 j 2 K (0, w))).1) ||| 0)), (8, .int 0), (7, .int (nI (8 * j + k))), (0, .ref m), (1, .int (nI j)), (3, .int ((bm_cs f4 f7 j 1 k (bm_cs f4 f7 j 2 K (0, w))).2)), (5, .int 1), (6, .int (nI k))] := hl
                refine lv_iload_n hx hb dM_choose_116 rfl (lv_at hl 5 rfl) ?_
                refine lv_iload hx hb dM_choose_117 (lv_at hl 1 rfl) ?_
                refine lv_if_eq (tgt := 130) hx hb dM_choose_119 rfl (fun _ => ?_) (fun h => absurd h (by decide))
                refine lv_iconst (v := 0) hx hb dM_choose_130 (by decide) ?_
                refine lv_isub hx hb dM_choose_131 ?_
                refine lv_istore_n hx hb dM_choose_132 rfl hl (by decide) rfl (fun ls hl => ?_)
                have hl : lv_has ls 9 [(3, .int (((bm_cs f4 f7 j 1 k (bm_cs f4 f7 j 2 K (0, w))).2) - 0)), (4, .int (((bm_cs f4 f7 j 1 k (bm_cs f4 f7 j 2 K (0, w))).1) ||| 0)), (8, .int 0), (7, .int (nI (8 * j + k))), (0, .ref m), (1, .int (nI j)), (5, .int 1), (6, .int (nI k))] := hl
                have hl : lv_has ls 9 [(3, .int ((bm_cs f4 f7 j 1 (k + 1) (bm_cs f4 f7 j 2 K (0, w))).2)), (4, .int ((bm_cs f4 f7 j 1 (k + 1) (bm_cs f4 f7 j 2 K (0, w))).1)), (8, .int 0), (7, .int (nI (8 * j + k))), (0, .ref m), (1, .int (nI j)), (5, .int 1), (6, .int (nI k))] := by rw [show bm_cs f4 f7 j 1 (k + 1) (bm_cs f4 f7 j 2 K (0, w)) = _ from bm_cs_n (fun q => q.2.2 h88)]; exact hl
                refine lv_iinc (v := nI (k + 1)) (k := 7) hx hb dM_choose_133 hl rfl (bm_inc k) (by decide) rfl (fun ls hl => ?_)
                have hl : lv_has ls 9 [(6, .int (nI (k + 1))), (3, .int ((bm_cs f4 f7 j 1 (k + 1) (bm_cs f4 f7 j 2 K (0, w))).2)), (4, .int ((bm_cs f4 f7 j 1 (k + 1) (bm_cs f4 f7 j 2 K (0, w))).1)), (8, .int 0), (7, .int (nI (8 * j + k))), (0, .ref m), (1, .int (nI j)), (5, .int 1)] := hl
                refine lv_goto (tgt := 40) hx hb dM_choose_136 rfl ?_
                have hl : lv_has ls 9 [(0, .ref m), (1, .int (nI j)), (3, .int ((bm_cs f4 f7 j 1 (k + 1) (bm_cs f4 f7 j 2 K (0, w))).2)), (4, .int ((bm_cs f4 f7 j 1 (k + 1) (bm_cs f4 f7 j 2 K (0, w))).1)), (5, .int 1), (6, .int (nI (k + 1)))] := lv_sub hl [5, 6, 1, 2, 7, 0] rfl
                exact ih (k + 1) ls _ _ (by omega) hl hz hM hS
              · refine lv_iconst (v := 1) hx hb dM_choose_91 (by decide) ?_
                refine lv_goto (tgt := 96) hx hb dM_choose_92 rfl ?_
                refine lv_istore hx hb dM_choose_96 hl (by decide) rfl (fun ls hl => ?_)
                have hl : lv_has ls 9 [(8, .int 1), (7, .int (nI (8 * j + k))), (0, .ref m), (1, .int (nI j)), (3, .int ((bm_cs f4 f7 j 1 k (bm_cs f4 f7 j 2 K (0, w))).2)), (4, .int ((bm_cs f4 f7 j 1 k (bm_cs f4 f7 j 2 K (0, w))).1)), (5, .int 1), (6, .int (nI k))] := hl
                refine lv_iload hx hb dM_choose_98 (lv_at hl 5 rfl) ?_
                refine lv_iload hx hb dM_choose_100 (lv_at hl 0 rfl) ?_
                refine lv_if_eq (tgt := 112) hx hb dM_choose_102 rfl (fun h => absurd h (by decide)) (fun _ => ?_)
                refine lv_iconst (v := 1) hx hb dM_choose_105 (by decide) ?_
                refine lv_iload hx hb dM_choose_106 (lv_at hl 7 rfl) ?_
                refine lv_ishl hx hb dM_choose_108 ?_
                refine lv_goto (tgt := 113) hx hb dM_choose_109 rfl ?_
                refine lv_ior hx hb dM_choose_113 ?_
                refine lv_istore hx hb dM_choose_114 hl (by decide) rfl (fun ls hl => ?_)
                have hl : lv_has ls 9 [(4, .int (((bm_cs f4 f7 j 1 k (bm_cs f4 f7 j 2 K (0, w))).1) ||| (1 <<< ((nI k) &&& 31)))), (8, .int 1), (7, .int (nI (8 * j + k))), (0, .ref m), (1, .int (nI j)), (3, .int ((bm_cs f4 f7 j 1 k (bm_cs f4 f7 j 2 K (0, w))).2)), (5, .int 1), (6, .int (nI k))] := hl
                refine lv_iload_n hx hb dM_choose_116 rfl (lv_at hl 5 rfl) ?_
                refine lv_iload hx hb dM_choose_117 (lv_at hl 1 rfl) ?_
                refine lv_if_eq (tgt := 130) hx hb dM_choose_119 rfl (fun h => absurd h (by decide)) (fun _ => ?_)
                refine lv_iload hx hb dM_choose_122 (lv_at hl 6 rfl) ?_
                refine bm_callE (va_runS (As := [.int 1]) (rest := [.int ((bm_cs f4 f7 j 1 k (bm_cs f4 f7 j 2 K (0, w))).2)]) ⟨hx, hb, hml, hown, hts⟩ (bc_M_worth1 l D ct base ad M1 sz) (va_cwS 1 hts (bm_goodS bw_686 bw_687 bw_5 bw_688) rfl rfl rfl (by decide +kernel) (by rw [← hR]; exact ⟨Nat.le_of_ble_eq_true rfl, Nat.le_of_ble_eq_true rfl⟩)) (bm_preS hM hG hS hz) rfl rfl hl.1 rfl (lv_room (Nat.le_of_ble_eq_true rfl)) dM_choose_124 (by rw [← hR]; exact ⟨Nat.le_of_ble_eq_true rfl, Nat.le_of_ble_eq_true rfl⟩)) hS (fun H locs hz hM hS => ?_)
                refine lv_goto (tgt := 131) hx hb dM_choose_127 rfl ?_
                refine lv_isub hx hb dM_choose_131 ?_
                refine lv_istore_n hx hb dM_choose_132 rfl hl (by decide) rfl (fun ls hl => ?_)
                have hl : lv_has ls 9 [(3, .int (((bm_cs f4 f7 j 1 k (bm_cs f4 f7 j 2 K (0, w))).2) - (bm_w 1))), (4, .int (((bm_cs f4 f7 j 1 k (bm_cs f4 f7 j 2 K (0, w))).1) ||| (1 <<< ((nI k) &&& 31)))), (8, .int 1), (7, .int (nI (8 * j + k))), (0, .ref m), (1, .int (nI j)), (5, .int 1), (6, .int (nI k))] := hl
                have hl : lv_has ls 9 [(3, .int ((bm_cs f4 f7 j 1 (k + 1) (bm_cs f4 f7 j 2 K (0, w))).2)), (4, .int ((bm_cs f4 f7 j 1 (k + 1) (bm_cs f4 f7 j 2 K (0, w))).1)), (8, .int 1), (7, .int (nI (8 * j + k))), (0, .ref m), (1, .int (nI j)), (5, .int 1), (6, .int (nI k))] := by rw [show bm_cs f4 f7 j 1 (k + 1) (bm_cs f4 f7 j 2 K (0, w)) = _ from bm_cs_y h69 h79 h88]; exact hl
                refine lv_iinc (v := nI (k + 1)) (k := 7) hx hb dM_choose_133 hl rfl (bm_inc k) (by decide) rfl (fun ls hl => ?_)
                have hl : lv_has ls 9 [(6, .int (nI (k + 1))), (3, .int ((bm_cs f4 f7 j 1 (k + 1) (bm_cs f4 f7 j 2 K (0, w))).2)), (4, .int ((bm_cs f4 f7 j 1 (k + 1) (bm_cs f4 f7 j 2 K (0, w))).1)), (8, .int 1), (7, .int (nI (8 * j + k))), (0, .ref m), (1, .int (nI j)), (5, .int 1)] := hl
                refine lv_goto (tgt := 40) hx hb dM_choose_136 rfl ?_
                have hl : lv_has ls 9 [(0, .ref m), (1, .int (nI j)), (3, .int ((bm_cs f4 f7 j 1 (k + 1) (bm_cs f4 f7 j 2 K (0, w))).2)), (4, .int ((bm_cs f4 f7 j 1 (k + 1) (bm_cs f4 f7 j 2 K (0, w))).1)), (5, .int 1), (6, .int (nI (k + 1)))] := lv_sub hl [5, 6, 1, 2, 7, 0] rfl
                exact ih (k + 1) ls _ _ (by omega) hl hz hM hS
      exact loop K 0 ls _ _ (by omega) hl hz hM hS
    | succ n ih =>
      intro k ls H locs hi hl hz hM hS
      refine lv_iload hx hb dM_choose_40 (lv_at hl 5 rfl) ?_
      refine lv_aload_n hx hb dM_choose_42 rfl (lv_at hl 0 rfl) ?_
      refine bm_get (ci := 7) (v := .ref (m + 3)) (C := "BlindMintModel") (T := bt_M) (N := 22) hx hb hts bu_M hown hK hM hP.c0 rfl 5 (by decide) (hts _ bw_607) (fun _ h9 => h9) rfl dM_choose_43 ?_
      refine lv_iload_n hx hb dM_choose_46 rfl (lv_at hl 1 rfl) ?_
      refine bm_iald hx hb hK hM 0 hP.c3 rfl j (bm_ix_nI (by omega)) (by omega) dM_choose_47 ?_
      refine lv_topi (fun t10 e_t10 => ?_)
      have e_t10 : t10 = nI K := by rw [e_t10]; exact hkc
      subst e_t10
      refine lv_icmp_ge (tgt := 139) hx hb dM_choose_48 rfl (fun h48 => absurd h48 (nI_ge (by omega) (by omega))) (fun h48 => ?_)
      refine lv_bipush (v := 8) hx hb dM_choose_51 (by decide) ?_
      refine lv_iload_n hx hb dM_choose_53 rfl (lv_at hl 1 rfl) ?_
      refine lv_imul hx hb dM_choose_54 ?_
      refine lv_iload hx hb dM_choose_55 (lv_at hl 5 rfl) ?_
      refine lv_iadd hx hb dM_choose_57 ?_
      refine lv_topi (fun t11 e_t11 => ?_)
      have e_t11 : t11 = nI (8 * j + k) := by rw [e_t11]; show nI 8 * nI j + nI k = _; rw [pk_mul, nI_add]
      subst e_t11
      refine lv_istore hx hb dM_choose_58 hl (by decide) rfl (fun ls hl => ?_)
      have hl : lv_has ls 9 [(7, .int (nI (8 * j + k))), (0, .ref m), (1, .int (nI j)), (3, .int ((bm_cs f4 f7 j 2 k (0, w)).2)), (4, .int ((bm_cs f4 f7 j 2 k (0, w)).1)), (5, .int 2), (6, .int (nI k))] := hl
      refine lv_aload_n hx hb dM_choose_60 rfl (lv_at hl 1 rfl) ?_
      refine bm_get (ci := 7) (v := .ref (m + 4)) (C := "BlindMintModel") (T := bt_M) (N := 22) hx hb hts bu_M hown hK hM hP.c0 rfl 6 (by decide) (hts _ bw_608) (fun _ h9 => h9) rfl dM_choose_61 ?_
      refine lv_iload hx hb dM_choose_64 (lv_at hl 0 rfl) ?_
      refine bm_iald hx hb hK hM 0 hP.c4 rfl (8 * j + k) (bm_ix_nI (by omega)) (by omega) dM_choose_66 ?_
      refine lv_iload hx hb dM_choose_67 (lv_at hl 5 rfl) ?_
      refine lv_icmp_ne (tgt := 95) hx hb dM_choose_69 rfl (fun h69 => ?_) (fun h69 => ?_)
      · refine lv_iconst (v := 0) hx hb dM_choose_95 (by decide) ?_
        refine lv_istore hx hb dM_choose_96 hl (by decide) rfl (fun ls hl => ?_)
        have hl : lv_has ls 9 [(8, .int 0), (7, .int (nI (8 * j + k))), (0, .ref m), (1, .int (nI j)), (3, .int ((bm_cs f4 f7 j 2 k (0, w)).2)), (4, .int ((bm_cs f4 f7 j 2 k (0, w)).1)), (5, .int 2), (6, .int (nI k))] := hl
        refine lv_iload hx hb dM_choose_98 (lv_at hl 5 rfl) ?_
        refine lv_iload hx hb dM_choose_100 (lv_at hl 0 rfl) ?_
        refine lv_if_eq (tgt := 112) hx hb dM_choose_102 rfl (fun _ => ?_) (fun h => absurd h (by decide))
        refine lv_iconst (v := 0) hx hb dM_choose_112 (by decide) ?_
        refine lv_ior hx hb dM_choose_113 ?_
        refine lv_istore hx hb dM_choose_114 hl (by decide) rfl (fun ls hl => ?_)
        have hl : lv_has ls 9 [(4, .int (((bm_cs f4 f7 j 2 k (0, w)).1) ||| 0)), (8, .int 0), (7, .int (nI (8 * j + k))), (0, .ref m), (1, .int (nI j)), (3, .int ((bm_cs f4 f7 j 2 k (0, w)).2)), (5, .int 2), (6, .int (nI k))] := hl
        refine lv_iload_n hx hb dM_choose_116 rfl (lv_at hl 5 rfl) ?_
        refine lv_iload hx hb dM_choose_117 (lv_at hl 1 rfl) ?_
        refine lv_if_eq (tgt := 130) hx hb dM_choose_119 rfl (fun _ => ?_) (fun h => absurd h (by decide))
        refine lv_iconst (v := 0) hx hb dM_choose_130 (by decide) ?_
        refine lv_isub hx hb dM_choose_131 ?_
        refine lv_istore_n hx hb dM_choose_132 rfl hl (by decide) rfl (fun ls hl => ?_)
        have hl : lv_has ls 9 [(3, .int (((bm_cs f4 f7 j 2 k (0, w)).2) - 0)), (4, .int (((bm_cs f4 f7 j 2 k (0, w)).1) ||| 0)), (8, .int 0), (7, .int (nI (8 * j + k))), (0, .ref m), (1, .int (nI j)), (5, .int 2), (6, .int (nI k))] := hl
        have hl : lv_has ls 9 [(3, .int ((bm_cs f4 f7 j 2 (k + 1) (0, w)).2)), (4, .int ((bm_cs f4 f7 j 2 (k + 1) (0, w)).1)), (8, .int 0), (7, .int (nI (8 * j + k))), (0, .ref m), (1, .int (nI j)), (5, .int 2), (6, .int (nI k))] := by rw [show bm_cs f4 f7 j 2 (k + 1) (0, w) = _ from bm_cs_n (fun q => h69 q.1)]; exact hl
        refine lv_iinc (v := nI (k + 1)) (k := 7) hx hb dM_choose_133 hl rfl (bm_inc k) (by decide) rfl (fun ls hl => ?_)
        have hl : lv_has ls 9 [(6, .int (nI (k + 1))), (3, .int ((bm_cs f4 f7 j 2 (k + 1) (0, w)).2)), (4, .int ((bm_cs f4 f7 j 2 (k + 1) (0, w)).1)), (8, .int 0), (7, .int (nI (8 * j + k))), (0, .ref m), (1, .int (nI j)), (5, .int 2)] := hl
        refine lv_goto (tgt := 40) hx hb dM_choose_136 rfl ?_
        have hl : lv_has ls 9 [(0, .ref m), (1, .int (nI j)), (3, .int ((bm_cs f4 f7 j 2 (k + 1) (0, w)).2)), (4, .int ((bm_cs f4 f7 j 2 (k + 1) (0, w)).1)), (5, .int 2), (6, .int (nI (k + 1)))] := lv_sub hl [5, 6, 1, 2, 7, 0] rfl
        exact ih (k + 1) ls _ _ (by omega) hl hz hM hS
      · refine lv_aload_n hx hb dM_choose_72 rfl (lv_at hl 1 rfl) ?_
        refine bm_get (ci := 7) (v := .ref (m + 7)) (C := "BlindMintModel") (T := bt_M) (N := 22) hx hb hts bu_M hown hK hM hP.c0 rfl 9 (by decide) (hts _ bw_611) (fun _ h9 => h9) rfl dM_choose_73 ?_
        refine lv_iload hx hb dM_choose_76 (lv_at hl 0 rfl) ?_
        refine bm_zald hx hb hK hM 2 hP.c7 rfl (8 * j + k) (bm_ix_nI (by omega)) (by omega) dM_choose_78 ?_
        refine lv_if_ne (tgt := 95) hx hb dM_choose_79 rfl (fun h79 => ?_) (fun h79 => ?_)
        · refine lv_iconst (v := 0) hx hb dM_choose_95 (by decide) ?_
          refine lv_istore hx hb dM_choose_96 hl (by decide) rfl (fun ls hl => ?_)
          have hl : lv_has ls 9 [(8, .int 0), (7, .int (nI (8 * j + k))), (0, .ref m), (1, .int (nI j)), (3, .int ((bm_cs f4 f7 j 2 k (0, w)).2)), (4, .int ((bm_cs f4 f7 j 2 k (0, w)).1)), (5, .int 2), (6, .int (nI k))] := hl
          refine lv_iload hx hb dM_choose_98 (lv_at hl 5 rfl) ?_
          refine lv_iload hx hb dM_choose_100 (lv_at hl 0 rfl) ?_
          refine lv_if_eq (tgt := 112) hx hb dM_choose_102 rfl (fun _ => ?_) (fun h => absurd h (by decide))
          refine lv_iconst (v := 0) hx hb dM_choose_112 (by decide) ?_
          refine lv_ior hx hb dM_choose_113 ?_
          refine lv_istore hx hb dM_choose_114 hl (by decide) rfl (fun ls hl => ?_)
          have hl : lv_has ls 9 [(4, .int (((bm_cs f4 f7 j 2 k (0, w)).1) ||| 0)), (8, .int 0), (7, .int (nI (8 * j + k))), (0, .ref m), (1, .int (nI j)), (3, .int ((bm_cs f4 f7 j 2 k (0, w)).2)), (5, .int 2), (6, .int (nI k))] := hl
          refine lv_iload_n hx hb dM_choose_116 rfl (lv_at hl 5 rfl) ?_
          refine lv_iload hx hb dM_choose_117 (lv_at hl 1 rfl) ?_
          refine lv_if_eq (tgt := 130) hx hb dM_choose_119 rfl (fun _ => ?_) (fun h => absurd h (by decide))
          refine lv_iconst (v := 0) hx hb dM_choose_130 (by decide) ?_
          refine lv_isub hx hb dM_choose_131 ?_
          refine lv_istore_n hx hb dM_choose_132 rfl hl (by decide) rfl (fun ls hl => ?_)
          have hl : lv_has ls 9 [(3, .int (((bm_cs f4 f7 j 2 k (0, w)).2) - 0)), (4, .int (((bm_cs f4 f7 j 2 k (0, w)).1) ||| 0)), (8, .int 0), (7, .int (nI (8 * j + k))), (0, .ref m), (1, .int (nI j)), (5, .int 2), (6, .int (nI k))] := hl
          have hl : lv_has ls 9 [(3, .int ((bm_cs f4 f7 j 2 (k + 1) (0, w)).2)), (4, .int ((bm_cs f4 f7 j 2 (k + 1) (0, w)).1)), (8, .int 0), (7, .int (nI (8 * j + k))), (0, .ref m), (1, .int (nI j)), (5, .int 2), (6, .int (nI k))] := by rw [show bm_cs f4 f7 j 2 (k + 1) (0, w) = _ from bm_cs_n (fun q => h79 q.2.1)]; exact hl
          refine lv_iinc (v := nI (k + 1)) (k := 7) hx hb dM_choose_133 hl rfl (bm_inc k) (by decide) rfl (fun ls hl => ?_)
          have hl : lv_has ls 9 [(6, .int (nI (k + 1))), (3, .int ((bm_cs f4 f7 j 2 (k + 1) (0, w)).2)), (4, .int ((bm_cs f4 f7 j 2 (k + 1) (0, w)).1)), (8, .int 0), (7, .int (nI (8 * j + k))), (0, .ref m), (1, .int (nI j)), (5, .int 2)] := hl
          refine lv_goto (tgt := 40) hx hb dM_choose_136 rfl ?_
          have hl : lv_has ls 9 [(0, .ref m), (1, .int (nI j)), (3, .int ((bm_cs f4 f7 j 2 (k + 1) (0, w)).2)), (4, .int ((bm_cs f4 f7 j 2 (k + 1) (0, w)).1)), (5, .int 2), (6, .int (nI (k + 1)))] := lv_sub hl [5, 6, 1, 2, 7, 0] rfl
          exact ih (k + 1) ls _ _ (by omega) hl hz hM hS
        · refine lv_iload hx hb dM_choose_82 (lv_at hl 5 rfl) ?_
          refine bm_callE (va_runS (As := [.int 2]) (rest := []) ⟨hx, hb, hml, hown, hts⟩ (bc_M_worth2 l D ct base ad M1 sz) (va_cwS 1 hts (bm_goodS bw_686 bw_687 bw_5 bw_688) rfl rfl rfl (by decide +kernel) (by rw [← hR]; exact ⟨Nat.le_of_ble_eq_true rfl, Nat.le_of_ble_eq_true rfl⟩)) (bm_preS hM hG hS hz) rfl rfl hl.1 rfl (lv_room (Nat.le_of_ble_eq_true rfl)) dM_choose_84 (by rw [← hR]; exact ⟨Nat.le_of_ble_eq_true rfl, Nat.le_of_ble_eq_true rfl⟩)) hS (fun H locs hz hM hS => ?_)
          refine lv_iload_n hx hb dM_choose_87 rfl (lv_at hl 3 rfl) ?_
          refine lv_icmp_gt (tgt := 95) hx hb dM_choose_88 rfl (fun h88 => ?_) (fun h88 => ?_)
          · refine lv_iconst (v := 0) hx hb dM_choose_95 (by decide) ?_
            refine lv_istore hx hb dM_choose_96 hl (by decide) rfl (fun ls hl => ?_)
            have hl : lv_has ls 9 [(8, .int 0), (7, .int (nI (8 * j + k))), (0, .ref m), (1, .int (nI j)), (3, .int ((bm_cs f4 f7 j 2 k (0, w)).2)), (4, .int ((bm_cs f4 f7 j 2 k (0, w)).1)), (5, .int 2), (6, .int (nI k))] := hl
            refine lv_iload hx hb dM_choose_98 (lv_at hl 5 rfl) ?_
            refine lv_iload hx hb dM_choose_100 (lv_at hl 0 rfl) ?_
            refine lv_if_eq (tgt := 112) hx hb dM_choose_102 rfl (fun _ => ?_) (fun h => absurd h (by decide))
            refine lv_iconst (v := 0) hx hb dM_choose_112 (by decide) ?_
            refine lv_ior hx hb dM_choose_113 ?_
            refine lv_istore hx hb dM_choose_114 hl (by decide) rfl (fun ls hl => ?_)
            have hl : lv_has ls 9 [(4, .int (((bm_cs f4 f7 j 2 k (0, w)).1) ||| 0)), (8, .int 0), (7, .int (nI (8 * j + k))), (0, .ref m), (1, .int (nI j)), (3, .int ((bm_cs f4 f7 j 2 k (0, w)).2)), (5, .int 2), (6, .int (nI k))] := hl
            refine lv_iload_n hx hb dM_choose_116 rfl (lv_at hl 5 rfl) ?_
            refine lv_iload hx hb dM_choose_117 (lv_at hl 1 rfl) ?_
            refine lv_if_eq (tgt := 130) hx hb dM_choose_119 rfl (fun _ => ?_) (fun h => absurd h (by decide))
            refine lv_iconst (v := 0) hx hb dM_choose_130 (by decide) ?_
            refine lv_isub hx hb dM_choose_131 ?_
            refine lv_istore_n hx hb dM_choose_132 rfl hl (by decide) rfl (fun ls hl => ?_)
            have hl : lv_has ls 9 [(3, .int (((bm_cs f4 f7 j 2 k (0, w)).2) - 0)), (4, .int (((bm_cs f4 f7 j 2 k (0, w)).1) ||| 0)), (8, .int 0), (7, .int (nI (8 * j + k))), (0, .ref m), (1, .int (nI j)), (5, .int 2), (6, .int (nI k))] := hl
            have hl : lv_has ls 9 [(3, .int ((bm_cs f4 f7 j 2 (k + 1) (0, w)).2)), (4, .int ((bm_cs f4 f7 j 2 (k + 1) (0, w)).1)), (8, .int 0), (7, .int (nI (8 * j + k))), (0, .ref m), (1, .int (nI j)), (5, .int 2), (6, .int (nI k))] := by rw [show bm_cs f4 f7 j 2 (k + 1) (0, w) = _ from bm_cs_n (fun q => q.2.2 h88)]; exact hl
            refine lv_iinc (v := nI (k + 1)) (k := 7) hx hb dM_choose_133 hl rfl (bm_inc k) (by decide) rfl (fun ls hl => ?_)
            have hl : lv_has ls 9 [(6, .int (nI (k + 1))), (3, .int ((bm_cs f4 f7 j 2 (k + 1) (0, w)).2)), (4, .int ((bm_cs f4 f7 j 2 (k + 1) (0, w)).1)), (8, .int 0), (7, .int (nI (8 * j + k))), (0, .ref m), (1, .int (nI j)), (5, .int 2)] := hl
            refine lv_goto (tgt := 40) hx hb dM_choose_136 rfl ?_
            have hl : lv_has ls 9 [(0, .ref m), (1, .int (nI j)), (3, .int ((bm_cs f4 f7 j 2 (k + 1) (0, w)).2)), (4, .int ((bm_cs f4 f7 j 2 (k + 1) (0, w)).1)), (5, .int 2), (6, .int (nI (k + 1)))] := lv_sub hl [5, 6, 1, 2, 7, 0] rfl
            exact ih (k + 1) ls _ _ (by omega) hl hz hM hS
          · refine lv_iconst (v := 1) hx hb dM_choose_91 (by decide) ?_
            refine lv_goto (tgt := 96) hx hb dM_choose_92 rfl ?_
            refine lv_istore hx hb dM_choose_96 hl (by decide) rfl (fun ls hl => ?_)
            have hl : lv_has ls 9 [(8, .int 1), (7, .int (nI (8 * j + k))), (0, .ref m), (1, .int (nI j)), (3, .int ((bm_cs f4 f7 j 2 k (0, w)).2)), (4, .int ((bm_cs f4 f7 j 2 k (0, w)).1)), (5, .int 2), (6, .int (nI k))] := hl
            refine lv_iload hx hb dM_choose_98 (lv_at hl 5 rfl) ?_
            refine lv_iload hx hb dM_choose_100 (lv_at hl 0 rfl) ?_
            refine lv_if_eq (tgt := 112) hx hb dM_choose_102 rfl (fun h => absurd h (by decide)) (fun _ => ?_)
            refine lv_iconst (v := 1) hx hb dM_choose_105 (by decide) ?_
            refine lv_iload hx hb dM_choose_106 (lv_at hl 7 rfl) ?_
            refine lv_ishl hx hb dM_choose_108 ?_
            refine lv_goto (tgt := 113) hx hb dM_choose_109 rfl ?_
            refine lv_ior hx hb dM_choose_113 ?_
            refine lv_istore hx hb dM_choose_114 hl (by decide) rfl (fun ls hl => ?_)
            have hl : lv_has ls 9 [(4, .int (((bm_cs f4 f7 j 2 k (0, w)).1) ||| (1 <<< ((nI k) &&& 31)))), (8, .int 1), (7, .int (nI (8 * j + k))), (0, .ref m), (1, .int (nI j)), (3, .int ((bm_cs f4 f7 j 2 k (0, w)).2)), (5, .int 2), (6, .int (nI k))] := hl
            refine lv_iload_n hx hb dM_choose_116 rfl (lv_at hl 5 rfl) ?_
            refine lv_iload hx hb dM_choose_117 (lv_at hl 1 rfl) ?_
            refine lv_if_eq (tgt := 130) hx hb dM_choose_119 rfl (fun h => absurd h (by decide)) (fun _ => ?_)
            refine lv_iload hx hb dM_choose_122 (lv_at hl 6 rfl) ?_
            refine bm_callE (va_runS (As := [.int 2]) (rest := [.int ((bm_cs f4 f7 j 2 k (0, w)).2)]) ⟨hx, hb, hml, hown, hts⟩ (bc_M_worth2 l D ct base ad M1 sz) (va_cwS 1 hts (bm_goodS bw_686 bw_687 bw_5 bw_688) rfl rfl rfl (by decide +kernel) (by rw [← hR]; exact ⟨Nat.le_of_ble_eq_true rfl, Nat.le_of_ble_eq_true rfl⟩)) (bm_preS hM hG hS hz) rfl rfl hl.1 rfl (lv_room (Nat.le_of_ble_eq_true rfl)) dM_choose_124 (by rw [← hR]; exact ⟨Nat.le_of_ble_eq_true rfl, Nat.le_of_ble_eq_true rfl⟩)) hS (fun H locs hz hM hS => ?_)
            refine lv_goto (tgt := 131) hx hb dM_choose_127 rfl ?_
            refine lv_isub hx hb dM_choose_131 ?_
            refine lv_istore_n hx hb dM_choose_132 rfl hl (by decide) rfl (fun ls hl => ?_)
            have hl : lv_has ls 9 [(3, .int (((bm_cs f4 f7 j 2 k (0, w)).2) - (bm_w 2))), (4, .int (((bm_cs f4 f7 j 2 k (0, w)).1) ||| (1 <<< ((nI k) &&& 31)))), (8, .int 1), (7, .int (nI (8 * j + k))), (0, .ref m), (1, .int (nI j)), (5, .int 2), (6, .int (nI k))] := hl
            have hl : lv_has ls 9 [(3, .int ((bm_cs f4 f7 j 2 (k + 1) (0, w)).2)), (4, .int ((bm_cs f4 f7 j 2 (k + 1) (0, w)).1)), (8, .int 1), (7, .int (nI (8 * j + k))), (0, .ref m), (1, .int (nI j)), (5, .int 2), (6, .int (nI k))] := by rw [show bm_cs f4 f7 j 2 (k + 1) (0, w) = _ from bm_cs_y h69 h79 h88]; exact hl
            refine lv_iinc (v := nI (k + 1)) (k := 7) hx hb dM_choose_133 hl rfl (bm_inc k) (by decide) rfl (fun ls hl => ?_)
            have hl : lv_has ls 9 [(6, .int (nI (k + 1))), (3, .int ((bm_cs f4 f7 j 2 (k + 1) (0, w)).2)), (4, .int ((bm_cs f4 f7 j 2 (k + 1) (0, w)).1)), (8, .int 1), (7, .int (nI (8 * j + k))), (0, .ref m), (1, .int (nI j)), (5, .int 2)] := hl
            refine lv_goto (tgt := 40) hx hb dM_choose_136 rfl ?_
            have hl : lv_has ls 9 [(0, .ref m), (1, .int (nI j)), (3, .int ((bm_cs f4 f7 j 2 (k + 1) (0, w)).2)), (4, .int ((bm_cs f4 f7 j 2 (k + 1) (0, w)).1)), (5, .int 2), (6, .int (nI (k + 1)))] := lv_sub hl [5, 6, 1, 2, 7, 0] rfl
            exact ih (k + 1) ls _ _ (by omega) hl hz hM hS
  exact loop K 0 ls _ _ (by omega) hl hz hM hS
set_option maxHeartbeats 4000000 in
set_option maxRecDepth 100000 in
theorem bc_M_choose_ok (l : Launch) (D : va_G) (ct : Nat → ClassId) (base : Nat) (ad : Nat → Nat) (M : bm_Map) (sz : Nat) (m : Nat) (th : Int32) (tr : Int32) (bl : Int64) (np : Int32) (nd : Int32) (f1 : Nat → Int32) (f2 : Nat → Int32) (f3 : Nat → Int32) (f4 : Nat → Int32) (g5 : Nat → Int64) (g6 : Nat → Int64) (f7 : Nat → Int32) (g8 : Nat → Int64) (g9 : Nat → Int64) (g10 : Nat → Int64) (g11 : Nat → Int64) (g12 : Nat → Int64) (g13 : Nat → Int64) (g14 : Nat → Int64) (g15 : Nat → Int64) (f16 : Nat → Int32) (g17 : Nat → Int64) (j K : Nat) (w : Int32) (hP : bm_MD ct m th tr bl np nd f1 f2 f3 f4 g5 g6 f7 g8 g9 g10 g11 g12 g13 g14 g15 f16 g17 M) (hj : j < 4) (hw : 1 ≤ w) (hkc : f3 j = nI K) (hK8 : K ≤ 8) (hend : (bm_cz f4 f7 j K w).2 ≤ 0) : Met l yM_choose (bm_ws yM_choose cM_choose 9 (some .int)) { frames := 1, cells := 0, slots := 0, locals := 21 } (bm_Pre D ct base ad M sz [.ref m, .int (nI j), .int w]) (bm_Post D base (bm_Pm m M sz (fun v M1 => v = some (.int (bm_cz f4 f7 j K w).1) ∧ bm_MD ct m 0 tr bl np nd f1 f2 f3 f4 g5 g6 f7 g8 g9 g10 g11 g12 g13 g14 g15 f16 g17 M1))) 0 0 (bm_A base) := by
  refine bm_ofB (cc := cM_choose) (maxL := 9) (ret := (some .int)) (by decide +kernel) (Nat.le_of_ble_eq_true rfl) ?_
  intro vp ve s vm args below meth vc hx hb hr hlk hts hown hml hnm ls hl hz hM hG R Q hR hQ
  have hown : s.vm.findClass "BlindMintModel" = some vm.cls := hown
  have hK := hG.K
  have hS : va_S (bm_A base) s.heap s.heap [] := va_S.rf
  have hl : lv_has ls 9 [(0, .ref m), (1, .int (nI j)), (2, .int w)] := hl
  have hF : bm_fr m M M := bm_fr.rf
  refine lv_aload_n hx hb dM_choose_0 rfl (lv_at hl 0 rfl) ?_
  refine lv_iconst (v := 0) hx hb dM_choose_1 (by decide) ?_
  refine bm_put (ci := 7) (v := .int 0) (ty := .int) (C := "BlindMintModel") (T := bt_M) (N := 22) hx hb hts bu_M by_M bo_M bn_M hown hK hM hS hP.c0 rfl 0 (by decide) (hts _ bw_602) (fun _ h9 => h9) rfl (by decide +kernel) rfl rfl (Nat.le_of_ble_eq_true rfl) dM_choose_2 (fun H locs hz1 hM hS => ?_)
  have hz := hz1.trans hz
  obtain ⟨M1, hM, hP, hF⟩ : ∃ X, bm_M D base X H ∧ bm_MD ct m 0 tr bl np nd f1 f2 f3 f4 g5 g6 f7 g8 g9 g10 g11 g12 g13 g14 g15 f16 g17 X ∧ bm_fr m M X := ⟨_, hM, hP.s_th _, hF.up0⟩
  refine lv_iload_n hx hb dM_choose_5 rfl (lv_at hl 1 rfl) ?_
  refine lv_iconst (v := 4) hx hb dM_choose_6 (by decide) ?_
  refine bm_callE (va_runS (As := [.int (nI j), .int 4]) (rest := []) ⟨hx, hb, hml, hown, hts⟩ (bc_M_below l D ct base ad M1 sz (nI j) 4) (va_cwS 2 hts (bm_goodS bw_679 bw_680 bw_5 bw_681) rfl rfl rfl (by decide +kernel) (by rw [← hR]; exact ⟨Nat.le_of_ble_eq_true rfl, Nat.le_of_ble_eq_true rfl⟩)) (bm_preS hM hG hS hz) rfl rfl hl.1 rfl (lv_room (Nat.le_of_ble_eq_true rfl)) dM_choose_7 (by rw [← hR]; exact ⟨Nat.le_of_ble_eq_true rfl, Nat.le_of_ble_eq_true rfl⟩)) hS (fun H locs hz hM hS => ?_)
  refine lv_if_eq (tgt := 18) hx hb dM_choose_10 rfl (fun h10 => absurd h10 (by rw [show bm_bl (nI j) 4 = 1 from (bm_bl_nI (N := 4) hj (by decide))]; decide)) (fun h10 => ?_)
  refine lv_iload_n hx hb dM_choose_13 rfl (lv_at hl 2 rfl) ?_
  refine lv_iconst (v := 1) hx hb dM_choose_14 (by decide) ?_
  refine lv_icmp_ge (tgt := 24) hx hb dM_choose_15 rfl (fun h15 => ?_) (fun h15 => absurd hw h15)
  refine lv_iload_n hx hb dM_choose_24 rfl (lv_at hl 2 rfl) ?_
  refine lv_istore_n hx hb dM_choose_25 rfl hl (by decide) rfl (fun ls hl => ?_)
  have hl : lv_has ls 9 [(3, .int w), (0, .ref m), (1, .int (nI j)), (2, .int w)] := hl
  refine lv_iconst (v := 0) hx hb dM_choose_26 (by decide) ?_
  refine lv_istore hx hb dM_choose_27 hl (by decide) rfl (fun ls hl => ?_)
  have hl : lv_has ls 9 [(4, .int 0), (3, .int w), (0, .ref m), (1, .int (nI j)), (2, .int w)] := hl
  refine lv_iconst (v := 2) hx hb dM_choose_29 (by decide) ?_
  refine lv_istore hx hb dM_choose_30 hl (by decide) rfl (fun ls hl => ?_)
  have hl : lv_has ls 9 [(5, .int 2), (4, .int 0), (3, .int w), (0, .ref m), (1, .int (nI j)), (2, .int w)] := hl
  refine lv_iload hx hb dM_choose_32 (lv_at hl 0 rfl) ?_
  refine lv_if_lt (tgt := 145) hx hb dM_choose_34 rfl (fun h => absurd h (by decide)) (fun _ => ?_)
  refine lv_iconst (v := 0) hx hb dM_choose_37 (by decide) ?_
  refine lv_istore hx hb dM_choose_38 hl (by decide) rfl (fun ls hl => ?_)
  have hl : lv_has ls 9 [(6, .int 0), (5, .int 2), (4, .int 0), (3, .int w), (0, .ref m), (1, .int (nI j)), (2, .int w)] := hl
  have hl : lv_has ls 9 [(0, .ref m), (1, .int (nI j)), (3, .int w), (4, .int 0), (5, .int 2), (6, .int 0)] := lv_sub hl [4, 5, 3, 2, 1, 0] rfl
  have loop : ∀ (n : Nat) (k : Nat) (ls : Array Slot) (H : Heap) (locs : List Loc), k + n = K → lv_has ls 9 [(0, .ref m), (1, .int (nI j)), (3, .int ((bm_cs f4 f7 j 2 k (0, w)).2)), (4, .int ((bm_cs f4 f7 j 2 k (0, w)).1)), (5, .int 2), (6, .int (nI k))] → H.size = sz → bm_M D base M1 H → va_S (bm_A base) s.heap H locs → W vp l ve R s vm args below meth vc H locs 0 0 Q (F0 vm 40 ls []) := by
    intro n
    induction n with
    | zero =>
      intro k ls H locs hi hl hz hM hS
      obtain rfl : K = k := by omega
      have hl : lv_has ls 9 [(0, .ref m), (1, .int (nI j)), (3, .int ((bm_cs f4 f7 j 2 K (0, w)).2)), (4, .int ((bm_cs f4 f7 j 2 K (0, w)).1)), (5, .int 2), (6, .int (nI K))] := hl
      refine lv_iload hx hb dM_choose_40 (lv_at hl 5 rfl) ?_
      refine lv_aload_n hx hb dM_choose_42 rfl (lv_at hl 0 rfl) ?_
      refine bm_get (ci := 7) (v := .ref (m + 3)) (C := "BlindMintModel") (T := bt_M) (N := 22) hx hb hts bu_M hown hK hM hP.c0 rfl 5 (by decide) (hts _ bw_607) (fun _ h9 => h9) rfl dM_choose_43 ?_
      refine lv_iload_n hx hb dM_choose_46 rfl (lv_at hl 1 rfl) ?_
      refine bm_iald hx hb hK hM 0 hP.c3 rfl j (bm_ix_nI (by omega)) (by omega) dM_choose_47 ?_
      refine lv_topi (fun t2 e_t2 => ?_)
      have e_t2 : t2 = nI K := by rw [e_t2]; exact hkc
      subst e_t2
      refine lv_icmp_ge (tgt := 139) hx hb dM_choose_48 rfl (fun h48 => ?_) (fun h48 => absurd (Int32.le_refl _) h48)
      refine lv_iinc (v := 1) (k := 4) hx hb dM_choose_139 hl rfl (by decide) (by decide) rfl (fun ls hl => ?_)
      have hl : lv_has ls 9 [(5, .int 1), (0, .ref m), (1, .int (nI j)), (3, .int ((bm_cs f4 f7 j 2 K (0, w)).2)), (4, .int ((bm_cs f4 f7 j 2 K (0, w)).1)), (6, .int (nI K))] := hl
      refine lv_goto (tgt := 32) hx hb dM_choose_142 rfl ?_
      refine lv_iload hx hb dM_choose_32 (lv_at hl 0 rfl) ?_
      refine lv_if_lt (tgt := 145) hx hb dM_choose_34 rfl (fun h => absurd h (by decide)) (fun _ => ?_)
      refine lv_iconst (v := 0) hx hb dM_choose_37 (by decide) ?_
      refine lv_istore hx hb dM_choose_38 hl (by decide) rfl (fun ls hl => ?_)
      have hl : lv_has ls 9 [(6, .int 0), (5, .int 1), (0, .ref m), (1, .int (nI j)), (3, .int ((bm_cs f4 f7 j 2 K (0, w)).2)), (4, .int ((bm_cs f4 f7 j 2 K (0, w)).1))] := hl
      have hl : lv_has ls 9 [(0, .ref m), (1, .int (nI j)), (3, .int ((bm_cs f4 f7 j 2 K (0, w)).2)), (4, .int ((bm_cs f4 f7 j 2 K (0, w)).1)), (5, .int 1), (6, .int 0)] := lv_sub hl [2, 3, 4, 5, 1, 0] rfl
      have loop : ∀ (n : Nat) (k : Nat) (ls : Array Slot) (H : Heap) (locs : List Loc), k + n = K → lv_has ls 9 [(0, .ref m), (1, .int (nI j)), (3, .int ((bm_cs f4 f7 j 1 k (bm_cs f4 f7 j 2 K (0, w))).2)), (4, .int ((bm_cs f4 f7 j 1 k (bm_cs f4 f7 j 2 K (0, w))).1)), (5, .int 1), (6, .int (nI k))] → H.size = sz → bm_M D base M1 H → va_S (bm_A base) s.heap H locs → W vp l ve R s vm args below meth vc H locs 0 0 Q (F0 vm 40 ls []) := by
        intro n
        induction n with
        | zero =>
          intro k ls H locs hi hl hz hM hS
          obtain rfl : K = k := by omega
          have hl : lv_has ls 9 [(0, .ref m), (1, .int (nI j)), (3, .int ((bm_cs f4 f7 j 1 K (bm_cs f4 f7 j 2 K (0, w))).2)), (4, .int ((bm_cs f4 f7 j 1 K (bm_cs f4 f7 j 2 K (0, w))).1)), (5, .int 1), (6, .int (nI K))] := hl
          refine lv_iload hx hb dM_choose_40 (lv_at hl 5 rfl) ?_
          refine lv_aload_n hx hb dM_choose_42 rfl (lv_at hl 0 rfl) ?_
          refine bm_get (ci := 7) (v := .ref (m + 3)) (C := "BlindMintModel") (T := bt_M) (N := 22) hx hb hts bu_M hown hK hM hP.c0 rfl 5 (by decide) (hts _ bw_607) (fun _ h9 => h9) rfl dM_choose_43 ?_
          refine lv_iload_n hx hb dM_choose_46 rfl (lv_at hl 1 rfl) ?_
          refine bm_iald hx hb hK hM 0 hP.c3 rfl j (bm_ix_nI (by omega)) (by omega) dM_choose_47 ?_
          refine lv_topi (fun t3 e_t3 => ?_)
          have e_t3 : t3 = nI K := by rw [e_t3]; exact hkc
          subst e_t3
          refine lv_icmp_ge (tgt := 139) hx hb dM_choose_48 rfl (fun h48 => ?_) (fun h48 => absurd (Int32.le_refl _) h48)
          refine lv_iinc (v := 0) (k := 4) hx hb dM_choose_139 hl rfl (by decide) (by decide) rfl (fun ls hl => ?_)
          have hl : lv_has ls 9 [(5, .int 0), (0, .ref m), (1, .int (nI j)), (3, .int ((bm_cs f4 f7 j 1 K (bm_cs f4 f7 j 2 K (0, w))).2)), (4, .int ((bm_cs f4 f7 j 1 K (bm_cs f4 f7 j 2 K (0, w))).1)), (6, .int (nI K))] := hl
          refine lv_goto (tgt := 32) hx hb dM_choose_142 rfl ?_
          refine lv_iload hx hb dM_choose_32 (lv_at hl 0 rfl) ?_
          refine lv_if_lt (tgt := 145) hx hb dM_choose_34 rfl (fun h => absurd h (by decide)) (fun _ => ?_)
          refine lv_iconst (v := 0) hx hb dM_choose_37 (by decide) ?_
          refine lv_istore hx hb dM_choose_38 hl (by decide) rfl (fun ls hl => ?_)
          have hl : lv_has ls 9 [(6, .int 0), (5, .int 0), (0, .ref m), (1, .int (nI j)), (3, .int ((bm_cs f4 f7 j 1 K (bm_cs f4 f7 j 2 K (0, w))).2)), (4, .int ((bm_cs f4 f7 j 1 K (bm_cs f4 f7 j 2 K (0, w))).1))] := hl
          have hl : lv_has ls 9 [(0, .ref m), (1, .int (nI j)), (3, .int ((bm_cs f4 f7 j 1 K (bm_cs f4 f7 j 2 K (0, w))).2)), (4, .int ((bm_cs f4 f7 j 1 K (bm_cs f4 f7 j 2 K (0, w))).1)), (5, .int 0), (6, .int 0)] := lv_sub hl [2, 3, 4, 5, 1, 0] rfl
          have loop : ∀ (n : Nat) (k : Nat) (ls : Array Slot) (H : Heap) (locs : List Loc), k + n = K → lv_has ls 9 [(0, .ref m), (1, .int (nI j)), (3, .int ((bm_cs f4 f7 j 0 k (bm_cs f4 f7 j 1 K (bm_cs f4 f7 j 2 K (0, w)))).2)), (4, .int ((bm_cs f4 f7 j 0 k (bm_cs f4 f7 j 1 K (bm_cs f4 f7 j 2 K (0, w)))).1)), (5, .int 0), (6, .int (nI k))] → H.size = sz → bm_M D base M1 H → va_S (bm_A base) s.heap H locs → W vp l ve R s vm args below meth vc H locs 0 0 Q (F0 vm 40 ls []) := by
            intro n
            induction n with
            | zero =>
              intro k ls H locs hi hl hz hM hS
              obtain rfl : K = k := by omega
              have hl : lv_has ls 9 [(0, .ref m), (1, .int (nI j)), (3, .int ((bm_cs f4 f7 j 0 K (bm_cs f4 f7 j 1 K (bm_cs f4 f7 j 2 K (0, w)))).2)), (4, .int ((bm_cs f4 f7 j 0 K (bm_cs f4 f7 j 1 K (bm_cs f4 f7 j 2 K (0, w)))).1)), (5, .int 0), (6, .int (nI K))] := hl
              refine lv_iload hx hb dM_choose_40 (lv_at hl 5 rfl) ?_
              refine lv_aload_n hx hb dM_choose_42 rfl (lv_at hl 0 rfl) ?_
              refine bm_get (ci := 7) (v := .ref (m + 3)) (C := "BlindMintModel") (T := bt_M) (N := 22) hx hb hts bu_M hown hK hM hP.c0 rfl 5 (by decide) (hts _ bw_607) (fun _ h9 => h9) rfl dM_choose_43 ?_
              refine lv_iload_n hx hb dM_choose_46 rfl (lv_at hl 1 rfl) ?_
              refine bm_iald hx hb hK hM 0 hP.c3 rfl j (bm_ix_nI (by omega)) (by omega) dM_choose_47 ?_
              refine lv_topi (fun t4 e_t4 => ?_)
              have e_t4 : t4 = nI K := by rw [e_t4]; exact hkc
              subst e_t4
              refine lv_icmp_ge (tgt := 139) hx hb dM_choose_48 rfl (fun h48 => ?_) (fun h48 => absurd (Int32.le_refl _) h48)
              refine lv_iinc (v := (-1)) (k := 4) hx hb dM_choose_139 hl rfl (by decide) (by decide) rfl (fun ls hl => ?_)
              have hl : lv_has ls 9 [(5, .int (-1)), (0, .ref m), (1, .int (nI j)), (3, .int ((bm_cs f4 f7 j 0 K (bm_cs f4 f7 j 1 K (bm_cs f4 f7 j 2 K (0, w)))).2)), (4, .int ((bm_cs f4 f7 j 0 K (bm_cs f4 f7 j 1 K (bm_cs f4 f7 j 2 K (0, w)))).1)), (6, .int (nI K))] := hl
              refine lv_goto (tgt := 32) hx hb dM_choose_142 rfl ?_
              refine lv_iload hx hb dM_choose_32 (lv_at hl 0 rfl) ?_
              refine lv_if_lt (tgt := 145) hx hb dM_choose_34 rfl (fun _ => ?_) (fun h => absurd h (by decide))
              refine lv_iload_n hx hb dM_choose_145 rfl (lv_at hl 3 rfl) ?_
              refine lv_if_le (tgt := 157) hx hb dM_choose_146 rfl (fun h146 => ?_) (fun h146 => absurd hend h146)
              refine lv_iload hx hb dM_choose_157 (lv_at hl 4 rfl) ?_
              exact bm_iret hQ hx hb hr hlk hM hS ⟨hz, ⟨rfl, hP⟩, hF⟩ (Nat.le_refl _) (Nat.le_refl _) dM_choose_159
            | succ n ih =>
              intro k ls H locs hi hl hz hM hS
              refine lv_iload hx hb dM_choose_40 (lv_at hl 5 rfl) ?_
              refine lv_aload_n hx hb dM_choose_42 rfl (lv_at hl 0 rfl) ?_
              refine bm_get (ci := 7) (v := .ref (m + 3)) (C := "BlindMintModel") (T := bt_M) (N := 22) hx hb hts bu_M hown hK hM hP.c0 rfl 5 (by decide) (hts _ bw_607) (fun _ h9 => h9) rfl dM_choose_43 ?_
              refine lv_iload_n hx hb dM_choose_46 rfl (lv_at hl 1 rfl) ?_
              refine bm_iald hx hb hK hM 0 hP.c3 rfl j (bm_ix_nI (by omega)) (by omega) dM_choose_47 ?_
              refine lv_topi (fun t5 e_t5 => ?_)
              have e_t5 : t5 = nI K := by rw [e_t5]; exact hkc
              subst e_t5
              refine lv_icmp_ge (tgt := 139) hx hb dM_choose_48 rfl (fun h48 => absurd h48 (nI_ge (by omega) (by omega))) (fun h48 => ?_)
              refine lv_bipush (v := 8) hx hb dM_choose_51 (by decide) ?_
              refine lv_iload_n hx hb dM_choose_53 rfl (lv_at hl 1 rfl) ?_
              refine lv_imul hx hb dM_choose_54 ?_
              refine lv_iload hx hb dM_choose_55 (lv_at hl 5 rfl) ?_
              refine lv_iadd hx hb dM_choose_57 ?_
              refine lv_topi (fun t6 e_t6 => ?_)
              have e_t6 : t6 = nI (8 * j + k) := by rw [e_t6]; show nI 8 * nI j + nI k = _; rw [pk_mul, nI_add]
              subst e_t6
              refine lv_istore hx hb dM_choose_58 hl (by decide) rfl (fun ls hl => ?_)
              have hl : lv_has ls 9 [(7, .int (nI (8 * j + k))), (0, .ref m), (1, .int (nI j)), (3, .int ((bm_cs f4 f7 j 0 k (bm_cs f4 f7 j 1 K (bm_cs f4 f7 j 2 K (0, w)))).2)), (4, .int ((bm_cs f4 f7 j 0 k (bm_cs f4 f7 j 1 K (bm_cs f4 f7 j 2 K (0, w)))).1)), (5, .int 0), (6, .int (nI k))] := hl
              refine lv_aload_n hx hb dM_choose_60 rfl (lv_at hl 1 rfl) ?_
              refine bm_get (ci := 7) (v := .ref (m + 4)) (C := "BlindMintModel") (T := bt_M) (N := 22) hx hb hts bu_M hown hK hM hP.c0 rfl 6 (by decide) (hts _ bw_608) (fun _ h9 => h9) rfl dM_choose_61 ?_
              refine lv_iload hx hb dM_choose_64 (lv_at hl 0 rfl) ?_
              refine bm_iald hx hb hK hM 0 hP.c4 rfl (8 * j + k) (bm_ix_nI (by omega)) (by omega) dM_choose_66 ?_
              refine lv_iload hx hb dM_choose_67 (lv_at hl 5 rfl) ?_
              refine lv_icmp_ne (tgt := 95) hx hb dM_choose_69 rfl (fun h69 => ?_) (fun h69 => ?_)
              · refine lv_iconst (v := 0) hx hb dM_choose_95 (by decide) ?_
                refine lv_istore hx hb dM_choose_96 hl (by decide) rfl (fun ls hl => ?_)
                have hl : lv_has ls 9 [(8, .int 0), (7, .int (nI (8 * j + k))), (0, .ref m), (1, .int (nI j)), (3, .int ((bm_cs f4 f7 j 0 k (bm_cs f4 f7 j 1 K (bm_cs f4 f7 j 2 K (0, w)))).2)), (4, .int ((bm_cs f4 f7 j 0 k (bm_cs f4 f7 j 1 K (bm_cs f4 f7 j 2 K (0, w)))).1)), (5, .int 0), (6, .int (nI k))] := hl
                refine lv_iload hx hb dM_choose_98 (lv_at hl 5 rfl) ?_
                refine lv_iload hx hb dM_choose_100 (lv_at hl 0 rfl) ?_
                refine lv_if_eq (tgt := 112) hx hb dM_choose_102 rfl (fun _ => ?_) (fun h => absurd h (by decide))
                refine lv_iconst (v := 0) hx hb dM_choose_112 (by decide) ?_
                refine lv_ior hx hb dM_choose_113 ?_
                refine lv_istore hx hb dM_choose_114 hl (by decide) rfl (fun ls hl => ?_)
                have hl : lv_has ls 9 [(4, .int (((bm_cs f4 f7 j 0 k (bm_cs f4 f7 j 1 K (bm_cs f4 f7 j 2 K (0, w)))).1) ||| 0)), (8, .int 0), (7, .int (nI (8 * j + k))), (0, .ref m), (1, .int (nI j)), (3, .int ((bm_cs f4 f7 j 0 k (bm_cs f4 f7 j 1 K (bm_cs f4 f7 j 2 K (0, w)))).2)), (5, .int 0), (6, .int (nI k))] := hl
                refine lv_iload_n hx hb dM_choose_116 rfl (lv_at hl 5 rfl) ?_
                refine lv_iload hx hb dM_choose_117 (lv_at hl 1 rfl) ?_
                refine lv_if_eq (tgt := 130) hx hb dM_choose_119 rfl (fun _ => ?_) (fun h => absurd h (by decide))
                refine lv_iconst (v := 0) hx hb dM_choose_130 (by decide) ?_
                refine lv_isub hx hb dM_choose_131 ?_
                refine lv_istore_n hx hb dM_choose_132 rfl hl (by decide) rfl (fun ls hl => ?_)
                have hl : lv_has ls 9 [(3, .int (((bm_cs f4 f7 j 0 k (bm_cs f4 f7 j 1 K (bm_cs f4 f7 j 2 K (0, w)))).2) - 0)), (4, .int (((bm_cs f4 f7 j 0 k (bm_cs f4 f7 j 1 K (bm_cs f4 f7 j 2 K (0, w)))).1) ||| 0)), (8, .int 0), (7, .int (nI (8 * j + k))), (0, .ref m), (1, .int (nI j)), (5, .int 0), (6, .int (nI k))] := hl
                have hl : lv_has ls 9 [(3, .int ((bm_cs f4 f7 j 0 (k + 1) (bm_cs f4 f7 j 1 K (bm_cs f4 f7 j 2 K (0, w)))).2)), (4, .int ((bm_cs f4 f7 j 0 (k + 1) (bm_cs f4 f7 j 1 K (bm_cs f4 f7 j 2 K (0, w)))).1)), (8, .int 0), (7, .int (nI (8 * j + k))), (0, .ref m), (1, .int (nI j)), (5, .int 0), (6, .int (nI k))] := by rw [show bm_cs f4 f7 j 0 (k + 1) (bm_cs f4 f7 j 1 K (bm_cs f4 f7 j 2 K (0, w))) = _ from bm_cs_n (fun q => h69 q.1)]; exact hl
                refine lv_iinc (v := nI (k + 1)) (k := 7) hx hb dM_choose_133 hl rfl (bm_inc k) (by decide) rfl (fun ls hl => ?_)
                have hl : lv_has ls 9 [(6, .int (nI (k + 1))), (3, .int ((bm_cs f4 f7 j 0 (k + 1) (bm_cs f4 f7 j 1 K (bm_cs f4 f7 j 2 K (0, w)))).2)), (4, .int ((bm_cs f4 f7 j 0 (k + 1) (bm_cs f4 f7 j 1 K (bm_cs f4 f7 j 2 K (0, w)))).1)), (8, .int 0), (7, .int (nI (8 * j + k))), (0, .ref m), (1, .int (nI j)), (5, .int 0)] := hl
                refine lv_goto (tgt := 40) hx hb dM_choose_136 rfl ?_
                have hl : lv_has ls 9 [(0, .ref m), (1, .int (nI j)), (3, .int ((bm_cs f4 f7 j 0 (k + 1) (bm_cs f4 f7 j 1 K (bm_cs f4 f7 j 2 K (0, w)))).2)), (4, .int ((bm_cs f4 f7 j 0 (k + 1) (bm_cs f4 f7 j 1 K (bm_cs f4 f7 j 2 K (0, w)))).1)), (5, .int 0), (6, .int (nI (k + 1)))] := lv_sub hl [5, 6, 1, 2, 7, 0] rfl
                exact ih (k + 1) ls _ _ (by omega) hl hz hM hS
              · refine lv_aload_n hx hb dM_choose_72 rfl (lv_at hl 1 rfl) ?_
                refine bm_get (ci := 7) (v := .ref (m + 7)) (C := "BlindMintModel") (T := bt_M) (N := 22) hx hb hts bu_M hown hK hM hP.c0 rfl 9 (by decide) (hts _ bw_611) (fun _ h9 => h9) rfl dM_choose_73 ?_
                refine lv_iload hx hb dM_choose_76 (lv_at hl 0 rfl) ?_
                refine bm_zald hx hb hK hM 2 hP.c7 rfl (8 * j + k) (bm_ix_nI (by omega)) (by omega) dM_choose_78 ?_
                refine lv_if_ne (tgt := 95) hx hb dM_choose_79 rfl (fun h79 => ?_) (fun h79 => ?_)
                · refine lv_iconst (v := 0) hx hb dM_choose_95 (by decide) ?_
                  refine lv_istore hx hb dM_choose_96 hl (by decide) rfl (fun ls hl => ?_)
                  have hl : lv_has ls 9 [(8, .int 0), (7, .int (nI (8 * j + k))), (0, .ref m), (1, .int (nI j)), (3, .int ((bm_cs f4 f7 j 0 k (bm_cs f4 f7 j 1 K (bm_cs f4 f7 j 2 K (0, w)))).2)), (4, .int ((bm_cs f4 f7 j 0 k (bm_cs f4 f7 j 1 K (bm_cs f4 f7 j 2 K (0, w)))).1)), (5, .int 0), (6, .int (nI k))] := hl
                  refine lv_iload hx hb dM_choose_98 (lv_at hl 5 rfl) ?_
                  refine lv_iload hx hb dM_choose_100 (lv_at hl 0 rfl) ?_
                  refine lv_if_eq (tgt := 112) hx hb dM_choose_102 rfl (fun _ => ?_) (fun h => absurd h (by decide))
                  refine lv_iconst (v := 0) hx hb dM_choose_112 (by decide) ?_
                  refine lv_ior hx hb dM_choose_113 ?_
                  refine lv_istore hx hb dM_choose_114 hl (by decide) rfl (fun ls hl => ?_)
                  have hl : lv_has ls 9 [(4, .int (((bm_cs f4 f7 j 0 k (bm_cs f4 f7 j 1 K (bm_cs f4 f7 j 2 K (0, w)))).1) ||| 0)), (8, .int 0), (7, .int (nI (8 * j + k))), (0, .ref m), (1, .int (nI j)), (3, .int ((bm_cs f4 f7 j 0 k (bm_cs f4 f7 j 1 K (bm_cs f4 f7 j 2 K (0, w)))).2)), (5, .int 0), (6, .int (nI k))] := hl
                  refine lv_iload_n hx hb dM_choose_116 rfl (lv_at hl 5 rfl) ?_
                  refine lv_iload hx hb dM_choose_117 (lv_at hl 1 rfl) ?_
                  refine lv_if_eq (tgt := 130) hx hb dM_choose_119 rfl (fun _ => ?_) (fun h => absurd h (by decide))
                  refine lv_iconst (v := 0) hx hb dM_choose_130 (by decide) ?_
                  refine lv_isub hx hb dM_choose_131 ?_
                  refine lv_istore_n hx hb dM_choose_132 rfl hl (by decide) rfl (fun ls hl => ?_)
                  have hl : lv_has ls 9 [(3, .int (((bm_cs f4 f7 j 0 k (bm_cs f4 f7 j 1 K (bm_cs f4 f7 j 2 K (0, w)))).2) - 0)), (4, .int (((bm_cs f4 f7 j 0 k (bm_cs f4 f7 j 1 K (bm_cs f4 f7 j 2 K (0, w)))).1) ||| 0)), (8, .int 0), (7, .int (nI (8 * j + k))), (0, .ref m), (1, .int (nI j)), (5, .int 0), (6, .int (nI k))] := hl
                  have hl : lv_has ls 9 [(3, .int ((bm_cs f4 f7 j 0 (k + 1) (bm_cs f4 f7 j 1 K (bm_cs f4 f7 j 2 K (0, w)))).2)), (4, .int ((bm_cs f4 f7 j 0 (k + 1) (bm_cs f4 f7 j 1 K (bm_cs f4 f7 j 2 K (0, w)))).1)), (8, .int 0), (7, .int (nI (8 * j + k))), (0, .ref m), (1, .int (nI j)), (5, .int 0), (6, .int (nI k))] := by rw [show bm_cs f4 f7 j 0 (k + 1) (bm_cs f4 f7 j 1 K (bm_cs f4 f7 j 2 K (0, w))) = _ from bm_cs_n (fun q => h79 q.2.1)]; exact hl
                  refine lv_iinc (v := nI (k + 1)) (k := 7) hx hb dM_choose_133 hl rfl (bm_inc k) (by decide) rfl (fun ls hl => ?_)
                  have hl : lv_has ls 9 [(6, .int (nI (k + 1))), (3, .int ((bm_cs f4 f7 j 0 (k + 1) (bm_cs f4 f7 j 1 K (bm_cs f4 f7 j 2 K (0, w)))).2)), (4, .int ((bm_cs f4 f7 j 0 (k + 1) (bm_cs f4 f7 j 1 K (bm_cs f4 f7 j 2 K (0, w)))).1)), (8, .int 0), (7, .int (nI (8 * j + k))), (0, .ref m), (1, .int (nI j)), (5, .int 0)] := hl
                  refine lv_goto (tgt := 40) hx hb dM_choose_136 rfl ?_
                  have hl : lv_has ls 9 [(0, .ref m), (1, .int (nI j)), (3, .int ((bm_cs f4 f7 j 0 (k + 1) (bm_cs f4 f7 j 1 K (bm_cs f4 f7 j 2 K (0, w)))).2)), (4, .int ((bm_cs f4 f7 j 0 (k + 1) (bm_cs f4 f7 j 1 K (bm_cs f4 f7 j 2 K (0, w)))).1)), (5, .int 0), (6, .int (nI (k + 1)))] := lv_sub hl [5, 6, 1, 2, 7, 0] rfl
                  exact ih (k + 1) ls _ _ (by omega) hl hz hM hS
                · refine lv_iload hx hb dM_choose_82 (lv_at hl 5 rfl) ?_
                  refine bm_callE (va_runS (As := [.int 0]) (rest := []) ⟨hx, hb, hml, hown, hts⟩ (bc_M_worth0 l D ct base ad M1 sz) (va_cwS 1 hts (bm_goodS bw_686 bw_687 bw_5 bw_688) rfl rfl rfl (by decide +kernel) (by rw [← hR]; exact ⟨Nat.le_of_ble_eq_true rfl, Nat.le_of_ble_eq_true rfl⟩)) (bm_preS hM hG hS hz) rfl rfl hl.1 rfl (lv_room (Nat.le_of_ble_eq_true rfl)) dM_choose_84 (by rw [← hR]; exact ⟨Nat.le_of_ble_eq_true rfl, Nat.le_of_ble_eq_true rfl⟩)) hS (fun H locs hz hM hS => ?_)
                  refine lv_iload_n hx hb dM_choose_87 rfl (lv_at hl 3 rfl) ?_
                  refine lv_icmp_gt (tgt := 95) hx hb dM_choose_88 rfl (fun h88 => ?_) (fun h88 => ?_)
                  · refine lv_iconst (v := 0) hx hb dM_choose_95 (by decide) ?_
                    refine lv_istore hx hb dM_choose_96 hl (by decide) rfl (fun ls hl => ?_)
                    have hl : lv_has ls 9 [(8, .int 0), (7, .int (nI (8 * j + k))), (0, .ref m), (1, .int (nI j)), (3, .int ((bm_cs f4 f7 j 0 k (bm_cs f4 f7 j 1 K (bm_cs f4 f7 j 2 K (0, w)))).2)), (4, .int ((bm_cs f4 f7 j 0 k (bm_cs f4 f7 j 1 K (bm_cs f4 f7 j 2 K (0, w)))).1)), (5, .int 0), (6, .int (nI k))] := hl
                    refine lv_iload hx hb dM_choose_98 (lv_at hl 5 rfl) ?_
                    refine lv_iload hx hb dM_choose_100 (lv_at hl 0 rfl) ?_
                    refine lv_if_eq (tgt := 112) hx hb dM_choose_102 rfl (fun _ => ?_) (fun h => absurd h (by decide))
                    refine lv_iconst (v := 0) hx hb dM_choose_112 (by decide) ?_
                    refine lv_ior hx hb dM_choose_113 ?_
                    refine lv_istore hx hb dM_choose_114 hl (by decide) rfl (fun ls hl => ?_)
                    have hl : lv_has ls 9 [(4, .int (((bm_cs f4 f7 j 0 k (bm_cs f4 f7 j 1 K (bm_cs f4 f7 j 2 K (0, w)))).1) ||| 0)), (8, .int 0), (7, .int (nI (8 * j + k))), (0, .ref m), (1, .int (nI j)), (3, .int ((bm_cs f4 f7 j 0 k (bm_cs f4 f7 j 1 K (bm_cs f4 f7 j 2 K (0, w)))).2)), (5, .int 0), (6, .int (nI k))] := hl
                    refine lv_iload_n hx hb dM_choose_116 rfl (lv_at hl 5 rfl) ?_
                    refine lv_iload hx hb dM_choose_117 (lv_at hl 1 rfl) ?_
                    refine lv_if_eq (tgt := 130) hx hb dM_choose_119 rfl (fun _ => ?_) (fun h => absurd h (by decide))
                    refine lv_iconst (v := 0) hx hb dM_choose_130 (by decide) ?_
                    refine lv_isub hx hb dM_choose_131 ?_
                    refine lv_istore_n hx hb dM_choose_132 rfl hl (by decide) rfl (fun ls hl => ?_)
                    have hl : lv_has ls 9 [(3, .int (((bm_cs f4 f7 j 0 k (bm_cs f4 f7 j 1 K (bm_cs f4 f7 j 2 K (0, w)))).2) - 0)), (4, .int (((bm_cs f4 f7 j 0 k (bm_cs f4 f7 j 1 K (bm_cs f4 f7 j 2 K (0, w)))).1) ||| 0)), (8, .int 0), (7, .int (nI (8 * j + k))), (0, .ref m), (1, .int (nI j)), (5, .int 0), (6, .int (nI k))] := hl
                    have hl : lv_has ls 9 [(3, .int ((bm_cs f4 f7 j 0 (k + 1) (bm_cs f4 f7 j 1 K (bm_cs f4 f7 j 2 K (0, w)))).2)), (4, .int ((bm_cs f4 f7 j 0 (k + 1) (bm_cs f4 f7 j 1 K (bm_cs f4 f7 j 2 K (0, w)))).1)), (8, .int 0), (7, .int (nI (8 * j + k))), (0, .ref m), (1, .int (nI j)), (5, .int 0), (6, .int (nI k))] := by rw [show bm_cs f4 f7 j 0 (k + 1) (bm_cs f4 f7 j 1 K (bm_cs f4 f7 j 2 K (0, w))) = _ from bm_cs_n (fun q => q.2.2 h88)]; exact hl
                    refine lv_iinc (v := nI (k + 1)) (k := 7) hx hb dM_choose_133 hl rfl (bm_inc k) (by decide) rfl (fun ls hl => ?_)
                    have hl : lv_has ls 9 [(6, .int (nI (k + 1))), (3, .int ((bm_cs f4 f7 j 0 (k + 1) (bm_cs f4 f7 j 1 K (bm_cs f4 f7 j 2 K (0, w)))).2)), (4, .int ((bm_cs f4 f7 j 0 (k + 1) (bm_cs f4 f7 j 1 K (bm_cs f4 f7 j 2 K (0, w)))).1)), (8, .int 0), (7, .int (nI (8 * j + k))), (0, .ref m), (1, .int (nI j)), (5, .int 0)] := hl
                    refine lv_goto (tgt := 40) hx hb dM_choose_136 rfl ?_
                    have hl : lv_has ls 9 [(0, .ref m), (1, .int (nI j)), (3, .int ((bm_cs f4 f7 j 0 (k + 1) (bm_cs f4 f7 j 1 K (bm_cs f4 f7 j 2 K (0, w)))).2)), (4, .int ((bm_cs f4 f7 j 0 (k + 1) (bm_cs f4 f7 j 1 K (bm_cs f4 f7 j 2 K (0, w)))).1)), (5, .int 0), (6, .int (nI (k + 1)))] := lv_sub hl [5, 6, 1, 2, 7, 0] rfl
                    exact ih (k + 1) ls _ _ (by omega) hl hz hM hS
                  · refine lv_iconst (v := 1) hx hb dM_choose_91 (by decide) ?_
                    refine lv_goto (tgt := 96) hx hb dM_choose_92 rfl ?_
                    refine lv_istore hx hb dM_choose_96 hl (by decide) rfl (fun ls hl => ?_)
                    have hl : lv_has ls 9 [(8, .int 1), (7, .int (nI (8 * j + k))), (0, .ref m), (1, .int (nI j)), (3, .int ((bm_cs f4 f7 j 0 k (bm_cs f4 f7 j 1 K (bm_cs f4 f7 j 2 K (0, w)))).2)), (4, .int ((bm_cs f4 f7 j 0 k (bm_cs f4 f7 j 1 K (bm_cs f4 f7 j 2 K (0, w)))).1)), (5, .int 0), (6, .int (nI k))] := hl
                    refine lv_iload hx hb dM_choose_98 (lv_at hl 5 rfl) ?_
                    refine lv_iload hx hb dM_choose_100 (lv_at hl 0 rfl) ?_
                    refine lv_if_eq (tgt := 112) hx hb dM_choose_102 rfl (fun h => absurd h (by decide)) (fun _ => ?_)
                    refine lv_iconst (v := 1) hx hb dM_choose_105 (by decide) ?_
                    refine lv_iload hx hb dM_choose_106 (lv_at hl 7 rfl) ?_
                    refine lv_ishl hx hb dM_choose_108 ?_
                    refine lv_goto (tgt := 113) hx hb dM_choose_109 rfl ?_
                    refine lv_ior hx hb dM_choose_113 ?_
                    refine lv_istore hx hb dM_choose_114 hl (by decide) rfl (fun ls hl => ?_)
                    have hl : lv_has ls 9 [(4, .int (((bm_cs f4 f7 j 0 k (bm_cs f4 f7 j 1 K (bm_cs f4 f7 j 2 K (0, w)))).1) ||| (1 <<< ((nI k) &&& 31)))), (8, .int 1), (7, .int (nI (8 * j + k))), (0, .ref m), (1, .int (nI j)), (3, .int ((bm_cs f4 f7 j 0 k (bm_cs f4 f7 j 1 K (bm_cs f4 f7 j 2 K (0, w)))).2)), (5, .int 0), (6, .int (nI k))] := hl
                    refine lv_iload_n hx hb dM_choose_116 rfl (lv_at hl 5 rfl) ?_
                    refine lv_iload hx hb dM_choose_117 (lv_at hl 1 rfl) ?_
                    refine lv_if_eq (tgt := 130) hx hb dM_choose_119 rfl (fun h => absurd h (by decide)) (fun _ => ?_)
                    refine lv_iload hx hb dM_choose_122 (lv_at hl 6 rfl) ?_
                    refine bm_callE (va_runS (As := [.int 0]) (rest := [.int ((bm_cs f4 f7 j 0 k (bm_cs f4 f7 j 1 K (bm_cs f4 f7 j 2 K (0, w)))).2)]) ⟨hx, hb, hml, hown, hts⟩ (bc_M_worth0 l D ct base ad M1 sz) (va_cwS 1 hts (bm_goodS bw_686 bw_687 bw_5 bw_688) rfl rfl rfl (by decide +kernel) (by rw [← hR]; exact ⟨Nat.le_of_ble_eq_true rfl, Nat.le_of_ble_eq_true rfl⟩)) (bm_preS hM hG hS hz) rfl rfl hl.1 rfl (lv_room (Nat.le_of_ble_eq_true rfl)) dM_choose_124 (by rw [← hR]; exact ⟨Nat.le_of_ble_eq_true rfl, Nat.le_of_ble_eq_true rfl⟩)) hS (fun H locs hz hM hS => ?_)
                    refine lv_goto (tgt := 131) hx hb dM_choose_127 rfl ?_
                    refine lv_isub hx hb dM_choose_131 ?_
                    refine lv_istore_n hx hb dM_choose_132 rfl hl (by decide) rfl (fun ls hl => ?_)
                    have hl : lv_has ls 9 [(3, .int (((bm_cs f4 f7 j 0 k (bm_cs f4 f7 j 1 K (bm_cs f4 f7 j 2 K (0, w)))).2) - (bm_w 0))), (4, .int (((bm_cs f4 f7 j 0 k (bm_cs f4 f7 j 1 K (bm_cs f4 f7 j 2 K (0, w)))).1) ||| (1 <<< ((nI k) &&& 31)))), (8, .int 1), (7, .int (nI (8 * j + k))), (0, .ref m), (1, .int (nI j)), (5, .int 0), (6, .int (nI k))] := hl
                    have hl : lv_has ls 9 [(3, .int ((bm_cs f4 f7 j 0 (k + 1) (bm_cs f4 f7 j 1 K (bm_cs f4 f7 j 2 K (0, w)))).2)), (4, .int ((bm_cs f4 f7 j 0 (k + 1) (bm_cs f4 f7 j 1 K (bm_cs f4 f7 j 2 K (0, w)))).1)), (8, .int 1), (7, .int (nI (8 * j + k))), (0, .ref m), (1, .int (nI j)), (5, .int 0), (6, .int (nI k))] := by rw [show bm_cs f4 f7 j 0 (k + 1) (bm_cs f4 f7 j 1 K (bm_cs f4 f7 j 2 K (0, w))) = _ from bm_cs_y h69 h79 h88]; exact hl
                    refine lv_iinc (v := nI (k + 1)) (k := 7) hx hb dM_choose_133 hl rfl (bm_inc k) (by decide) rfl (fun ls hl => ?_)
                    have hl : lv_has ls 9 [(6, .int (nI (k + 1))), (3, .int ((bm_cs f4 f7 j 0 (k + 1) (bm_cs f4 f7 j 1 K (bm_cs f4 f7 j 2 K (0, w)))).2)), (4, .int ((bm_cs f4 f7 j 0 (k + 1) (bm_cs f4 f7 j 1 K (bm_cs f4 f7 j 2 K (0, w)))).1)), (8, .int 1), (7, .int (nI (8 * j + k))), (0, .ref m), (1, .int (nI j)), (5, .int 0)] := hl
                    refine lv_goto (tgt := 40) hx hb dM_choose_136 rfl ?_
                    have hl : lv_has ls 9 [(0, .ref m), (1, .int (nI j)), (3, .int ((bm_cs f4 f7 j 0 (k + 1) (bm_cs f4 f7 j 1 K (bm_cs f4 f7 j 2 K (0, w)))).2)), (4, .int ((bm_cs f4 f7 j 0 (k + 1) (bm_cs f4 f7 j 1 K (bm_cs f4 f7 j 2 K (0, w)))).1)), (5, .int 0), (6, .int (nI (k + 1)))] := lv_sub hl [5, 6, 1, 2, 7, 0] rfl
                    exact ih (k + 1) ls _ _ (by omega) hl hz hM hS
          exact loop K 0 ls _ _ (by omega) hl hz hM hS
        | succ n ih =>
          intro k ls H locs hi hl hz hM hS
          refine lv_iload hx hb dM_choose_40 (lv_at hl 5 rfl) ?_
          refine lv_aload_n hx hb dM_choose_42 rfl (lv_at hl 0 rfl) ?_
          refine bm_get (ci := 7) (v := .ref (m + 3)) (C := "BlindMintModel") (T := bt_M) (N := 22) hx hb hts bu_M hown hK hM hP.c0 rfl 5 (by decide) (hts _ bw_607) (fun _ h9 => h9) rfl dM_choose_43 ?_
          refine lv_iload_n hx hb dM_choose_46 rfl (lv_at hl 1 rfl) ?_
          refine bm_iald hx hb hK hM 0 hP.c3 rfl j (bm_ix_nI (by omega)) (by omega) dM_choose_47 ?_
          refine lv_topi (fun t7 e_t7 => ?_)
          have e_t7 : t7 = nI K := by rw [e_t7]; exact hkc
          subst e_t7
          refine lv_icmp_ge (tgt := 139) hx hb dM_choose_48 rfl (fun h48 => absurd h48 (nI_ge (by omega) (by omega))) (fun h48 => ?_)
          refine lv_bipush (v := 8) hx hb dM_choose_51 (by decide) ?_
          refine lv_iload_n hx hb dM_choose_53 rfl (lv_at hl 1 rfl) ?_
          refine lv_imul hx hb dM_choose_54 ?_
          refine lv_iload hx hb dM_choose_55 (lv_at hl 5 rfl) ?_
          refine lv_iadd hx hb dM_choose_57 ?_
          refine lv_topi (fun t8 e_t8 => ?_)
          have e_t8 : t8 = nI (8 * j + k) := by rw [e_t8]; show nI 8 * nI j + nI k = _; rw [pk_mul, nI_add]
          subst e_t8
          refine lv_istore hx hb dM_choose_58 hl (by decide) rfl (fun ls hl => ?_)
          have hl : lv_has ls 9 [(7, .int (nI (8 * j + k))), (0, .ref m), (1, .int (nI j)), (3, .int ((bm_cs f4 f7 j 1 k (bm_cs f4 f7 j 2 K (0, w))).2)), (4, .int ((bm_cs f4 f7 j 1 k (bm_cs f4 f7 j 2 K (0, w))).1)), (5, .int 1), (6, .int (nI k))] := hl
          refine lv_aload_n hx hb dM_choose_60 rfl (lv_at hl 1 rfl) ?_
          refine bm_get (ci := 7) (v := .ref (m + 4)) (C := "BlindMintModel") (T := bt_M) (N := 22) hx hb hts bu_M hown hK hM hP.c0 rfl 6 (by decide) (hts _ bw_608) (fun _ h9 => h9) rfl dM_choose_61 ?_
          refine lv_iload hx hb dM_choose_64 (lv_at hl 0 rfl) ?_
          refine bm_iald hx hb hK hM 0 hP.c4 rfl (8 * j + k) (bm_ix_nI (by omega)) (by omega) dM_choose_66 ?_
          refine lv_iload hx hb dM_choose_67 (lv_at hl 5 rfl) ?_
          refine lv_icmp_ne (tgt := 95) hx hb dM_choose_69 rfl (fun h69 => ?_) (fun h69 => ?_)
          · refine lv_iconst (v := 0) hx hb dM_choose_95 (by decide) ?_
            refine lv_istore hx hb dM_choose_96 hl (by decide) rfl (fun ls hl => ?_)
            have hl : lv_has ls 9 [(8, .int 0), (7, .int (nI (8 * j + k))), (0, .ref m), (1, .int (nI j)), (3, .int ((bm_cs f4 f7 j 1 k (bm_cs f4 f7 j 2 K (0, w))).2)), (4, .int ((bm_cs f4 f7 j 1 k (bm_cs f4 f7 j 2 K (0, w))).1)), (5, .int 1), (6, .int (nI k))] := hl
            refine lv_iload hx hb dM_choose_98 (lv_at hl 5 rfl) ?_
            refine lv_iload hx hb dM_choose_100 (lv_at hl 0 rfl) ?_
            refine lv_if_eq (tgt := 112) hx hb dM_choose_102 rfl (fun _ => ?_) (fun h => absurd h (by decide))
            refine lv_iconst (v := 0) hx hb dM_choose_112 (by decide) ?_
            refine lv_ior hx hb dM_choose_113 ?_
            refine lv_istore hx hb dM_choose_114 hl (by decide) rfl (fun ls hl => ?_)
            have hl : lv_has ls 9 [(4, .int (((bm_cs f4 f7 j 1 k (bm_cs f4 f7 j 2 K (0, w))).1) ||| 0)), (8, .int 0), (7, .int (nI (8 * j + k))), (0, .ref m), (1, .int (nI j)), (3, .int ((bm_cs f4 f7 j 1 k (bm_cs f4 f7 j 2 K (0, w))).2)), (5, .int 1), (6, .int (nI k))] := hl
            refine lv_iload_n hx hb dM_choose_116 rfl (lv_at hl 5 rfl) ?_
            refine lv_iload hx hb dM_choose_117 (lv_at hl 1 rfl) ?_
            refine lv_if_eq (tgt := 130) hx hb dM_choose_119 rfl (fun _ => ?_) (fun h => absurd h (by decide))
            refine lv_iconst (v := 0) hx hb dM_choose_130 (by decide) ?_
            refine lv_isub hx hb dM_choose_131 ?_
            refine lv_istore_n hx hb dM_choose_132 rfl hl (by decide) rfl (fun ls hl => ?_)
            have hl : lv_has ls 9 [(3, .int (((bm_cs f4 f7 j 1 k (bm_cs f4 f7 j 2 K (0, w))).2) - 0)), (4, .int (((bm_cs f4 f7 j 1 k (bm_cs f4 f7 j 2 K (0, w))).1) ||| 0)), (8, .int 0), (7, .int (nI (8 * j + k))), (0, .ref m), (1, .int (nI j)), (5, .int 1), (6, .int (nI k))] := hl
            have hl : lv_has ls 9 [(3, .int ((bm_cs f4 f7 j 1 (k + 1) (bm_cs f4 f7 j 2 K (0, w))).2)), (4, .int ((bm_cs f4 f7 j 1 (k + 1) (bm_cs f4 f7 j 2 K (0, w))).1)), (8, .int 0), (7, .int (nI (8 * j + k))), (0, .ref m), (1, .int (nI j)), (5, .int 1), (6, .int (nI k))] := by rw [show bm_cs f4 f7 j 1 (k + 1) (bm_cs f4 f7 j 2 K (0, w)) = _ from bm_cs_n (fun q => h69 q.1)]; exact hl
            refine lv_iinc (v := nI (k + 1)) (k := 7) hx hb dM_choose_133 hl rfl (bm_inc k) (by decide) rfl (fun ls hl => ?_)
            have hl : lv_has ls 9 [(6, .int (nI (k + 1))), (3, .int ((bm_cs f4 f7 j 1 (k + 1) (bm_cs f4 f7 j 2 K (0, w))).2)), (4, .int ((bm_cs f4 f7 j 1 (k + 1) (bm_cs f4 f7 j 2 K (0, w))).1)), (8, .int 0), (7, .int (nI (8 * j + k))), (0, .ref m), (1, .int (nI j)), (5, .int 1)] := hl
            refine lv_goto (tgt := 40) hx hb dM_choose_136 rfl ?_
            have hl : lv_has ls 9 [(0, .ref m), (1, .int (nI j)), (3, .int ((bm_cs f4 f7 j 1 (k + 1) (bm_cs f4 f7 j 2 K (0, w))).2)), (4, .int ((bm_cs f4 f7 j 1 (k + 1) (bm_cs f4 f7 j 2 K (0, w))).1)), (5, .int 1), (6, .int (nI (k + 1)))] := lv_sub hl [5, 6, 1, 2, 7, 0] rfl
            exact ih (k + 1) ls _ _ (by omega) hl hz hM hS
          · refine lv_aload_n hx hb dM_choose_72 rfl (lv_at hl 1 rfl) ?_
            refine bm_get (ci := 7) (v := .ref (m + 7)) (C := "BlindMintModel") (T := bt_M) (N := 22) hx hb hts bu_M hown hK hM hP.c0 rfl 9 (by decide) (hts _ bw_611) (fun _ h9 => h9) rfl dM_choose_73 ?_
            refine lv_iload hx hb dM_choose_76 (lv_at hl 0 rfl) ?_
            refine bm_zald hx hb hK hM 2 hP.c7 rfl (8 * j + k) (bm_ix_nI (by omega)) (by omega) dM_choose_78 ?_
            refine lv_if_ne (tgt := 95) hx hb dM_choose_79 rfl (fun h79 => ?_) (fun h79 => ?_)
            · refine lv_iconst (v := 0) hx hb dM_choose_95 (by decide) ?_
              refine lv_istore hx hb dM_choose_96 hl (by decide) rfl (fun ls hl => ?_)
              have hl : lv_has ls 9 [(8, .int 0), (7, .int (nI (8 * j + k))), (0, .ref m), (1, .int (nI j)), (3, .int ((bm_cs f4 f7 j 1 k (bm_cs f4 f7 j 2 K (0, w))).2)), (4, .int ((bm_cs f4 f7 j 1 k (bm_cs f4 f7 j 2 K (0, w))).1)), (5, .int 1), (6, .int (nI k))] := hl
              refine lv_iload hx hb dM_choose_98 (lv_at hl 5 rfl) ?_
              refine lv_iload hx hb dM_choose_100 (lv_at hl 0 rfl) ?_
              refine lv_if_eq (tgt := 112) hx hb dM_choose_102 rfl (fun _ => ?_) (fun h => absurd h (by decide))
              refine lv_iconst (v := 0) hx hb dM_choose_112 (by decide) ?_
              refine lv_ior hx hb dM_choose_113 ?_
              refine lv_istore hx hb dM_choose_114 hl (by decide) rfl (fun ls hl => ?_)
              have hl : lv_has ls 9 [(4, .int (((bm_cs f4 f7 j 1 k (bm_cs f4 f7 j 2 K (0, w))).1) ||| 0)), (8, .int 0), (7, .int (nI (8 * j + k))), (0, .ref m), (1, .int (nI j)), (3, .int ((bm_cs f4 f7 j 1 k (bm_cs f4 f7 j 2 K (0, w))).2)), (5, .int 1), (6, .int (nI k))] := hl
              refine lv_iload_n hx hb dM_choose_116 rfl (lv_at hl 5 rfl) ?_
              refine lv_iload hx hb dM_choose_117 (lv_at hl 1 rfl) ?_
              refine lv_if_eq (tgt := 130) hx hb dM_choose_119 rfl (fun _ => ?_) (fun h => absurd h (by decide))
              refine lv_iconst (v := 0) hx hb dM_choose_130 (by decide) ?_
              refine lv_isub hx hb dM_choose_131 ?_
              refine lv_istore_n hx hb dM_choose_132 rfl hl (by decide) rfl (fun ls hl => ?_)
              have hl : lv_has ls 9 [(3, .int (((bm_cs f4 f7 j 1 k (bm_cs f4 f7 j 2 K (0, w))).2) - 0)), (4, .int (((bm_cs f4 f7 j 1 k (bm_cs f4 f7 j 2 K (0, w))).1) ||| 0)), (8, .int 0), (7, .int (nI (8 * j + k))), (0, .ref m), (1, .int (nI j)), (5, .int 1), (6, .int (nI k))] := hl
              have hl : lv_has ls 9 [(3, .int ((bm_cs f4 f7 j 1 (k + 1) (bm_cs f4 f7 j 2 K (0, w))).2)), (4, .int ((bm_cs f4 f7 j 1 (k + 1) (bm_cs f4 f7 j 2 K (0, w))).1)), (8, .int 0), (7, .int (nI (8 * j + k))), (0, .ref m), (1, .int (nI j)), (5, .int 1), (6, .int (nI k))] := by rw [show bm_cs f4 f7 j 1 (k + 1) (bm_cs f4 f7 j 2 K (0, w)) = _ from bm_cs_n (fun q => h79 q.2.1)]; exact hl
              refine lv_iinc (v := nI (k + 1)) (k := 7) hx hb dM_choose_133 hl rfl (bm_inc k) (by decide) rfl (fun ls hl => ?_)
              have hl : lv_has ls 9 [(6, .int (nI (k + 1))), (3, .int ((bm_cs f4 f7 j 1 (k + 1) (bm_cs f4 f7 j 2 K (0, w))).2)), (4, .int ((bm_cs f4 f7 j 1 (k + 1) (bm_cs f4 f7 j 2 K (0, w))).1)), (8, .int 0), (7, .int (nI (8 * j + k))), (0, .ref m), (1, .int (nI j)), (5, .int 1)] := hl
              refine lv_goto (tgt := 40) hx hb dM_choose_136 rfl ?_
              have hl : lv_has ls 9 [(0, .ref m), (1, .int (nI j)), (3, .int ((bm_cs f4 f7 j 1 (k + 1) (bm_cs f4 f7 j 2 K (0, w))).2)), (4, .int ((bm_cs f4 f7 j 1 (k + 1) (bm_cs f4 f7 j 2 K (0, w))).1)), (5, .int 1), (6, .int (nI (k + 1)))] := lv_sub hl [5, 6, 1, 2, 7, 0] rfl
              exact ih (k + 1) ls _ _ (by omega) hl hz hM hS
            · refine lv_iload hx hb dM_choose_82 (lv_at hl 5 rfl) ?_
              refine bm_callE (va_runS (As := [.int 1]) (rest := []) ⟨hx, hb, hml, hown, hts⟩ (bc_M_worth1 l D ct base ad M1 sz) (va_cwS 1 hts (bm_goodS bw_686 bw_687 bw_5 bw_688) rfl rfl rfl (by decide +kernel) (by rw [← hR]; exact ⟨Nat.le_of_ble_eq_true rfl, Nat.le_of_ble_eq_true rfl⟩)) (bm_preS hM hG hS hz) rfl rfl hl.1 rfl (lv_room (Nat.le_of_ble_eq_true rfl)) dM_choose_84 (by rw [← hR]; exact ⟨Nat.le_of_ble_eq_true rfl, Nat.le_of_ble_eq_true rfl⟩)) hS (fun H locs hz hM hS => ?_)
              refine lv_iload_n hx hb dM_choose_87 rfl (lv_at hl 3 rfl) ?_
              refine lv_icmp_gt (tgt := 95) hx hb dM_choose_88 rfl (fun h88 => ?_) (fun h88 => ?_)
              · refine lv_iconst (v := 0) hx hb dM_choose_95 (by decide) ?_
                refine lv_istore hx hb dM_choose_96 hl (by decide) rfl (fun ls hl => ?_)
                have hl : lv_has ls 9 [(8, .int 0), (7, .int (nI (8 * j + k))), (0, .ref m), (1, .int (nI j)), (3, .int ((bm_cs f4 f7 j 1 k (bm_cs f4 f7 j 2 K (0, w))).2)), (4, .int ((bm_cs f4 f7 j 1 k (bm_cs f4 f7 j 2 K (0, w))).1)), (5, .int 1), (6, .int (nI k))] := hl
                refine lv_iload hx hb dM_choose_98 (lv_at hl 5 rfl) ?_
                refine lv_iload hx hb dM_choose_100 (lv_at hl 0 rfl) ?_
                refine lv_if_eq (tgt := 112) hx hb dM_choose_102 rfl (fun _ => ?_) (fun h => absurd h (by decide))
                refine lv_iconst (v := 0) hx hb dM_choose_112 (by decide) ?_
                refine lv_ior hx hb dM_choose_113 ?_
                refine lv_istore hx hb dM_choose_114 hl (by decide) rfl (fun ls hl => ?_)
                have hl : lv_has ls 9 [(4, .int (((bm_cs f4 f7 j 1 k (bm_cs f4 f7 j 2 K (0, w))).1) ||| 0)), (8, .int 0), (7, .int (nI (8 * j + k))), (0, .ref m), (1, .int (nI j)), (3, .int ((bm_cs f4 f7 j 1 k (bm_cs f4 f7 j 2 K (0, w))).2)), (5, .int 1), (6, .int (nI k))] := hl
                refine lv_iload_n hx hb dM_choose_116 rfl (lv_at hl 5 rfl) ?_
                refine lv_iload hx hb dM_choose_117 (lv_at hl 1 rfl) ?_
                refine lv_if_eq (tgt := 130) hx hb dM_choose_119 rfl (fun _ => ?_) (fun h => absurd h (by decide))
                refine lv_iconst (v := 0) hx hb dM_choose_130 (by decide) ?_
                refine lv_isub hx hb dM_choose_131 ?_
                refine lv_istore_n hx hb dM_choose_132 rfl hl (by decide) rfl (fun ls hl => ?_)
                have hl : lv_has ls 9 [(3, .int (((bm_cs f4 f7 j 1 k (bm_cs f4 f7 j 2 K (0, w))).2) - 0)), (4, .int (((bm_cs f4 f7 j 1 k (bm_cs f4 f7 j 2 K (0, w))).1) ||| 0)), (8, .int 0), (7, .int (nI (8 * j + k))), (0, .ref m), (1, .int (nI j)), (5, .int 1), (6, .int (nI k))] := hl
                have hl : lv_has ls 9 [(3, .int ((bm_cs f4 f7 j 1 (k + 1) (bm_cs f4 f7 j 2 K (0, w))).2)), (4, .int ((bm_cs f4 f7 j 1 (k + 1) (bm_cs f4 f7 j 2 K (0, w))).1)), (8, .int 0), (7, .int (nI (8 * j + k))), (0, .ref m), (1, .int (nI j)), (5, .int 1), (6, .int (nI k))] := by rw [show bm_cs f4 f7 j 1 (k + 1) (bm_cs f4 f7 j 2 K (0, w)) = _ from bm_cs_n (fun q => q.2.2 h88)]; exact hl
                refine lv_iinc (v := nI (k + 1)) (k := 7) hx hb dM_choose_133 hl rfl (bm_inc k) (by decide) rfl (fun ls hl => ?_)
                have hl : lv_has ls 9 [(6, .int (nI (k + 1))), (3, .int ((bm_cs f4 f7 j 1 (k + 1) (bm_cs f4 f7 j 2 K (0, w))).2)), (4, .int ((bm_cs f4 f7 j 1 (k + 1) (bm_cs f4 f7 j 2 K (0, w))).1)), (8, .int 0), (7, .int (nI (8 * j + k))), (0, .ref m), (1, .int (nI j)), (5, .int 1)] := hl
                refine lv_goto (tgt := 40) hx hb dM_choose_136 rfl ?_
                have hl : lv_has ls 9 [(0, .ref m), (1, .int (nI j)), (3, .int ((bm_cs f4 f7 j 1 (k + 1) (bm_cs f4 f7 j 2 K (0, w))).2)), (4, .int ((bm_cs f4 f7 j 1 (k + 1) (bm_cs f4 f7 j 2 K (0, w))).1)), (5, .int 1), (6, .int (nI (k + 1)))] := lv_sub hl [5, 6, 1, 2, 7, 0] rfl
                exact ih (k + 1) ls _ _ (by omega) hl hz hM hS
              · refine lv_iconst (v := 1) hx hb dM_choose_91 (by decide) ?_
                refine lv_goto (tgt := 96) hx hb dM_choose_92 rfl ?_
                refine lv_istore hx hb dM_choose_96 hl (by decide) rfl (fun ls hl => ?_)
                have hl : lv_has ls 9 [(8, .int 1), (7, .int (nI (8 * j + k))), (0, .ref m), (1, .int (nI j)), (3, .int ((bm_cs f4 f7 j 1 k (bm_cs f4 f7 j 2 K (0, w))).2)), (4, .int ((bm_cs f4 f7 j 1 k (bm_cs f4 f7 j 2 K (0, w))).1)), (5, .int 1), (6, .int (nI k))] := hl
                refine lv_iload hx hb dM_choose_98 (lv_at hl 5 rfl) ?_
                refine lv_iload hx hb dM_choose_100 (lv_at hl 0 rfl) ?_
                refine lv_if_eq (tgt := 112) hx hb dM_choose_102 rfl (fun h => absurd h (by decide)) (fun _ => ?_)
                refine lv_iconst (v := 1) hx hb dM_choose_105 (by decide) ?_
                refine lv_iload hx hb dM_choose_106 (lv_at hl 7 rfl) ?_
                refine lv_ishl hx hb dM_choose_108 ?_
                refine lv_goto (tgt := 113) hx hb dM_choose_109 rfl ?_
                refine lv_ior hx hb dM_choose_113 ?_
                refine lv_istore hx hb dM_choose_114 hl (by decide) rfl (fun ls hl => ?_)
                have hl : lv_has ls 9 [(4, .int (((bm_cs f4 f7 j 1 k (bm_cs f4 f7 j 2 K (0, w))).1) ||| (1 <<< ((nI k) &&& 31)))), (8, .int 1), (7, .int (nI (8 * j + k))), (0, .ref m), (1, .int (nI j)), (3, .int ((bm_cs f4 f7 j 1 k (bm_cs f4 f7 j 2 K (0, w))).2)), (5, .int 1), (6, .int (nI k))] := hl
                refine lv_iload_n hx hb dM_choose_116 rfl (lv_at hl 5 rfl) ?_
                refine lv_iload hx hb dM_choose_117 (lv_at hl 1 rfl) ?_
                refine lv_if_eq (tgt := 130) hx hb dM_choose_119 rfl (fun h => absurd h (by decide)) (fun _ => ?_)
                refine lv_iload hx hb dM_choose_122 (lv_at hl 6 rfl) ?_
                refine bm_callE (va_runS (As := [.int 1]) (rest := [.int ((bm_cs f4 f7 j 1 k (bm_cs f4 f7 j 2 K (0, w))).2)]) ⟨hx, hb, hml, hown, hts⟩ (bc_M_worth1 l D ct base ad M1 sz) (va_cwS 1 hts (bm_goodS bw_686 bw_687 bw_5 bw_688) rfl rfl rfl (by decide +kernel) (by rw [← hR]; exact ⟨Nat.le_of_ble_eq_true rfl, Nat.le_of_ble_eq_true rfl⟩)) (bm_preS hM hG hS hz) rfl rfl hl.1 rfl (lv_room (Nat.le_of_ble_eq_true rfl)) dM_choose_124 (by rw [← hR]; exact ⟨Nat.le_of_ble_eq_true rfl, Nat.le_of_ble_eq_true rfl⟩)) hS (fun H locs hz hM hS => ?_)
                refine lv_goto (tgt := 131) hx hb dM_choose_127 rfl ?_
                refine lv_isub hx hb dM_choose_131 ?_
                refine lv_istore_n hx hb dM_choose_132 rfl hl (by decide) rfl (fun ls hl => ?_)
                have hl : lv_has ls 9 [(3, .int (((bm_cs f4 f7 j 1 k (bm_cs f4 f7 j 2 K (0, w))).2) - (bm_w 1))), (4, .int (((bm_cs f4 f7 j 1 k (bm_cs f4 f7 j 2 K (0, w))).1) ||| (1 <<< ((nI k) &&& 31)))), (8, .int 1), (7, .int (nI (8 * j + k))), (0, .ref m), (1, .int (nI j)), (5, .int 1), (6, .int (nI k))] := hl
                have hl : lv_has ls 9 [(3, .int ((bm_cs f4 f7 j 1 (k + 1) (bm_cs f4 f7 j 2 K (0, w))).2)), (4, .int ((bm_cs f4 f7 j 1 (k + 1) (bm_cs f4 f7 j 2 K (0, w))).1)), (8, .int 1), (7, .int (nI (8 * j + k))), (0, .ref m), (1, .int (nI j)), (5, .int 1), (6, .int (nI k))] := by rw [show bm_cs f4 f7 j 1 (k + 1) (bm_cs f4 f7 j 2 K (0, w)) = _ from bm_cs_y h69 h79 h88]; exact hl
                refine lv_iinc (v := nI (k + 1)) (k := 7) hx hb dM_choose_133 hl rfl (bm_inc k) (by decide) rfl (fun ls hl => ?_)
                have hl : lv_has ls 9 [(6, .int (nI (k + 1))), (3, .int ((bm_cs f4 f7 j 1 (k + 1) (bm_cs f4 f7 j 2 K (0, w))).2)), (4, .int ((bm_cs f4 f7 j 1 (k + 1) (bm_cs f4 f7 j 2 K (0, w))).1)), (8, .int 1), (7, .int (nI (8 * j + k))), (0, .ref m), (1, .int (nI j)), (5, .int 1)] := hl
                refine lv_goto (tgt := 40) hx hb dM_choose_136 rfl ?_
                have hl : lv_has ls 9 [(0, .ref m), (1, .int (nI j)), (3, .int ((bm_cs f4 f7 j 1 (k + 1) (bm_cs f4 f7 j 2 K (0, w))).2)), (4, .int ((bm_cs f4 f7 j 1 (k + 1) (bm_cs f4 f7 j 2 K (0, w))).1)), (5, .int 1), (6, .int (nI (k + 1)))] := lv_sub hl [5, 6, 1, 2, 7, 0] rfl
                exact ih (k + 1) ls _ _ (by omega) hl hz hM hS
      exact loop K 0 ls _ _ (by omega) hl hz hM hS
    | succ n ih =>
      intro k ls H locs hi hl hz hM hS
      refine lv_iload hx hb dM_choose_40 (lv_at hl 5 rfl) ?_
      refine lv_aload_n hx hb dM_choose_42 rfl (lv_at hl 0 rfl) ?_
      refine bm_get (ci := 7) (v := .ref (m + 3)) (C := "BlindMintModel") (T := bt_M) (N := 22) hx hb hts bu_M hown hK hM hP.c0 rfl 5 (by decide) (hts _ bw_607) (fun _ h9 => h9) rfl dM_choose_43 ?_
      refine lv_iload_n hx hb dM_choose_46 rfl (lv_at hl 1 rfl) ?_
      refine bm_iald hx hb hK hM 0 hP.c3 rfl j (bm_ix_nI (by omega)) (by omega) dM_choose_47 ?_
      refine lv_topi (fun t9 e_t9 => ?_)
      have e_t9 : t9 = nI K := by rw [e_t9]; exact hkc
      subst e_t9
      refine lv_icmp_ge (tgt := 139) hx hb dM_choose_48 rfl (fun h48 => absurd h48 (nI_ge (by omega) (by omega))) (fun h48 => ?_)
      refine lv_bipush (v := 8) hx hb dM_choose_51 (by decide) ?_
      refine lv_iload_n hx hb dM_choose_53 rfl (lv_at hl 1 rfl) ?_
      refine lv_imul hx hb dM_choose_54 ?_
      refine lv_iload hx hb dM_choose_55 (lv_at hl 5 rfl) ?_
      refine lv_iadd hx hb dM_choose_57 ?_
      refine lv_topi (fun t10 e_t10 => ?_)
      have e_t10 : t10 = nI (8 * j + k) := by rw [e_t10]; show nI 8 * nI j + nI k = _; rw [pk_mul, nI_add]
      subst e_t10
      refine lv_istore hx hb dM_choose_58 hl (by decide) rfl (fun ls hl => ?_)
      have hl : lv_has ls 9 [(7, .int (nI (8 * j + k))), (0, .ref m), (1, .int (nI j)), (3, .int ((bm_cs f4 f7 j 2 k (0, w)).2)), (4, .int ((bm_cs f4 f7 j 2 k (0, w)).1)), (5, .int 2), (6, .int (nI k))] := hl
      refine lv_aload_n hx hb dM_choose_60 rfl (lv_at hl 1 rfl) ?_
      refine bm_get (ci := 7) (v := .ref (m + 4)) (C := "BlindMintModel") (T := bt_M) (N := 22) hx hb hts bu_M hown hK hM hP.c0 rfl 6 (by decide) (hts _ bw_608) (fun _ h9 => h9) rfl dM_choose_61 ?_
      refine lv_iload hx hb dM_choose_64 (lv_at hl 0 rfl) ?_
      refine bm_iald hx hb hK hM 0 hP.c4 rfl (8 * j + k) (bm_ix_nI (by omega)) (by omega) dM_choose_66 ?_
      refine lv_iload hx hb dM_choose_67 (lv_at hl 5 rfl) ?_
      refine lv_icmp_ne (tgt := 95) hx hb dM_choose_69 rfl (fun h69 => ?_) (fun h69 => ?_)
      · refine lv_iconst (v := 0) hx hb dM_choose_95 (by decide) ?_
        refine lv_istore hx hb dM_choose_96 hl (by decide) rfl (fun ls hl => ?_)
        have hl : lv_has ls 9 [(8, .int 0), (7, .int (nI (8 * j + k))), (0, .ref m), (1, .int (nI j)), (3, .int ((bm_cs f4 f7 j 2 k (0, w)).2)), (4, .int ((bm_cs f4 f7 j 2 k (0, w)).1)), (5, .int 2), (6, .int (nI k))] := hl
        refine lv_iload hx hb dM_choose_98 (lv_at hl 5 rfl) ?_
        refine lv_iload hx hb dM_choose_100 (lv_at hl 0 rfl) ?_
        refine lv_if_eq (tgt := 112) hx hb dM_choose_102 rfl (fun _ => ?_) (fun h => absurd h (by decide))
        refine lv_iconst (v := 0) hx hb dM_choose_112 (by decide) ?_
        refine lv_ior hx hb dM_choose_113 ?_
        refine lv_istore hx hb dM_choose_114 hl (by decide) rfl (fun ls hl => ?_)
        have hl : lv_has ls 9 [(4, .int (((bm_cs f4 f7 j 2 k (0, w)).1) ||| 0)), (8, .int 0), (7, .int (nI (8 * j + k))), (0, .ref m), (1, .int (nI j)), (3, .int ((bm_cs f4 f7 j 2 k (0, w)).2)), (5, .int 2), (6, .int (nI k))] := hl
        refine lv_iload_n hx hb dM_choose_116 rfl (lv_at hl 5 rfl) ?_
        refine lv_iload hx hb dM_choose_117 (lv_at hl 1 rfl) ?_
        refine lv_if_eq (tgt := 130) hx hb dM_choose_119 rfl (fun _ => ?_) (fun h => absurd h (by decide))
        refine lv_iconst (v := 0) hx hb dM_choose_130 (by decide) ?_
        refine lv_isub hx hb dM_choose_131 ?_
        refine lv_istore_n hx hb dM_choose_132 rfl hl (by decide) rfl (fun ls hl => ?_)
        have hl : lv_has ls 9 [(3, .int (((bm_cs f4 f7 j 2 k (0, w)).2) - 0)), (4, .int (((bm_cs f4 f7 j 2 k (0, w)).1) ||| 0)), (8, .int 0), (7, .int (nI (8 * j + k))), (0, .ref m), (1, .int (nI j)), (5, .int 2), (6, .int (nI k))] := hl
        have hl : lv_has ls 9 [(3, .int ((bm_cs f4 f7 j 2 (k + 1) (0, w)).2)), (4, .int ((bm_cs f4 f7 j 2 (k + 1) (0, w)).1)), (8, .int 0), (7, .int (nI (8 * j + k))), (0, .ref m), (1, .int (nI j)), (5, .int 2), (6, .int (nI k))] := by rw [show bm_cs f4 f7 j 2 (k + 1) (0, w) = _ from bm_cs_n (fun q => h69 q.1)]; exact hl
        refine lv_iinc (v := nI (k + 1)) (k := 7) hx hb dM_choose_133 hl rfl (bm_inc k) (by decide) rfl (fun ls hl => ?_)
        have hl : lv_has ls 9 [(6, .int (nI (k + 1))), (3, .int ((bm_cs f4 f7 j 2 (k + 1) (0, w)).2)), (4, .int ((bm_cs f4 f7 j 2 (k + 1) (0, w)).1)), (8, .int 0), (7, .int (nI (8 * j + k))), (0, .ref m), (1, .int (nI j)), (5, .int 2)] := hl
        refine lv_goto (tgt := 40) hx hb dM_choose_136 rfl ?_
        have hl : lv_has ls 9 [(0, .ref m), (1, .int (nI j)), (3, .int ((bm_cs f4 f7 j 2 (k + 1) (0, w)).2)), (4, .int ((bm_cs f4 f7 j 2 (k + 1) (0, w)).1)), (5, .int 2), (6, .int (nI (k + 1)))] := lv_sub hl [5, 6, 1, 2, 7, 0] rfl
        exact ih (k + 1) ls _ _ (by omega) hl hz hM hS
      · refine lv_aload_n hx hb dM_choose_72 rfl (lv_at hl 1 rfl) ?_
        refine bm_get (ci := 7) (v := .ref (m + 7)) (C := "BlindMintModel") (T := bt_M) (N := 22) hx hb hts bu_M hown hK hM hP.c0 rfl 9 (by decide) (hts _ bw_611) (fun _ h9 => h9) rfl dM_choose_73 ?_
        refine lv_iload hx hb dM_choose_76 (lv_at hl 0 rfl) ?_
        refine bm_zald hx hb hK hM 2 hP.c7 rfl (8 * j + k) (bm_ix_nI (by omega)) (by omega) dM_choose_78 ?_
        refine lv_if_ne (tgt := 95) hx hb dM_choose_79 rfl (fun h79 => ?_) (fun h79 => ?_)
        · refine lv_iconst (v := 0) hx hb dM_choose_95 (by decide) ?_
          refine lv_istore hx hb dM_choose_96 hl (by decide) rfl (fun ls hl => ?_)
          have hl : lv_has ls 9 [(8, .int 0), (7, .int (nI (8 * j + k))), (0, .ref m), (1, .int (nI j)), (3, .int ((bm_cs f4 f7 j 2 k (0, w)).2)), (4, .int ((bm_cs f4 f7 j 2 k (0, w)).1)), (5, .int 2), (6, .int (nI k))] := hl
          refine lv_iload hx hb dM_choose_98 (lv_at hl 5 rfl) ?_
          refine lv_iload hx hb dM_choose_100 (lv_at hl 0 rfl) ?_
          refine lv_if_eq (tgt := 112) hx hb dM_choose_102 rfl (fun _ => ?_) (fun h => absurd h (by decide))
          refine lv_iconst (v := 0) hx hb dM_choose_112 (by decide) ?_
          refine lv_ior hx hb dM_choose_113 ?_
          refine lv_istore hx hb dM_choose_114 hl (by decide) rfl (fun ls hl => ?_)
          have hl : lv_has ls 9 [(4, .int (((bm_cs f4 f7 j 2 k (0, w)).1) ||| 0)), (8, .int 0), (7, .int (nI (8 * j + k))), (0, .ref m), (1, .int (nI j)), (3, .int ((bm_cs f4 f7 j 2 k (0, w)).2)), (5, .int 2), (6, .int (nI k))] := hl
          refine lv_iload_n hx hb dM_choose_116 rfl (lv_at hl 5 rfl) ?_
          refine lv_iload hx hb dM_choose_117 (lv_at hl 1 rfl) ?_
          refine lv_if_eq (tgt := 130) hx hb dM_choose_119 rfl (fun _ => ?_) (fun h => absurd h (by decide))
          refine lv_iconst (v := 0) hx hb dM_choose_130 (by decide) ?_
          refine lv_isub hx hb dM_choose_131 ?_
          refine lv_istore_n hx hb dM_choose_132 rfl hl (by decide) rfl (fun ls hl => ?_)
          have hl : lv_has ls 9 [(3, .int (((bm_cs f4 f7 j 2 k (0, w)).2) - 0)), (4, .int (((bm_cs f4 f7 j 2 k (0, w)).1) ||| 0)), (8, .int 0), (7, .int (nI (8 * j + k))), (0, .ref m), (1, .int (nI j)), (5, .int 2), (6, .int (nI k))] := hl
          have hl : lv_has ls 9 [(3, .int ((bm_cs f4 f7 j 2 (k + 1) (0, w)).2)), (4, .int ((bm_cs f4 f7 j 2 (k + 1) (0, w)).1)), (8, .int 0), (7, .int (nI (8 * j + k))), (0, .ref m), (1, .int (nI j)), (5, .int 2), (6, .int (nI k))] := by rw [show bm_cs f4 f7 j 2 (k + 1) (0, w) = _ from bm_cs_n (fun q => h79 q.2.1)]; exact hl
          refine lv_iinc (v := nI (k + 1)) (k := 7) hx hb dM_choose_133 hl rfl (bm_inc k) (by decide) rfl (fun ls hl => ?_)
          have hl : lv_has ls 9 [(6, .int (nI (k + 1))), (3, .int ((bm_cs f4 f7 j 2 (k + 1) (0, w)).2)), (4, .int ((bm_cs f4 f7 j 2 (k + 1) (0, w)).1)), (8, .int 0), (7, .int (nI (8 * j + k))), (0, .ref m), (1, .int (nI j)), (5, .int 2)] := hl
          refine lv_goto (tgt := 40) hx hb dM_choose_136 rfl ?_
          have hl : lv_has ls 9 [(0, .ref m), (1, .int (nI j)), (3, .int ((bm_cs f4 f7 j 2 (k + 1) (0, w)).2)), (4, .int ((bm_cs f4 f7 j 2 (k + 1) (0, w)).1)), (5, .int 2), (6, .int (nI (k + 1)))] := lv_sub hl [5, 6, 1, 2, 7, 0] rfl
          exact ih (k + 1) ls _ _ (by omega) hl hz hM hS
        · refine lv_iload hx hb dM_choose_82 (lv_at hl 5 rfl) ?_
          refine bm_callE (va_runS (As := [.int 2]) (rest := []) ⟨hx, hb, hml, hown, hts⟩ (bc_M_worth2 l D ct base ad M1 sz) (va_cwS 1 hts (bm_goodS bw_686 bw_687 bw_5 bw_688) rfl rfl rfl (by decide +kernel) (by rw [← hR]; exact ⟨Nat.le_of_ble_eq_true rfl, Nat.le_of_ble_eq_true rfl⟩)) (bm_preS hM hG hS hz) rfl rfl hl.1 rfl (lv_room (Nat.le_of_ble_eq_true rfl)) dM_choose_84 (by rw [← hR]; exact ⟨Nat.le_of_ble_eq_true rfl, Nat.le_of_ble_eq_true rfl⟩)) hS (fun H locs hz hM hS => ?_)
          refine lv_iload_n hx hb dM_choose_87 rfl (lv_at hl 3 rfl) ?_
          refine lv_icmp_gt (tgt := 95) hx hb dM_choose_88 rfl (fun h88 => ?_) (fun h88 => ?_)
          · refine lv_iconst (v := 0) hx hb dM_choose_95 (by decide) ?_
            refine lv_istore hx hb dM_choose_96 hl (by decide) rfl (fun ls hl => ?_)
            have hl : lv_has ls 9 [(8, .int 0), (7, .int (nI (8 * j + k))), (0, .ref m), (1, .int (nI j)), (3, .int ((bm_cs f4 f7 j 2 k (0, w)).2)), (4, .int ((bm_cs f4 f7 j 2 k (0, w)).1)), (5, .int 2), (6, .int (nI k))] := hl
            refine lv_iload hx hb dM_choose_98 (lv_at hl 5 rfl) ?_
            refine lv_iload hx hb dM_choose_100 (lv_at hl 0 rfl) ?_
            refine lv_if_eq (tgt := 112) hx hb dM_choose_102 rfl (fun _ => ?_) (fun h => absurd h (by decide))
            refine lv_iconst (v := 0) hx hb dM_choose_112 (by decide) ?_
            refine lv_ior hx hb dM_choose_113 ?_
            refine lv_istore hx hb dM_choose_114 hl (by decide) rfl (fun ls hl => ?_)
            have hl : lv_has ls 9 [(4, .int (((bm_cs f4 f7 j 2 k (0, w)).1) ||| 0)), (8, .int 0), (7, .int (nI (8 * j + k))), (0, .ref m), (1, .int (nI j)), (3, .int ((bm_cs f4 f7 j 2 k (0, w)).2)), (5, .int 2), (6, .int (nI k))] := hl
            refine lv_iload_n hx hb dM_choose_116 rfl (lv_at hl 5 rfl) ?_
            refine lv_iload hx hb dM_choose_117 (lv_at hl 1 rfl) ?_
            refine lv_if_eq (tgt := 130) hx hb dM_choose_119 rfl (fun _ => ?_) (fun h => absurd h (by decide))
            refine lv_iconst (v := 0) hx hb dM_choose_130 (by decide) ?_
            refine lv_isub hx hb dM_choose_131 ?_
            refine lv_istore_n hx hb dM_choose_132 rfl hl (by decide) rfl (fun ls hl => ?_)
            have hl : lv_has ls 9 [(3, .int (((bm_cs f4 f7 j 2 k (0, w)).2) - 0)), (4, .int (((bm_cs f4 f7 j 2 k (0, w)).1) ||| 0)), (8, .int 0), (7, .int (nI (8 * j + k))), (0, .ref m), (1, .int (nI j)), (5, .int 2), (6, .int (nI k))] := hl
            have hl : lv_has ls 9 [(3, .int ((bm_cs f4 f7 j 2 (k + 1) (0, w)).2)), (4, .int ((bm_cs f4 f7 j 2 (k + 1) (0, w)).1)), (8, .int 0), (7, .int (nI (8 * j + k))), (0, .ref m), (1, .int (nI j)), (5, .int 2), (6, .int (nI k))] := by rw [show bm_cs f4 f7 j 2 (k + 1) (0, w) = _ from bm_cs_n (fun q => q.2.2 h88)]; exact hl
            refine lv_iinc (v := nI (k + 1)) (k := 7) hx hb dM_choose_133 hl rfl (bm_inc k) (by decide) rfl (fun ls hl => ?_)
            have hl : lv_has ls 9 [(6, .int (nI (k + 1))), (3, .int ((bm_cs f4 f7 j 2 (k + 1) (0, w)).2)), (4, .int ((bm_cs f4 f7 j 2 (k + 1) (0, w)).1)), (8, .int 0), (7, .int (nI (8 * j + k))), (0, .ref m), (1, .int (nI j)), (5, .int 2)] := hl
            refine lv_goto (tgt := 40) hx hb dM_choose_136 rfl ?_
            have hl : lv_has ls 9 [(0, .ref m), (1, .int (nI j)), (3, .int ((bm_cs f4 f7 j 2 (k + 1) (0, w)).2)), (4, .int ((bm_cs f4 f7 j 2 (k + 1) (0, w)).1)), (5, .int 2), (6, .int (nI (k + 1)))] := lv_sub hl [5, 6, 1, 2, 7, 0] rfl
            exact ih (k + 1) ls _ _ (by omega) hl hz hM hS
          · refine lv_iconst (v := 1) hx hb dM_choose_91 (by decide) ?_
            refine lv_goto (tgt := 96) hx hb dM_choose_92 rfl ?_
            refine lv_istore hx hb dM_choose_96 hl (by decide) rfl (fun ls hl => ?_)
            have hl : lv_has ls 9 [(8, .int 1), (7, .int (nI (8 * j + k))), (0, .ref m), (1, .int (nI j)), (3, .int ((bm_cs f4 f7 j 2 k (0, w)).2)), (4, .int ((bm_cs f4 f7 j 2 k (0, w)).1)), (5, .int 2), (6, .int (nI k))] := hl
            refine lv_iload hx hb dM_choose_98 (lv_at hl 5 rfl) ?_
            refine lv_iload hx hb dM_choose_100 (lv_at hl 0 rfl) ?_
            refine lv_if_eq (tgt := 112) hx hb dM_choose_102 rfl (fun h => absurd h (by decide)) (fun _ => ?_)
            refine lv_iconst (v := 1) hx hb dM_choose_105 (by decide) ?_
            refine lv_iload hx hb dM_choose_106 (lv_at hl 7 rfl) ?_
            refine lv_ishl hx hb dM_choose_108 ?_
            refine lv_goto (tgt := 113) hx hb dM_choose_109 rfl ?_
            refine lv_ior hx hb dM_choose_113 ?_
            refine lv_istore hx hb dM_choose_114 hl (by decide) rfl (fun ls hl => ?_)
            have hl : lv_has ls 9 [(4, .int (((bm_cs f4 f7 j 2 k (0, w)).1) ||| (1 <<< ((nI k) &&& 31)))), (8, .int 1), (7, .int (nI (8 * j + k))), (0, .ref m), (1, .int (nI j)), (3, .int ((bm_cs f4 f7 j 2 k (0, w)).2)), (5, .int 2), (6, .int (nI k))] := hl
            refine lv_iload_n hx hb dM_choose_116 rfl (lv_at hl 5 rfl) ?_
            refine lv_iload hx hb dM_choose_117 (lv_at hl 1 rfl) ?_
            refine lv_if_eq (tgt := 130) hx hb dM_choose_119 rfl (fun h => absurd h (by decide)) (fun _ => ?_)
            refine lv_iload hx hb dM_choose_122 (lv_at hl 6 rfl) ?_
            refine bm_callE (va_runS (As := [.int 2]) (rest := [.int ((bm_cs f4 f7 j 2 k (0, w)).2)]) ⟨hx, hb, hml, hown, hts⟩ (bc_M_worth2 l D ct base ad M1 sz) (va_cwS 1 hts (bm_goodS bw_686 bw_687 bw_5 bw_688) rfl rfl rfl (by decide +kernel) (by rw [← hR]; exact ⟨Nat.le_of_ble_eq_true rfl, Nat.le_of_ble_eq_true rfl⟩)) (bm_preS hM hG hS hz) rfl rfl hl.1 rfl (lv_room (Nat.le_of_ble_eq_true rfl)) dM_choose_124 (by rw [← hR]; exact ⟨Nat.le_of_ble_eq_true rfl, Nat.le_of_ble_eq_true rfl⟩)) hS (fun H locs hz hM hS => ?_)
            refine lv_goto (tgt := 131) hx hb dM_choose_127 rfl ?_
            refine lv_isub hx hb dM_choose_131 ?_
            refine lv_istore_n hx hb dM_choose_132 rfl hl (by decide) rfl (fun ls hl => ?_)
            have hl : lv_has ls 9 [(3, .int (((bm_cs f4 f7 j 2 k (0, w)).2) - (bm_w 2))), (4, .int (((bm_cs f4 f7 j 2 k (0, w)).1) ||| (1 <<< ((nI k) &&& 31)))), (8, .int 1), (7, .int (nI (8 * j + k))), (0, .ref m), (1, .int (nI j)), (5, .int 2), (6, .int (nI k))] := hl
            have hl : lv_has ls 9 [(3, .int ((bm_cs f4 f7 j 2 (k + 1) (0, w)).2)), (4, .int ((bm_cs f4 f7 j 2 (k + 1) (0, w)).1)), (8, .int 1), (7, .int (nI (8 * j + k))), (0, .ref m), (1, .int (nI j)), (5, .int 2), (6, .int (nI k))] := by rw [show bm_cs f4 f7 j 2 (k + 1) (0, w) = _ from bm_cs_y h69 h79 h88]; exact hl
            refine lv_iinc (v := nI (k + 1)) (k := 7) hx hb dM_choose_133 hl rfl (bm_inc k) (by decide) rfl (fun ls hl => ?_)
            have hl : lv_has ls 9 [(6, .int (nI (k + 1))), (3, .int ((bm_cs f4 f7 j 2 (k + 1) (0, w)).2)), (4, .int ((bm_cs f4 f7 j 2 (k + 1) (0, w)).1)), (8, .int 1), (7, .int (nI (8 * j + k))), (0, .ref m), (1, .int (nI j)), (5, .int 2)] := hl
            refine lv_goto (tgt := 40) hx hb dM_choose_136 rfl ?_
            have hl : lv_has ls 9 [(0, .ref m), (1, .int (nI j)), (3, .int ((bm_cs f4 f7 j 2 (k + 1) (0, w)).2)), (4, .int ((bm_cs f4 f7 j 2 (k + 1) (0, w)).1)), (5, .int 2), (6, .int (nI (k + 1)))] := lv_sub hl [5, 6, 1, 2, 7, 0] rfl
            exact ih (k + 1) ls _ _ (by omega) hl hz hM hS
  exact loop K 0 ls _ _ (by omega) hl hz hM hS
set_option maxHeartbeats 4000000 in
set_option maxRecDepth 100000 in
theorem bc_M_spend_n1 (l : Launch) (D : va_G) (ct : Nat → ClassId) (base : Nat) (ad : Nat → Nat) (M : bm_Map) (sz : Nat) (m : Nat) (th : Int32) (tr : Int32) (bl : Int64) (np : Int32) (nd : Int32) (f1 : Nat → Int32) (f2 : Nat → Int32) (f3 : Nat → Int32) (f4 : Nat → Int32) (g5 : Nat → Int64) (g6 : Nat → Int64) (f7 : Nat → Int32) (g8 : Nat → Int64) (g9 : Nat → Int64) (g10 : Nat → Int64) (g11 : Nat → Int64) (g12 : Nat → Int64) (g13 : Nat → Int64) (g14 : Nat → Int64) (g15 : Nat → Int64) (f16 : Nat → Int32) (g17 : Nat → Int64) (v w : Int32) (mer non : Int32) (hP : bm_MD ct m th tr bl np nd f1 f2 f3 f4 g5 g6 f7 g8 g9 g10 g11 g12 g13 g14 g15 f16 g17 M) (hv : bm_bl v 4 = 0) : Met l yM_spend (bm_ws yM_spend cM_spend 14 (some .int)) { frames := 2, cells := 0, slots := 0, locals := 50 } (bm_Pre D ct base ad M sz [.ref m, .int v, .int w, .int mer, .int non]) (bm_Post D base (bm_Pm m M sz (fun v M1 => v = some (.int 0) ∧ bm_MD ct m 1 tr bl np nd f1 f2 f3 f4 g5 g6 f7 g8 g9 g10 g11 g12 g13 g14 g15 f16 g17 M1))) 0 0 (bm_A base) := by
  refine bm_ofB (cc := cM_spend) (maxL := 14) (ret := (some .int)) (by decide +kernel) (Nat.le_of_ble_eq_true rfl) ?_
  intro vp ve s vm args below meth vc hx hb hr hlk hts hown hml hnm ls hl hz hM hG R Q hR hQ
  have hown : s.vm.findClass "BlindMintModel" = some vm.cls := hown
  have hK := hG.K
  have hS : va_S (bm_A base) s.heap s.heap [] := va_S.rf
  have hl : lv_has ls 14 [(0, .ref m), (1, .int v), (2, .int w), (3, .int mer), (4, .int non)] := hl
  have hF : bm_fr m M M := bm_fr.rf
  refine lv_aload_n hx hb dM_spend_0 rfl (lv_at hl 0 rfl) ?_
  refine lv_iconst (v := 0) hx hb dM_spend_1 (by decide) ?_
  refine bm_put (ci := 7) (v := .int 0) (ty := .int) (C := "BlindMintModel") (T := bt_M) (N := 22) hx hb hts bu_M by_M bo_M bn_M hown hK hM hS hP.c0 rfl 0 (by decide) (hts _ bw_602) (fun _ h9 => h9) rfl (by decide +kernel) rfl rfl (Nat.le_of_ble_eq_true rfl) dM_spend_2 (fun H locs hz1 hM hS => ?_)
  have hz := hz1.trans hz
  obtain ⟨M1, hM, hP, hF⟩ : ∃ X, bm_M D base X H ∧ bm_MD ct m 0 tr bl np nd f1 f2 f3 f4 g5 g6 f7 g8 g9 g10 g11 g12 g13 g14 g15 f16 g17 X ∧ bm_fr m M X := ⟨_, hM, hP.s_th _, hF.up0⟩
  refine lv_aload_n hx hb dM_spend_5 rfl (lv_at hl 0 rfl) ?_
  refine lv_iload_n hx hb dM_spend_6 rfl (lv_at hl 1 rfl) ?_
  refine lv_iload_n hx hb dM_spend_7 rfl (lv_at hl 2 rfl) ?_
  refine bm_call (va_runV (As := [.int v, .int w]) (rest := []) ⟨hx, hb, hml, hown, hts⟩ (bc_M_noCoin_n1 l D ct base ad M1 sz m 0 tr bl np nd f1 f2 f3 f4 g5 g6 f7 g8 g9 g10 g11 g12 g13 g14 g15 f16 g17 v w hP hv) (cwV 2 hts (bm_goodV bw_757 bw_759 bs_15 bw_5 bw_760) rfl rfl rfl (by decide +kernel) (by rw [← hR]; exact ⟨Nat.le_of_ble_eq_true rfl, Nat.le_of_ble_eq_true rfl⟩)) (bm_preV hM hG hS hz hP.c0 rfl) rfl rfl hl.1 rfl (lv_room (Nat.le_of_ble_eq_true rfl)) dM_spend_8 (by rw [← hR]; exact ⟨Nat.le_of_ble_eq_true rfl, Nat.le_of_ble_eq_true rfl⟩)) hS (fun v9 M2 H locs hq hM hS _ => ?_)
  obtain ⟨hz, ⟨rfl, hP⟩, hF9⟩ := hq
  have hF := hF.tr hF9
  refine lv_if_eq (tgt := 20) hx hb dM_spend_11 rfl (fun h => absurd h (by decide)) (fun _ => ?_)
  refine lv_aload_n hx hb dM_spend_14 rfl (lv_at hl 0 rfl) ?_
  refine lv_iconst (v := 1) hx hb dM_spend_15 (by decide) ?_
  refine bm_call (va_runV (As := [.int 1]) (rest := []) ⟨hx, hb, hml, hown, hts⟩ (bc_M_fail l D ct base ad M2 sz m 0 tr bl np nd f1 f2 f3 f4 g5 g6 f7 g8 g9 g10 g11 g12 g13 g14 g15 f16 g17 1 hP) (cwV 1 hts (bm_goodV bw_682 bw_684 bs_10 bw_5 bw_685) rfl rfl rfl (by decide +kernel) (by rw [← hR]; exact ⟨Nat.le_of_ble_eq_true rfl, Nat.le_of_ble_eq_true rfl⟩)) (bm_preV hM hG hS hz hP.c0 rfl) rfl rfl hl.1 rfl (lv_room (Nat.le_of_ble_eq_true rfl)) dM_spend_16 (by rw [← hR]; exact ⟨Nat.le_of_ble_eq_true rfl, Nat.le_of_ble_eq_true rfl⟩)) hS (fun v9 M3 H locs hq hM hS _ => ?_)
  obtain ⟨hz, ⟨rfl, hP⟩, hF9⟩ := hq
  have hF := hF.tr hF9
  exact bm_iret hQ hx hb hr hlk hM hS ⟨hz, ⟨rfl, hP⟩, hF⟩ (Nat.le_refl _) (Nat.le_refl _) dM_spend_19
set_option maxHeartbeats 4000000 in
set_option maxRecDepth 100000 in
theorem bc_M_spend_n2 (l : Launch) (D : va_G) (ct : Nat → ClassId) (base : Nat) (ad : Nat → Nat) (M : bm_Map) (sz : Nat) (m : Nat) (th : Int32) (tr : Int32) (bl : Int64) (np : Int32) (nd : Int32) (f1 : Nat → Int32) (f2 : Nat → Int32) (f3 : Nat → Int32) (f4 : Nat → Int32) (g5 : Nat → Int64) (g6 : Nat → Int64) (f7 : Nat → Int32) (g8 : Nat → Int64) (g9 : Nat → Int64) (g10 : Nat → Int64) (g11 : Nat → Int64) (g12 : Nat → Int64) (g13 : Nat → Int64) (g14 : Nat → Int64) (g15 : Nat → Int64) (f16 : Nat → Int32) (g17 : Nat → Int64) (j : Nat) (w : Int32) (mer non : Int32) (hP : bm_MD ct m th tr bl np nd f1 f2 f3 f4 g5 g6 f7 g8 g9 g10 g11 g12 g13 g14 g15 f16 g17 M) (hj : j < 4) (hw : bm_bl w (f3 j) = 0) : Met l yM_spend (bm_ws yM_spend cM_spend 14 (some .int)) { frames := 2, cells := 0, slots := 0, locals := 50 } (bm_Pre D ct base ad M sz [.ref m, .int (nI j), .int w, .int mer, .int non]) (bm_Post D base (bm_Pm m M sz (fun v M1 => v = some (.int 0) ∧ bm_MD ct m 1 tr bl np nd f1 f2 f3 f4 g5 g6 f7 g8 g9 g10 g11 g12 g13 g14 g15 f16 g17 M1))) 0 0 (bm_A base) := by
  refine bm_ofB (cc := cM_spend) (maxL := 14) (ret := (some .int)) (by decide +kernel) (Nat.le_of_ble_eq_true rfl) ?_
  intro vp ve s vm args below meth vc hx hb hr hlk hts hown hml hnm ls hl hz hM hG R Q hR hQ
  have hown : s.vm.findClass "BlindMintModel" = some vm.cls := hown
  have hK := hG.K
  have hS : va_S (bm_A base) s.heap s.heap [] := va_S.rf
  have hl : lv_has ls 14 [(0, .ref m), (1, .int (nI j)), (2, .int w), (3, .int mer), (4, .int non)] := hl
  have hF : bm_fr m M M := bm_fr.rf
  refine lv_aload_n hx hb dM_spend_0 rfl (lv_at hl 0 rfl) ?_
  refine lv_iconst (v := 0) hx hb dM_spend_1 (by decide) ?_
  refine bm_put (ci := 7) (v := .int 0) (ty := .int) (C := "BlindMintModel") (T := bt_M) (N := 22) hx hb hts bu_M by_M bo_M bn_M hown hK hM hS hP.c0 rfl 0 (by decide) (hts _ bw_602) (fun _ h9 => h9) rfl (by decide +kernel) rfl rfl (Nat.le_of_ble_eq_true rfl) dM_spend_2 (fun H locs hz1 hM hS => ?_)
  have hz := hz1.trans hz
  obtain ⟨M1, hM, hP, hF⟩ : ∃ X, bm_M D base X H ∧ bm_MD ct m 0 tr bl np nd f1 f2 f3 f4 g5 g6 f7 g8 g9 g10 g11 g12 g13 g14 g15 f16 g17 X ∧ bm_fr m M X := ⟨_, hM, hP.s_th _, hF.up0⟩
  refine lv_aload_n hx hb dM_spend_5 rfl (lv_at hl 0 rfl) ?_
  refine lv_iload_n hx hb dM_spend_6 rfl (lv_at hl 1 rfl) ?_
  refine lv_iload_n hx hb dM_spend_7 rfl (lv_at hl 2 rfl) ?_
  refine bm_call (va_runV (As := [.int (nI j), .int w]) (rest := []) ⟨hx, hb, hml, hown, hts⟩ (bc_M_noCoin_n2 l D ct base ad M1 sz m 0 tr bl np nd f1 f2 f3 f4 g5 g6 f7 g8 g9 g10 g11 g12 g13 g14 g15 f16 g17 j w hP hj hw) (cwV 2 hts (bm_goodV bw_757 bw_759 bs_15 bw_5 bw_760) rfl rfl rfl (by decide +kernel) (by rw [← hR]; exact ⟨Nat.le_of_ble_eq_true rfl, Nat.le_of_ble_eq_true rfl⟩)) (bm_preV hM hG hS hz hP.c0 rfl) rfl rfl hl.1 rfl (lv_room (Nat.le_of_ble_eq_true rfl)) dM_spend_8 (by rw [← hR]; exact ⟨Nat.le_of_ble_eq_true rfl, Nat.le_of_ble_eq_true rfl⟩)) hS (fun v9 M2 H locs hq hM hS _ => ?_)
  obtain ⟨hz, ⟨rfl, hP⟩, hF9⟩ := hq
  have hF := hF.tr hF9
  refine lv_if_eq (tgt := 20) hx hb dM_spend_11 rfl (fun h => absurd h (by decide)) (fun _ => ?_)
  refine lv_aload_n hx hb dM_spend_14 rfl (lv_at hl 0 rfl) ?_
  refine lv_iconst (v := 1) hx hb dM_spend_15 (by decide) ?_
  refine bm_call (va_runV (As := [.int 1]) (rest := []) ⟨hx, hb, hml, hown, hts⟩ (bc_M_fail l D ct base ad M2 sz m 0 tr bl np nd f1 f2 f3 f4 g5 g6 f7 g8 g9 g10 g11 g12 g13 g14 g15 f16 g17 1 hP) (cwV 1 hts (bm_goodV bw_682 bw_684 bs_10 bw_5 bw_685) rfl rfl rfl (by decide +kernel) (by rw [← hR]; exact ⟨Nat.le_of_ble_eq_true rfl, Nat.le_of_ble_eq_true rfl⟩)) (bm_preV hM hG hS hz hP.c0 rfl) rfl rfl hl.1 rfl (lv_room (Nat.le_of_ble_eq_true rfl)) dM_spend_16 (by rw [← hR]; exact ⟨Nat.le_of_ble_eq_true rfl, Nat.le_of_ble_eq_true rfl⟩)) hS (fun v9 M3 H locs hq hM hS _ => ?_)
  obtain ⟨hz, ⟨rfl, hP⟩, hF9⟩ := hq
  have hF := hF.tr hF9
  exact bm_iret hQ hx hb hr hlk hM hS ⟨hz, ⟨rfl, hP⟩, hF⟩ (Nat.le_refl _) (Nat.le_refl _) dM_spend_19
set_option maxHeartbeats 4000000 in
set_option maxRecDepth 100000 in
theorem bc_M_spend_q (l : Launch) (D : va_G) (ct : Nat → ClassId) (base : Nat) (ad : Nat → Nat) (M : bm_Map) (sz : Nat) (m : Nat) (th : Int32) (tr : Int32) (bl : Int64) (np : Int32) (nd : Int32) (f1 : Nat → Int32) (f2 : Nat → Int32) (f3 : Nat → Int32) (f4 : Nat → Int32) (g5 : Nat → Int64) (g6 : Nat → Int64) (f7 : Nat → Int32) (g8 : Nat → Int64) (g9 : Nat → Int64) (g10 : Nat → Int64) (g11 : Nat → Int64) (g12 : Nat → Int64) (g13 : Nat → Int64) (g14 : Nat → Int64) (g15 : Nat → Int64) (f16 : Nat → Int32) (g17 : Nat → Int64) (j k : Nat) (mer non : Int32) (hP : bm_MD ct m th tr bl np nd f1 f2 f3 f4 g5 g6 f7 g8 g9 g10 g11 g12 g13 g14 g15 f16 g17 M) (hj : j < 4) (hi : k < 8) (hw : bm_bl (nI k) (f3 j) = 1) (hnp : np = 20) : Met l yM_spend (bm_ws yM_spend cM_spend 14 (some .int)) { frames := 2, cells := 0, slots := 0, locals := 50 } (bm_Pre D ct base ad M sz [.ref m, .int (nI j), .int (nI k), .int mer, .int non]) (bm_Post D base (bm_Pm m M sz (fun v M1 => v = some (.int 0) ∧ bm_MD ct m 2 tr bl np nd f1 f2 f3 f4 g5 g6 f7 g8 g9 g10 g11 g12 g13 g14 g15 f16 g17 M1))) 0 0 (bm_A base) := by
  refine bm_ofB (cc := cM_spend) (maxL := 14) (ret := (some .int)) (by decide +kernel) (Nat.le_of_ble_eq_true rfl) ?_
  intro vp ve s vm args below meth vc hx hb hr hlk hts hown hml hnm ls hl hz hM hG R Q hR hQ
  have hown : s.vm.findClass "BlindMintModel" = some vm.cls := hown
  have hK := hG.K
  have hS : va_S (bm_A base) s.heap s.heap [] := va_S.rf
  have hl : lv_has ls 14 [(0, .ref m), (1, .int (nI j)), (2, .int (nI k)), (3, .int mer), (4, .int non)] := hl
  have hF : bm_fr m M M := bm_fr.rf
  refine lv_aload_n hx hb dM_spend_0 rfl (lv_at hl 0 rfl) ?_
  refine lv_iconst (v := 0) hx hb dM_spend_1 (by decide) ?_
  refine bm_put (ci := 7) (v := .int 0) (ty := .int) (C := "BlindMintModel") (T := bt_M) (N := 22) hx hb hts bu_M by_M bo_M bn_M hown hK hM hS hP.c0 rfl 0 (by decide) (hts _ bw_602) (fun _ h9 => h9) rfl (by decide +kernel) rfl rfl (Nat.le_of_ble_eq_true rfl) dM_spend_2 (fun H locs hz1 hM hS => ?_)
  have hz := hz1.trans hz
  obtain ⟨M1, hM, hP, hF⟩ : ∃ X, bm_M D base X H ∧ bm_MD ct m 0 tr bl np nd f1 f2 f3 f4 g5 g6 f7 g8 g9 g10 g11 g12 g13 g14 g15 f16 g17 X ∧ bm_fr m M X := ⟨_, hM, hP.s_th _, hF.up0⟩
  refine lv_aload_n hx hb dM_spend_5 rfl (lv_at hl 0 rfl) ?_
  refine lv_iload_n hx hb dM_spend_6 rfl (lv_at hl 1 rfl) ?_
  refine lv_iload_n hx hb dM_spend_7 rfl (lv_at hl 2 rfl) ?_
  refine bm_call (va_runV (As := [.int (nI j), .int (nI k)]) (rest := []) ⟨hx, hb, hml, hown, hts⟩ (bc_M_noCoin_ok l D ct base ad M1 sz m 0 tr bl np nd f1 f2 f3 f4 g5 g6 f7 g8 g9 g10 g11 g12 g13 g14 g15 f16 g17 j k hP hj hi hw) (cwV 2 hts (bm_goodV bw_757 bw_759 bs_15 bw_5 bw_760) rfl rfl rfl (by decide +kernel) (by rw [← hR]; exact ⟨Nat.le_of_ble_eq_true rfl, Nat.le_of_ble_eq_true rfl⟩)) (bm_preV hM hG hS hz hP.c0 rfl) rfl rfl hl.1 rfl (lv_room (Nat.le_of_ble_eq_true rfl)) dM_spend_8 (by rw [← hR]; exact ⟨Nat.le_of_ble_eq_true rfl, Nat.le_of_ble_eq_true rfl⟩)) hS (fun v9 M2 H locs hq hM hS _ => ?_)
  obtain ⟨hz, ⟨rfl, hP⟩, hF9⟩ := hq
  have hF := hF.tr hF9
  refine lv_if_eq (tgt := 20) hx hb dM_spend_11 rfl (fun _ => ?_) (fun h => absurd h (by decide))
  refine lv_aload_n hx hb dM_spend_20 rfl (lv_at hl 0 rfl) ?_
  refine bm_get (ci := 7) (v := .int np) (C := "BlindMintModel") (T := bt_M) (N := 22) hx hb hts bu_M hown hK hM hP.c0 rfl 11 (by decide) (hts _ bw_613) (fun _ h9 => h9) rfl dM_spend_21 ?_
  refine lv_bipush (v := 20) hx hb dM_spend_24 (by decide) ?_
  refine lv_icmp_ne (tgt := 35) hx hb dM_spend_26 rfl (fun h26 => absurd hnp h26) (fun h26 => ?_)
  refine lv_aload_n hx hb dM_spend_29 rfl (lv_at hl 0 rfl) ?_
  refine lv_iconst (v := 2) hx hb dM_spend_30 (by decide) ?_
  refine bm_call (va_runV (As := [.int 2]) (rest := []) ⟨hx, hb, hml, hown, hts⟩ (bc_M_fail l D ct base ad M2 sz m 0 tr bl np nd f1 f2 f3 f4 g5 g6 f7 g8 g9 g10 g11 g12 g13 g14 g15 f16 g17 2 hP) (cwV 1 hts (bm_goodV bw_682 bw_684 bs_10 bw_5 bw_685) rfl rfl rfl (by decide +kernel) (by rw [← hR]; exact ⟨Nat.le_of_ble_eq_true rfl, Nat.le_of_ble_eq_true rfl⟩)) (bm_preV hM hG hS hz hP.c0 rfl) rfl rfl hl.1 rfl (lv_room (Nat.le_of_ble_eq_true rfl)) dM_spend_31 (by rw [← hR]; exact ⟨Nat.le_of_ble_eq_true rfl, Nat.le_of_ble_eq_true rfl⟩)) hS (fun v9 M3 H locs hq hM hS _ => ?_)
  obtain ⟨hz, ⟨rfl, hP⟩, hF9⟩ := hq
  have hF := hF.tr hF9
  exact bm_iret hQ hx hb hr hlk hM hS ⟨hz, ⟨rfl, hP⟩, hF⟩ (Nat.le_refl _) (Nat.le_refl _) dM_spend_34
set_option maxHeartbeats 4000000 in
set_option maxRecDepth 100000 in
theorem bc_M_spend_ok (l : Launch) (D : va_G) (ct : Nat → ClassId) (base : Nat) (ad : Nat → Nat) (M : bm_Map) (sz : Nat) (m : Nat) (th : Int32) (tr : Int32) (bl : Int64) (np : Int32) (nd : Int32) (f1 : Nat → Int32) (f2 : Nat → Int32) (f3 : Nat → Int32) (f4 : Nat → Int32) (g5 : Nat → Int64) (g6 : Nat → Int64) (f7 : Nat → Int32) (g8 : Nat → Int64) (g9 : Nat → Int64) (g10 : Nat → Int64) (g11 : Nat → Int64) (g12 : Nat → Int64) (g13 : Nat → Int64) (g14 : Nat → Int64) (g15 : Nat → Int64) (f16 : Nat → Int32) (g17 : Nat → Int64) (j k : Nat) (mer non : Int32) (p : Nat) (hP : bm_MD ct m th tr bl np nd f1 f2 f3 f4 g5 g6 f7 g8 g9 g10 g11 g12 g13 g14 g15 f16 g17 M) (hj : j < 4) (hi : k < 8) (hw : bm_bl (nI k) (f3 j) = 1) (hnp : np = nI p) (hp20 : p < 20) : Met l yM_spend (bm_ws yM_spend cM_spend 14 (some .int)) { frames := 2, cells := 0, slots := 0, locals := 50 } (bm_Pre D ct base ad M sz [.ref m, .int (nI j), .int (nI k), .int mer, .int non]) (bm_Post D base (bm_Pm m M sz (fun v M1 => v = some (.int (nI p)) ∧ bm_MD ct m 0 tr bl (np + 1) nd f1 f2 f3 f4 g5 g6 (upd f7 (8 * j + k) (vp_nar .boolean 1)) g8 (bm_sr g8 (8 * j + k) p (bm_h3 mer.toInt64 non.toInt64 (g6 (8 * j + k))) (bm_s0 g9 p (f4 (8 * j + k)).toInt64 (g6 (8 * j + k)) mer.toInt64 non.toInt64) 4) g10 g11 g12 g13 g14 g15 f16 g17 M1))) 0 0 (bm_A base) := by
  refine bm_ofB (cc := cM_spend) (maxL := 14) (ret := (some .int)) (by decide +kernel) (Nat.le_of_ble_eq_true rfl) ?_
  intro vp ve s vm args below meth vc hx hb hr hlk hts hown hml hnm ls hl hz hM hG R Q hR hQ
  have hown : s.vm.findClass "BlindMintModel" = some vm.cls := hown
  have hK := hG.K
  have hS : va_S (bm_A base) s.heap s.heap [] := va_S.rf
  have hl : lv_has ls 14 [(0, .ref m), (1, .int (nI j)), (2, .int (nI k)), (3, .int mer), (4, .int non)] := hl
  have hF : bm_fr m M M := bm_fr.rf
  refine lv_aload_n hx hb dM_spend_0 rfl (lv_at hl 0 rfl) ?_
  refine lv_iconst (v := 0) hx hb dM_spend_1 (by decide) ?_
  refine bm_put (ci := 7) (v := .int 0) (ty := .int) (C := "BlindMintModel") (T := bt_M) (N := 22) hx hb hts bu_M by_M bo_M bn_M hown hK hM hS hP.c0 rfl 0 (by decide) (hts _ bw_602) (fun _ h9 => h9) rfl (by decide +kernel) rfl rfl (Nat.le_of_ble_eq_true rfl) dM_spend_2 (fun H locs hz1 hM hS => ?_)
  have hz := hz1.trans hz
  obtain ⟨M1, hM, hP, hF⟩ : ∃ X, bm_M D base X H ∧ bm_MD ct m 0 tr bl np nd f1 f2 f3 f4 g5 g6 f7 g8 g9 g10 g11 g12 g13 g14 g15 f16 g17 X ∧ bm_fr m M X := ⟨_, hM, hP.s_th _, hF.up0⟩
  refine lv_aload_n hx hb dM_spend_5 rfl (lv_at hl 0 rfl) ?_
  refine lv_iload_n hx hb dM_spend_6 rfl (lv_at hl 1 rfl) ?_
  refine lv_iload_n hx hb dM_spend_7 rfl (lv_at hl 2 rfl) ?_
  refine bm_call (va_runV (As := [.int (nI j), .int (nI k)]) (rest := []) ⟨hx, hb, hml, hown, hts⟩ (bc_M_noCoin_ok l D ct base ad M1 sz m 0 tr bl np nd f1 f2 f3 f4 g5 g6 f7 g8 g9 g10 g11 g12 g13 g14 g15 f16 g17 j k hP hj hi hw) (cwV 2 hts (bm_goodV bw_757 bw_759 bs_15 bw_5 bw_760) rfl rfl rfl (by decide +kernel) (by rw [← hR]; exact ⟨Nat.le_of_ble_eq_true rfl, Nat.le_of_ble_eq_true rfl⟩)) (bm_preV hM hG hS hz hP.c0 rfl) rfl rfl hl.1 rfl (lv_room (Nat.le_of_ble_eq_true rfl)) dM_spend_8 (by rw [← hR]; exact ⟨Nat.le_of_ble_eq_true rfl, Nat.le_of_ble_eq_true rfl⟩)) hS (fun v9 M2 H locs hq hM hS _ => ?_)
  obtain ⟨hz, ⟨rfl, hP⟩, hF9⟩ := hq
  have hF := hF.tr hF9
  refine lv_if_eq (tgt := 20) hx hb dM_spend_11 rfl (fun _ => ?_) (fun h => absurd h (by decide))
  refine lv_aload_n hx hb dM_spend_20 rfl (lv_at hl 0 rfl) ?_
  refine bm_get (ci := 7) (v := .int np) (C := "BlindMintModel") (T := bt_M) (N := 22) hx hb hts bu_M hown hK hM hP.c0 rfl 11 (by decide) (hts _ bw_613) (fun _ h9 => h9) rfl dM_spend_21 ?_
  refine lv_bipush (v := 20) hx hb dM_spend_24 (by decide) ?_
  -- payments
  refine lv_icmp_ne (tgt := 35) hx hb dM_spend_26 rfl (fun h26 => ?_) (fun h26 => absurd h26 (by rw [hnp]; intro z; exact absurd ((nI_eq (b := 20) (by omega) (by decide)).mp z) (by omega)))
  refine lv_bipush (v := 8) hx hb dM_spend_35 (by decide) ?_
  refine lv_iload_n hx hb dM_spend_37 rfl (lv_at hl 1 rfl) ?_
  refine lv_imul hx hb dM_spend_38 ?_
  refine lv_iload_n hx hb dM_spend_39 rfl (lv_at hl 2 rfl) ?_
  refine lv_iadd hx hb dM_spend_40 ?_
  refine lv_topi (fun t3 e_t3 => ?_)
  have e_t3 : t3 = nI (8 * j + k) := by rw [e_t3]; show nI 8 * nI j + nI k = _; rw [pk_mul, nI_add]
  subst e_t3
  refine lv_istore hx hb dM_spend_41 hl (by decide) rfl (fun ls hl => ?_)
  have hl : lv_has ls 14 [(5, .int (nI (8 * j + k))), (0, .ref m), (1, .int (nI j)), (2, .int (nI k)), (3, .int mer), (4, .int non)] := hl
  refine lv_bipush (v := 16) hx hb dM_spend_43 (by decide) ?_
  refine lv_aload_n hx hb dM_spend_45 rfl (lv_at hl 1 rfl) ?_
  refine bm_get (ci := 7) (v := .int np) (C := "BlindMintModel") (T := bt_M) (N := 22) hx hb hts bu_M hown hK hM hP.c0 rfl 11 (by decide) (hts _ bw_613) (fun _ h9 => h9) rfl dM_spend_46 ?_
  refine lv_topi (fun t4 e_t4 => ?_)
  have e_t4 : t4 = nI p := by rw [e_t4]; exact hnp
  subst e_t4
  refine lv_imul hx hb dM_spend_49 ?_
  refine lv_topi (fun t5 e_t5 => ?_)
  have e_t5 : t5 = nI (16 * p) := by rw [e_t5]; exact pk_mul 16 p
  subst e_t5
  refine lv_istore hx hb dM_spend_50 hl (by decide) rfl (fun ls hl => ?_)
  have hl : lv_has ls 14 [(6, .int (nI (16 * p))), (5, .int (nI (8 * j + k))), (0, .ref m), (1, .int (nI j)), (2, .int (nI k)), (3, .int mer), (4, .int non)] := hl
  refine lv_iload_n hx hb dM_spend_52 rfl (lv_at hl 5 rfl) ?_
  refine lv_i2l hx hb dM_spend_53 rfl ?_
  refine lv_iload hx hb dM_spend_54 (lv_at hl 6 rfl) ?_
  refine lv_i2l hx hb dM_spend_56 rfl ?_
  refine lv_aload_n hx hb dM_spend_57 rfl (lv_at hl 2 rfl) ?_
  refine bm_get (ci := 7) (v := .ref (m + 6)) (C := "BlindMintModel") (T := bt_M) (N := 22) hx hb hts bu_M hown hK hM hP.c0 rfl 8 (by decide) (hts _ bw_610) (fun _ h9 => h9) rfl dM_spend_58 ?_
  refine lv_iload hx hb dM_spend_61 (lv_at hl 1 rfl) ?_
  refine bm_lald hx hb hK hM 1 hP.c6 rfl (8 * j + k) (bm_ix_nI (by omega)) (by omega) dM_spend_63 ?_
  refine bm_callE (va_runS (As := [.long mer.toInt64, .long non.toInt64, .long (g6 (8 * j + k))]) (rest := []) ⟨hx, hb, hml, hown, hts⟩ (bc_M_hash3 l D ct base ad M2 sz mer.toInt64 non.toInt64 (g6 (8 * j + k))) (va_cwS 3 hts (bm_goodS bw_761 bw_762 bw_5 bw_763) rfl rfl rfl (by decide +kernel) (by rw [← hR]; exact ⟨Nat.le_of_ble_eq_true rfl, Nat.le_of_ble_eq_true rfl⟩)) (bm_preS hM hG hS hz) rfl rfl hl.1 rfl (lv_room (Nat.le_of_ble_eq_true rfl)) dM_spend_64 (by rw [← hR]; exact ⟨Nat.le_of_ble_eq_true rfl, Nat.le_of_ble_eq_true rfl⟩)) hS (fun H locs hz hM hS => ?_)
  refine lv_lstore hx hb dM_spend_67 hl (by decide) rfl (fun ls hl => ?_)
  have hl : lv_has ls 14 [(7, .long (bm_h3 mer.toInt64 non.toInt64 (g6 (8 * j + k)))), (6, .int (nI (16 * p))), (5, .int (nI (8 * j + k))), (0, .ref m), (1, .int (nI j)), (2, .int (nI k)), (3, .int mer), (4, .int non)] := hl
  refine lv_aload_n hx hb dM_spend_69 rfl (lv_at hl 3 rfl) ?_
  refine bm_get (ci := 7) (v := .ref (m + 9)) (C := "BlindMintModel") (T := bt_M) (N := 22) hx hb hts bu_M hown hK hM hP.c0 rfl 12 (by decide) (hts _ bw_614) (fun _ h9 => h9) rfl dM_spend_70 ?_
  refine lv_iload hx hb dM_spend_73 (lv_at hl 1 rfl) ?_
  refine lv_aload_n hx hb dM_spend_75 rfl (lv_at hl 3 rfl) ?_
  refine bm_get (ci := 7) (v := .ref (m + 4)) (C := "BlindMintModel") (T := bt_M) (N := 22) hx hb hts bu_M hown hK hM hP.c0 rfl 6 (by decide) (hts _ bw_608) (fun _ h9 => h9) rfl dM_spend_76 ?_
  refine lv_iload hx hb dM_spend_79 (lv_at hl 2 rfl) ?_
  refine bm_iald hx hb hK hM 0 hP.c4 rfl (8 * j + k) (bm_ix_nI (by omega)) (by omega) dM_spend_81 ?_
  refine lv_i2l hx hb dM_spend_82 rfl ?_
  refine bm_last hx hb hK hM hS 1 hP.c9 rfl (16 * p) (bm_ix_nI (by omega)) (by omega) dM_spend_83 (fun H locs hz1 hM hS => ?_)
  have hz := hz1.trans hz
  obtain ⟨M6, hM, hP, hF⟩ : ∃ X, bm_M D base X H ∧ bm_MD ct m 0 tr bl np nd f1 f2 f3 f4 g5 g6 f7 g8 (vp_updL g9 (16 * p) ((f4 (8 * j + k)).toInt64)) g10 g11 g12 g13 g14 g15 f16 g17 X ∧ bm_fr m M X := ⟨_, hM, hP.s9 _, hF.up (by decide)⟩
  refine lv_aload_n hx hb dM_spend_84 rfl (lv_at hl 3 rfl) ?_
  refine bm_get (ci := 7) (v := .ref (m + 9)) (C := "BlindMintModel") (T := bt_M) (N := 22) hx hb hts bu_M hown hK hM hP.c0 rfl 12 (by decide) (hts _ bw_614) (fun _ h9 => h9) rfl dM_spend_85 ?_
  refine lv_iload hx hb dM_spend_88 (lv_at hl 1 rfl) ?_
  refine lv_iconst (v := 1) hx hb dM_spend_90 (by decide) ?_
  refine lv_iadd hx hb dM_spend_91 ?_
  refine lv_topi (fun t7 e_t7 => ?_)
  have e_t7 : t7 = nI (16 * p + 1) := by rw [e_t7]; exact nI_add _ 1
  subst e_t7
  refine lv_aload_n hx hb dM_spend_92 rfl (lv_at hl 3 rfl) ?_
  refine bm_get (ci := 7) (v := .ref (m + 6)) (C := "BlindMintModel") (T := bt_M) (N := 22) hx hb hts bu_M hown hK hM hP.c0 rfl 8 (by decide) (hts _ bw_610) (fun _ h9 => h9) rfl dM_spend_93 ?_
  refine lv_iload hx hb dM_spend_96 (lv_at hl 2 rfl) ?_
  refine bm_lald hx hb hK hM 1 hP.c6 rfl (8 * j + k) (bm_ix_nI (by omega)) (by omega) dM_spend_98 ?_
  refine bm_last hx hb hK hM hS 1 hP.c9 rfl (16 * p + 1) (bm_ix_nI (by omega)) (by omega) dM_spend_99 (fun H locs hz1 hM hS => ?_)
  have hz := hz1.trans hz
  obtain ⟨M8, hM, hP, hF⟩ : ∃ X, bm_M D base X H ∧ bm_MD ct m 0 tr bl np nd f1 f2 f3 f4 g5 g6 f7 g8 (vp_updL (vp_updL g9 (16 * p) ((f4 (8 * j + k)).toInt64)) (16 * p + 1) (g6 (8 * j + k))) g10 g11 g12 g13 g14 g15 f16 g17 X ∧ bm_fr m M X := ⟨_, hM, hP.s9 _, hF.up (by decide)⟩
  refine lv_aload_n hx hb dM_spend_100 rfl (lv_at hl 3 rfl) ?_
  refine bm_get (ci := 7) (v := .ref (m + 9)) (C := "BlindMintModel") (T := bt_M) (N := 22) hx hb hts bu_M hown hK hM hP.c0 rfl 12 (by decide) (hts _ bw_614) (fun _ h9 => h9) rfl dM_spend_101 ?_
  refine lv_iload hx hb dM_spend_104 (lv_at hl 1 rfl) ?_
  refine lv_iconst (v := 2) hx hb dM_spend_106 (by decide) ?_
  refine lv_iadd hx hb dM_spend_107 ?_
  refine lv_topi (fun t9 e_t9 => ?_)
  have e_t9 : t9 = nI (16 * p + 2) := by rw [e_t9]; exact nI_add _ 2
  subst e_t9
  refine lv_iload_n hx hb dM_spend_108 rfl (lv_at hl 6 rfl) ?_
  refine lv_i2l hx hb dM_spend_109 rfl ?_
  refine bm_last hx hb hK hM hS 1 hP.c9 rfl (16 * p + 2) (bm_ix_nI (by omega)) (by omega) dM_spend_110 (fun H locs hz1 hM hS => ?_)
  have hz := hz1.trans hz
  obtain ⟨M10, hM, hP, hF⟩ : ∃ X, bm_M D base X H ∧ bm_MD ct m 0 tr bl np nd f1 f2 f3 f4 g5 g6 f7 g8 (vp_updL (vp_updL (vp_updL g9 (16 * p) ((f4 (8 * j + k)).toInt64)) (16 * p + 1) (g6 (8 * j + k))) (16 * p + 2) mer.toInt64) g10 g11 g12 g13 g14 g15 f16 g17 X ∧ bm_fr m M X := ⟨_, hM, hP.s9 _, hF.up (by decide)⟩
  refine lv_aload_n hx hb dM_spend_111 rfl (lv_at hl 3 rfl) ?_
  refine bm_get (ci := 7) (v := .ref (m + 9)) (C := "BlindMintModel") (T := bt_M) (N := 22) hx hb hts bu_M hown hK hM hP.c0 rfl 12 (by decide) (hts _ bw_614) (fun _ h9 => h9) rfl dM_spend_112 ?_
  refine lv_iload hx hb dM_spend_115 (lv_at hl 1 rfl) ?_
  refine lv_iconst (v := 3) hx hb dM_spend_117 (by decide) ?_
  refine lv_iadd hx hb dM_spend_118 ?_
  refine lv_topi (fun t11 e_t11 => ?_)
  have e_t11 : t11 = nI (16 * p + 3) := by rw [e_t11]; exact nI_add _ 3
  subst e_t11
  refine lv_iload hx hb dM_spend_119 (lv_at hl 7 rfl) ?_
  refine lv_i2l hx hb dM_spend_121 rfl ?_
  refine bm_last hx hb hK hM hS 1 hP.c9 rfl (16 * p + 3) (bm_ix_nI (by omega)) (by omega) dM_spend_122 (fun H locs hz1 hM hS => ?_)
  have hz := hz1.trans hz
  obtain ⟨M12, hM, hP, hF⟩ : ∃ X, bm_M D base X H ∧ bm_MD ct m 0 tr bl np nd f1 f2 f3 f4 g5 g6 f7 g8 (vp_updL (vp_updL (vp_updL (vp_updL g9 (16 * p) ((f4 (8 * j + k)).toInt64)) (16 * p + 1) (g6 (8 * j + k))) (16 * p + 2) mer.toInt64) (16 * p + 3) non.toInt64) g10 g11 g12 g13 g14 g15 f16 g17 X ∧ bm_fr m M X := ⟨_, hM, hP.s9 _, hF.up (by decide)⟩
  refine lv_iconst (v := 0) hx hb dM_spend_123 (by decide) ?_
  refine lv_istore hx hb dM_spend_124 hl (by decide) rfl (fun ls hl => ?_)
  have hl : lv_has ls 14 [(9, .int 0), (7, .long (bm_h3 mer.toInt64 non.toInt64 (g6 (8 * j + k)))), (6, .int (nI (16 * p))), (5, .int (nI (8 * j + k))), (0, .ref m), (1, .int (nI j)), (2, .int (nI k)), (3, .int mer), (4, .int non)] := hl
  have hl : lv_has ls 14 [(0, .ref m), (5, .int (nI (8 * j + k))), (6, .int (nI (16 * p))), (7, .long (bm_h3 mer.toInt64 non.toInt64 (g6 (8 * j + k)))), (9, .int 0)] := lv_sub hl [4, 3, 2, 1, 0] rfl
  have loop : ∀ (n : Nat) (i : Nat) (ls : Array Slot) (H : Heap) (locs : List Loc) (M13 : bm_Map), i + n = 4 → lv_has ls 14 [(0, .ref m), (5, .int (nI (8 * j + k))), (6, .int (nI (16 * p))), (7, .long (bm_h3 mer.toInt64 non.toInt64 (g6 (8 * j + k)))), (9, .int (nI i))] → H.size = sz → bm_M D base M13 H → va_S (bm_A base) s.heap H locs → bm_MD ct m 0 tr bl np nd f1 f2 f3 f4 g5 g6 f7 g8 (bm_sr g8 (8 * j + k) p (bm_h3 mer.toInt64 non.toInt64 (g6 (8 * j + k))) (bm_s0 g9 p (f4 (8 * j + k)).toInt64 (g6 (8 * j + k)) mer.toInt64 non.toInt64) i) g10 g11 g12 g13 g14 g15 f16 g17 M13 → bm_fr m M M13 → W vp l ve R s vm args below meth vc H locs 0 0 Q (F0 vm 126 ls []) := by
    clear hP hF hM hz hS hl
    intro n
    induction n with
    | zero =>
      intro i ls H locs M13 hi hl hz hM hS hP hF
      obtain rfl : i = 4 := by omega
      have hl : lv_has ls 14 [(0, .ref m), (5, .int (nI (8 * j + k))), (6, .int (nI (16 * p))), (7, .long (bm_h3 mer.toInt64 non.toInt64 (g6 (8 * j + k)))), (9, .int 4)] := hl
      refine lv_iload hx hb dM_spend_126 (lv_at hl 4 rfl) ?_
      refine lv_iconst (v := 4) hx hb dM_spend_128 (by decide) ?_
      refine lv_icmp_ge (tgt := 279) hx hb dM_spend_129 rfl (fun _ => ?_) (fun h => absurd h (by decide))
      refine lv_aload_n hx hb dM_spend_279 rfl (lv_at hl 0 rfl) ?_
      refine bm_get (ci := 7) (v := .ref (m + 7)) (C := "BlindMintModel") (T := bt_M) (N := 22) hx hb hts bu_M hown hK hM hP.c0 rfl 9 (by decide) (hts _ bw_611) (fun _ h9 => h9) rfl dM_spend_280 ?_
      refine lv_iload hx hb dM_spend_283 (lv_at hl 1 rfl) ?_
      refine lv_iconst (v := 1) hx hb dM_spend_285 (by decide) ?_
      refine bm_zast hx hb hK hM hS 2 hP.c7 rfl (8 * j + k) (bm_ix_nI (by omega)) (by omega) dM_spend_286 (fun H locs hz1 hM hS => ?_)
      have hz := hz1.trans hz
      obtain ⟨M14, hM, hP, hF⟩ : ∃ X, bm_M D base X H ∧ bm_MD ct m 0 tr bl np nd f1 f2 f3 f4 g5 g6 (upd f7 (8 * j + k) (vp_nar .boolean 1)) g8 (bm_sr g8 (8 * j + k) p (bm_h3 mer.toInt64 non.toInt64 (g6 (8 * j + k))) (bm_s0 g9 p (f4 (8 * j + k)).toInt64 (g6 (8 * j + k)) mer.toInt64 non.toInt64) 4) g10 g11 g12 g13 g14 g15 f16 g17 X ∧ bm_fr m M X := ⟨_, hM, hP.s7 _, hF.up (by decide)⟩
      refine lv_aload_n hx hb dM_spend_287 rfl (lv_at hl 0 rfl) ?_
      refine lv_dup hx hb dM_spend_288 rfl ?_
      refine bm_get (ci := 7) (v := .int np) (C := "BlindMintModel") (T := bt_M) (N := 22) hx hb hts bu_M hown hK hM hP.c0 rfl 11 (by decide) (hts _ bw_613) (fun _ h9 => h9) rfl dM_spend_289 ?_
      refine lv_iconst (v := 1) hx hb dM_spend_292 (by decide) ?_
      refine lv_iadd hx hb dM_spend_293 ?_
      refine bm_put (ci := 7) (v := .int (np + 1)) (ty := .int) (C := "BlindMintModel") (T := bt_M) (N := 22) hx hb hts bu_M by_M bo_M bn_M hown hK hM hS hP.c0 rfl 11 (by decide) (hts _ bw_613) (fun _ h9 => h9) rfl (by decide +kernel) rfl rfl (Nat.le_of_ble_eq_true rfl) dM_spend_294 (fun H locs hz1 hM hS => ?_)
      have hz := hz1.trans hz
      obtain ⟨M15, hM, hP, hF⟩ : ∃ X, bm_M D base X H ∧ bm_MD ct m 0 tr bl (np + 1) nd f1 f2 f3 f4 g5 g6 (upd f7 (8 * j + k) (vp_nar .boolean 1)) g8 (bm_sr g8 (8 * j + k) p (bm_h3 mer.toInt64 non.toInt64 (g6 (8 * j + k))) (bm_s0 g9 p (f4 (8 * j + k)).toInt64 (g6 (8 * j + k)) mer.toInt64 non.toInt64) 4) g10 g11 g12 g13 g14 g15 f16 g17 X ∧ bm_fr m M X := ⟨_, hM, hP.s_np _, hF.up0⟩
      refine lv_aload_n hx hb dM_spend_297 rfl (lv_at hl 0 rfl) ?_
      refine bm_get (ci := 7) (v := .int (np + 1)) (C := "BlindMintModel") (T := bt_M) (N := 22) hx hb hts bu_M hown hK hM hP.c0 rfl 11 (by decide) (hts _ bw_613) (fun _ h9 => h9) rfl dM_spend_298 ?_
      refine lv_iconst (v := 1) hx hb dM_spend_301 (by decide) ?_
      refine lv_isub hx hb dM_spend_302 ?_
      refine lv_topi (fun t16 e_t16 => ?_)
      have e_t16 : t16 = nI p := by rw [e_t16]; rw [bm_sub1]; exact hnp
      subst e_t16
      exact bm_iret hQ hx hb hr hlk hM hS ⟨hz, ⟨rfl, hP⟩, hF⟩ (Nat.le_refl _) (Nat.le_refl _) dM_spend_303
    | succ n ih =>
      intro i ls H locs M13 hi hl hz hM hS hP hF
      refine lv_iload hx hb dM_spend_126 (lv_at hl 4 rfl) ?_
      refine lv_iconst (v := 4) hx hb dM_spend_128 (by decide) ?_
      refine lv_icmp_ge (tgt := 279) hx hb dM_spend_129 rfl (fun h129 => absurd h129 (nI_ge (b := 4) (by omega) (by decide))) (fun h129 => ?_)
      refine lv_bipush (v := 16) hx hb dM_spend_132 (by decide) ?_
      refine lv_iload hx hb dM_spend_134 (lv_at hl 1 rfl) ?_
      refine lv_imul hx hb dM_spend_136 ?_
      refine lv_iconst (v := 4) hx hb dM_spend_137 (by decide) ?_
      refine lv_iload hx hb dM_spend_138 (lv_at hl 4 rfl) ?_
      refine lv_imul hx hb dM_spend_140 ?_
      refine lv_iadd hx hb dM_spend_141 ?_
      refine lv_topi (fun t17 e_t17 => ?_)
      have e_t17 : t17 = nI (16 * (8 * j + k) + 4 * i) := by rw [e_t17]; show nI 16 * nI _ + nI 4 * nI _ = _; rw [pk_mul, pk_mul, nI_add]
      subst e_t17
      refine lv_istore hx hb dM_spend_142 hl (by decide) rfl (fun ls hl => ?_)
      have hl : lv_has ls 14 [(10, .int (nI (16 * (8 * j + k) + 4 * i))), (0, .ref m), (5, .int (nI (8 * j + k))), (6, .int (nI (16 * p))), (7, .long (bm_h3 mer.toInt64 non.toInt64 (g6 (8 * j + k)))), (9, .int (nI i))] := hl
      refine lv_lload hx hb dM_spend_144 (lv_at hl 4 rfl) ?_
      refine lv_iload hx hb dM_spend_146 (lv_at hl 5 rfl) ?_
      refine lv_lshr hx hb dM_spend_148 rfl ?_
      refine lv_lconst (v := 1) hx hb dM_spend_149 (by decide) ?_
      refine lv_land hx hb dM_spend_150 ?_
      refine lv_lconst (v := 1) hx hb dM_spend_151 (by decide) ?_
      refine W.lcmp hx hb dM_spend_152 ?_
      refine lv_if_ne (tgt := 160) hx hb dM_spend_153 rfl (fun h153 => ?_) (fun h153 => ?_)
      · have ho : ¬ bm_one (bm_h3 mer.toInt64 non.toInt64 (g6 (8 * j + k))) (nI i) = 1 := bm_one01 (bm_one0 (fun q => h153 ((lg_cmp_eq _ _).mpr q)))
        refine lv_iconst (v := 0) hx hb dM_spend_160 (by decide) ?_
        refine lv_istore hx hb dM_spend_161 hl (by decide) rfl (fun ls hl => ?_)
        have hl : lv_has ls 14 [(11, .int 0), (10, .int (nI (16 * (8 * j + k) + 4 * i))), (0, .ref m), (5, .int (nI (8 * j + k))), (6, .int (nI (16 * p))), (7, .long (bm_h3 mer.toInt64 non.toInt64 (g6 (8 * j + k)))), (9, .int (nI i))] := hl
        refine lv_iload hx hb dM_spend_163 (lv_at hl 0 rfl) ?_
        refine lv_if_eq (tgt := 173) hx hb dM_spend_165 rfl (fun _ => ?_) (fun h => absurd h (by decide))
        refine lv_iload hx hb dM_spend_173 (lv_at hl 1 rfl) ?_
        refine lv_iconst (v := 1) hx hb dM_spend_175 (by decide) ?_
        refine lv_iadd hx hb dM_spend_176 ?_
        refine lv_topi (fun t18 e_t18 => ?_)
        have e_t18 : t18 = nI (16 * (8 * j + k) + 4 * i + 1) := by rw [e_t18]; exact nI_add _ 1
        subst e_t18
        refine lv_istore hx hb dM_spend_177 hl (by decide) rfl (fun ls hl => ?_)
        have hl : lv_has ls 14 [(12, .int (nI (16 * (8 * j + k) + 4 * i + 1))), (11, .int 0), (10, .int (nI (16 * (8 * j + k) + 4 * i))), (0, .ref m), (5, .int (nI (8 * j + k))), (6, .int (nI (16 * p))), (7, .long (bm_h3 mer.toInt64 non.toInt64 (g6 (8 * j + k)))), (9, .int (nI i))] := hl
        refine lv_iload hx hb dM_spend_179 (lv_at hl 1 rfl) ?_
        refine lv_if_eq (tgt := 191) hx hb dM_spend_181 rfl (fun _ => ?_) (fun h => absurd h (by decide))
        refine lv_iload hx hb dM_spend_191 (lv_at hl 2 rfl) ?_
        refine lv_istore hx hb dM_spend_193 hl (by decide) rfl (fun ls hl => ?_)
        have hl : lv_has ls 14 [(13, .int (nI (16 * (8 * j + k) + 4 * i))), (12, .int (nI (16 * (8 * j + k) + 4 * i + 1))), (11, .int 0), (10, .int (nI (16 * (8 * j + k) + 4 * i))), (0, .ref m), (5, .int (nI (8 * j + k))), (6, .int (nI (16 * p))), (7, .long (bm_h3 mer.toInt64 non.toInt64 (g6 (8 * j + k)))), (9, .int (nI i))] := hl
        refine lv_aload_n hx hb dM_spend_195 rfl (lv_at hl 4 rfl) ?_
        refine bm_get (ci := 7) (v := .ref (m + 9)) (C := "BlindMintModel") (T := bt_M) (N := 22) hx hb hts bu_M hown hK hM hP.c0 rfl 12 (by decide) (hts _ bw_614) (fun _ h9 => h9) rfl dM_spend_196 ?_
        refine lv_iload hx hb dM_spend_199 (lv_at hl 6 rfl) ?_
        refine lv_iconst (v := 4) hx hb dM_spend_201 (by decide) ?_
        refine lv_iadd hx hb dM_spend_202 ?_
        refine lv_iconst (v := 3) hx hb dM_spend_203 (by decide) ?_
        refine lv_iload hx hb dM_spend_204 (lv_at hl 8 rfl) ?_
        refine lv_imul hx hb dM_spend_206 ?_
        refine lv_iadd hx hb dM_spend_207 ?_
        refine lv_topi (fun t19 e_t19 => ?_)
        have e_t19 : t19 = nI (16 * p + (4 + 3 * i)) := by rw [e_t19]; show nI (16 * p) + nI 4 + nI 3 * nI i = _; rw [pk_mul, nI_add, nI_add, Nat.add_assoc]
        subst e_t19
        refine lv_aload_n hx hb dM_spend_208 rfl (lv_at hl 4 rfl) ?_
        refine bm_get (ci := 7) (v := .ref (m + 8)) (C := "BlindMintModel") (T := bt_M) (N := 22) hx hb hts bu_M hown hK hM hP.c0 rfl 10 (by decide) (hts _ bw_612) (fun _ h9 => h9) rfl dM_spend_209 ?_
        refine lv_iload hx hb dM_spend_212 (lv_at hl 1 rfl) ?_
        refine bm_lald hx hb hK hM 1 hP.c8 rfl (16 * (8 * j + k) + 4 * i + 1) (bm_ix_nI (by omega)) (by omega) dM_spend_214 ?_
        refine bm_last hx hb hK hM hS 1 hP.c9 rfl (16 * p + (4 + 3 * i)) (bm_ix_nI (by omega)) (by omega) dM_spend_215 (fun H locs hz1 hM hS => ?_)
        have hz := hz1.trans hz
        obtain ⟨M20, hM, hP, hF⟩ : ∃ X, bm_M D base X H ∧ bm_MD ct m 0 tr bl np nd f1 f2 f3 f4 g5 g6 f7 g8 (vp_updL (bm_sr g8 (8 * j + k) p (bm_h3 mer.toInt64 non.toInt64 (g6 (8 * j + k))) (bm_s0 g9 p (f4 (8 * j + k)).toInt64 (g6 (8 * j + k)) mer.toInt64 non.toInt64) i) (16 * p + (4 + 3 * i)) (g8 (16 * (8 * j + k) + 4 * i + 1))) g10 g11 g12 g13 g14 g15 f16 g17 X ∧ bm_fr m M X := ⟨_, hM, hP.s9 _, hF.up (by decide)⟩
        refine lv_aload_n hx hb dM_spend_216 rfl (lv_at hl 4 rfl) ?_
        refine bm_get (ci := 7) (v := .ref (m + 9)) (C := "BlindMintModel") (T := bt_M) (N := 22) hx hb hts bu_M hown hK hM hP.c0 rfl 12 (by decide) (hts _ bw_614) (fun _ h9 => h9) rfl dM_spend_217 ?_
        refine lv_iload hx hb dM_spend_220 (lv_at hl 6 rfl) ?_
        refine lv_iconst (v := 5) hx hb dM_spend_222 (by decide) ?_
        refine lv_iadd hx hb dM_spend_223 ?_
        refine lv_iconst (v := 3) hx hb dM_spend_224 (by decide) ?_
        refine lv_iload hx hb dM_spend_225 (lv_at hl 8 rfl) ?_
        refine lv_imul hx hb dM_spend_227 ?_
        refine lv_iadd hx hb dM_spend_228 ?_
        refine lv_topi (fun t21 e_t21 => ?_)
        have e_t21 : t21 = nI (16 * p + (5 + 3 * i)) := by rw [e_t21]; show nI (16 * p) + nI 5 + nI 3 * nI i = _; rw [pk_mul, nI_add, nI_add, Nat.add_assoc]
        subst e_t21
        refine lv_aload_n hx hb dM_spend_229 rfl (lv_at hl 4 rfl) ?_
        refine bm_get (ci := 7) (v := .ref (m + 8)) (C := "BlindMintModel") (T := bt_M) (N := 22) hx hb hts bu_M hown hK hM hP.c0 rfl 10 (by decide) (hts _ bw_612) (fun _ h9 => h9) rfl dM_spend_230 ?_
        refine lv_iload hx hb dM_spend_233 (lv_at hl 1 rfl) ?_
        refine lv_iconst (v := 2) hx hb dM_spend_235 (by decide) ?_
        refine lv_iadd hx hb dM_spend_236 ?_
        refine lv_topi (fun t22 e_t22 => ?_)
        have e_t22 : t22 = nI (16 * (8 * j + k) + 4 * i + 1 + 2) := by rw [e_t22]; exact nI_add _ 2
        subst e_t22
        refine bm_lald hx hb hK hM 1 hP.c8 rfl (16 * (8 * j + k) + 4 * i + 1 + 2) (bm_ix_nI (by omega)) (by omega) dM_spend_237 ?_
        refine bm_last hx hb hK hM hS 1 hP.c9 rfl (16 * p + (5 + 3 * i)) (bm_ix_nI (by omega)) (by omega) dM_spend_238 (fun H locs hz1 hM hS => ?_)
        have hz := hz1.trans hz
        obtain ⟨M23, hM, hP, hF⟩ : ∃ X, bm_M D base X H ∧ bm_MD ct m 0 tr bl np nd f1 f2 f3 f4 g5 g6 f7 g8 (vp_updL (vp_updL (bm_sr g8 (8 * j + k) p (bm_h3 mer.toInt64 non.toInt64 (g6 (8 * j + k))) (bm_s0 g9 p (f4 (8 * j + k)).toInt64 (g6 (8 * j + k)) mer.toInt64 non.toInt64) i) (16 * p + (4 + 3 * i)) (g8 (16 * (8 * j + k) + 4 * i + 1))) (16 * p + (5 + 3 * i)) (g8 (16 * (8 * j + k) + 4 * i + 1 + 2))) g10 g11 g12 g13 g14 g15 f16 g17 X ∧ bm_fr m M X := ⟨_, hM, hP.s9 _, hF.up (by decide)⟩
        refine lv_aload_n hx hb dM_spend_239 rfl (lv_at hl 4 rfl) ?_
        refine bm_get (ci := 7) (v := .ref (m + 9)) (C := "BlindMintModel") (T := bt_M) (N := 22) hx hb hts bu_M hown hK hM hP.c0 rfl 12 (by decide) (hts _ bw_614) (fun _ h9 => h9) rfl dM_spend_240 ?_
        refine lv_iload hx hb dM_spend_243 (lv_at hl 6 rfl) ?_
        refine lv_bipush (v := 6) hx hb dM_spend_245 (by decide) ?_
        refine lv_iadd hx hb dM_spend_247 ?_
        refine lv_iconst (v := 3) hx hb dM_spend_248 (by decide) ?_
        refine lv_iload hx hb dM_spend_249 (lv_at hl 8 rfl) ?_
        refine lv_imul hx hb dM_spend_251 ?_
        refine lv_iadd hx hb dM_spend_252 ?_
        refine lv_topi (fun t24 e_t24 => ?_)
        have e_t24 : t24 = nI (16 * p + (6 + 3 * i)) := by rw [e_t24]; show nI (16 * p) + nI 6 + nI 3 * nI i = _; rw [pk_mul, nI_add, nI_add, Nat.add_assoc]
        subst e_t24
        refine lv_aload_n hx hb dM_spend_253 rfl (lv_at hl 4 rfl) ?_
        refine bm_get (ci := 7) (v := .ref (m + 8)) (C := "BlindMintModel") (T := bt_M) (N := 22) hx hb hts bu_M hown hK hM hP.c0 rfl 10 (by decide) (hts _ bw_612) (fun _ h9 => h9) rfl dM_spend_254 ?_
        refine lv_iload hx hb dM_spend_257 (lv_at hl 0 rfl) ?_
        refine bm_lald hx hb hK hM 1 hP.c8 rfl (16 * (8 * j + k) + 4 * i) (bm_ix_nI (by omega)) (by omega) dM_spend_259 ?_
        refine lv_aload_n hx hb dM_spend_260 rfl (lv_at hl 4 rfl) ?_
        refine bm_get (ci := 7) (v := .ref (m + 8)) (C := "BlindMintModel") (T := bt_M) (N := 22) hx hb hts bu_M hown hK hM hP.c0 rfl 10 (by decide) (hts _ bw_612) (fun _ h9 => h9) rfl dM_spend_261 ?_
        refine lv_iload hx hb dM_spend_264 (lv_at hl 0 rfl) ?_
        refine lv_iconst (v := 2) hx hb dM_spend_266 (by decide) ?_
        refine lv_iadd hx hb dM_spend_267 ?_
        refine lv_topi (fun t25 e_t25 => ?_)
        have e_t25 : t25 = nI (16 * (8 * j + k) + 4 * i + 2) := by rw [e_t25]; exact nI_add _ 2
        subst e_t25
        refine bm_lald hx hb hK hM 1 hP.c8 rfl (16 * (8 * j + k) + 4 * i + 2) (bm_ix_nI (by omega)) (by omega) dM_spend_268 ?_
        refine bm_callE (va_runS (As := [.long (g8 (16 * (8 * j + k) + 4 * i)), .long (g8 (16 * (8 * j + k) + 4 * i + 2))]) (rest := [.int (nI (16 * p + (6 + 3 * i))), .ref (m + 9)]) ⟨hx, hb, hml, hown, hts⟩ (bc_M_hash2 l D ct base ad M23 sz (g8 (16 * (8 * j + k) + 4 * i)) (g8 (16 * (8 * j + k) + 4 * i + 2))) (va_cwS 2 hts (bm_goodS bw_694 bw_695 bw_5 bw_696) rfl rfl rfl (by decide +kernel) (by rw [← hR]; exact ⟨Nat.le_of_ble_eq_true rfl, Nat.le_of_ble_eq_true rfl⟩)) (bm_preS hM hG hS hz) rfl rfl hl.1 rfl (lv_room (Nat.le_of_ble_eq_true rfl)) dM_spend_269 (by rw [← hR]; exact ⟨Nat.le_of_ble_eq_true rfl, Nat.le_of_ble_eq_true rfl⟩)) hS (fun H locs hz hM hS => ?_)
        refine bm_last hx hb hK hM hS 1 hP.c9 rfl (16 * p + (6 + 3 * i)) (bm_ix_nI (by omega)) (by omega) dM_spend_272 (fun H locs hz1 hM hS => ?_)
        have hz := hz1.trans hz
        obtain ⟨M26, hM, hP, hF⟩ : ∃ X, bm_M D base X H ∧ bm_MD ct m 0 tr bl np nd f1 f2 f3 f4 g5 g6 f7 g8 (vp_updL (vp_updL (vp_updL (bm_sr g8 (8 * j + k) p (bm_h3 mer.toInt64 non.toInt64 (g6 (8 * j + k))) (bm_s0 g9 p (f4 (8 * j + k)).toInt64 (g6 (8 * j + k)) mer.toInt64 non.toInt64) i) (16 * p + (4 + 3 * i)) (g8 (16 * (8 * j + k) + 4 * i + 1))) (16 * p + (5 + 3 * i)) (g8 (16 * (8 * j + k) + 4 * i + 1 + 2))) (16 * p + (6 + 3 * i)) (bm_h2 (g8 (16 * (8 * j + k) + 4 * i)) (g8 (16 * (8 * j + k) + 4 * i + 2)))) g10 g11 g12 g13 g14 g15 f16 g17 X ∧ bm_fr m M X := ⟨_, hM, hP.s9 _, hF.up (by decide)⟩
        refine lv_iinc (v := nI (i + 1)) (k := 8) hx hb dM_spend_273 hl rfl (bm_inc i) (by decide) rfl (fun ls hl => ?_)
        have hl : lv_has ls 14 [(9, .int (nI (i + 1))), (13, .int (nI (16 * (8 * j + k) + 4 * i))), (12, .int (nI (16 * (8 * j + k) + 4 * i + 1))), (11, .int 0), (10, .int (nI (16 * (8 * j + k) + 4 * i))), (0, .ref m), (5, .int (nI (8 * j + k))), (6, .int (nI (16 * p))), (7, .long (bm_h3 mer.toInt64 non.toInt64 (g6 (8 * j + k))))] := hl
        refine lv_goto (tgt := 126) hx hb dM_spend_276 rfl ?_
        have hl : lv_has ls 14 [(0, .ref m), (5, .int (nI (8 * j + k))), (6, .int (nI (16 * p))), (7, .long (bm_h3 mer.toInt64 non.toInt64 (g6 (8 * j + k)))), (9, .int (nI (i + 1)))] := lv_sub hl [5, 6, 7, 8, 0] rfl
        exact ih (i + 1) ls _ _ _ (by omega) hl hz hM hS (by rw [show bm_sr g8 (8 * j + k) p (bm_h3 mer.toInt64 non.toInt64 (g6 (8 * j + k))) (bm_s0 g9 p (f4 (8 * j + k)).toInt64 (g6 (8 * j + k)) mer.toInt64 non.toInt64) (i + 1) = _ from bm_sr_n ho]; exact hP) hF
      · have ho : bm_one (bm_h3 mer.toInt64 non.toInt64 (g6 (8 * j + k))) (nI i) = 1 := bm_one1 ((lg_cmp_eq _ _).mp h153)
        refine lv_iconst (v := 1) hx hb dM_spend_156 (by decide) ?_
        refine lv_goto (tgt := 161) hx hb dM_spend_157 rfl ?_
        refine lv_istore hx hb dM_spend_161 hl (by decide) rfl (fun ls hl => ?_)
        have hl : lv_has ls 14 [(11, .int 1), (10, .int (nI (16 * (8 * j + k) + 4 * i))), (0, .ref m), (5, .int (nI (8 * j + k))), (6, .int (nI (16 * p))), (7, .long (bm_h3 mer.toInt64 non.toInt64 (g6 (8 * j + k)))), (9, .int (nI i))] := hl
        refine lv_iload hx hb dM_spend_163 (lv_at hl 0 rfl) ?_
        refine lv_if_eq (tgt := 173) hx hb dM_spend_165 rfl (fun h => absurd h (by decide)) (fun _ => ?_)
        refine lv_iload hx hb dM_spend_168 (lv_at hl 1 rfl) ?_
        refine lv_goto (tgt := 177) hx hb dM_spend_170 rfl ?_
        refine lv_istore hx hb dM_spend_177 hl (by decide) rfl (fun ls hl => ?_)
        have hl : lv_has ls 14 [(12, .int (nI (16 * (8 * j + k) + 4 * i))), (11, .int 1), (10, .int (nI (16 * (8 * j + k) + 4 * i))), (0, .ref m), (5, .int (nI (8 * j + k))), (6, .int (nI (16 * p))), (7, .long (bm_h3 mer.toInt64 non.toInt64 (g6 (8 * j + k)))), (9, .int (nI i))] := hl
        refine lv_iload hx hb dM_spend_179 (lv_at hl 1 rfl) ?_
        refine lv_if_eq (tgt := 191) hx hb dM_spend_181 rfl (fun h => absurd h (by decide)) (fun _ => ?_)
        refine lv_iload hx hb dM_spend_184 (lv_at hl 2 rfl) ?_
        refine lv_iconst (v := 1) hx hb dM_spend_186 (by decide) ?_
        refine lv_iadd hx hb dM_spend_187 ?_
        refine lv_goto (tgt := 193) hx hb dM_spend_188 rfl ?_
        refine lv_topi (fun t27 e_t27 => ?_)
        have e_t27 : t27 = nI (16 * (8 * j + k) + 4 * i + 1) := by rw [e_t27]; exact nI_add _ 1
        subst e_t27
        refine lv_istore hx hb dM_spend_193 hl (by decide) rfl (fun ls hl => ?_)
        have hl : lv_has ls 14 [(13, .int (nI (16 * (8 * j + k) + 4 * i + 1))), (12, .int (nI (16 * (8 * j + k) + 4 * i))), (11, .int 1), (10, .int (nI (16 * (8 * j + k) + 4 * i))), (0, .ref m), (5, .int (nI (8 * j + k))), (6, .int (nI (16 * p))), (7, .long (bm_h3 mer.toInt64 non.toInt64 (g6 (8 * j + k)))), (9, .int (nI i))] := hl
        refine lv_aload_n hx hb dM_spend_195 rfl (lv_at hl 4 rfl) ?_
        refine bm_get (ci := 7) (v := .ref (m + 9)) (C := "BlindMintModel") (T := bt_M) (N := 22) hx hb hts bu_M hown hK hM hP.c0 rfl 12 (by decide) (hts _ bw_614) (fun _ h9 => h9) rfl dM_spend_196 ?_
        refine lv_iload hx hb dM_spend_199 (lv_at hl 6 rfl) ?_
        refine lv_iconst (v := 4) hx hb dM_spend_201 (by decide) ?_
        refine lv_iadd hx hb dM_spend_202 ?_
        refine lv_iconst (v := 3) hx hb dM_spend_203 (by decide) ?_
        refine lv_iload hx hb dM_spend_204 (lv_at hl 8 rfl) ?_
        refine lv_imul hx hb dM_spend_206 ?_
        refine lv_iadd hx hb dM_spend_207 ?_
        refine lv_topi (fun t28 e_t28 => ?_)
        have e_t28 : t28 = nI (16 * p + (4 + 3 * i)) := by rw [e_t28]; show nI (16 * p) + nI 4 + nI 3 * nI i = _; rw [pk_mul, nI_add, nI_add, Nat.add_assoc]
        subst e_t28
        refine lv_aload_n hx hb dM_spend_208 rfl (lv_at hl 4 rfl) ?_
        refine bm_get (ci := 7) (v := .ref (m + 8)) (C := "BlindMintModel") (T := bt_M) (N := 22) hx hb hts bu_M hown hK hM hP.c0 rfl 10 (by decide) (hts _ bw_612) (fun _ h9 => h9) rfl dM_spend_209 ?_
        refine lv_iload hx hb dM_spend_212 (lv_at hl 1 rfl) ?_
        refine bm_lald hx hb hK hM 1 hP.c8 rfl (16 * (8 * j + k) + 4 * i) (bm_ix_nI (by omega)) (by omega) dM_spend_214 ?_
        refine bm_last hx hb hK hM hS 1 hP.c9 rfl (16 * p + (4 + 3 * i)) (bm_ix_nI (by omega)) (by omega) dM_spend_215 (fun H locs hz1 hM hS => ?_)
        have hz := hz1.trans hz
        obtain ⟨M29, hM, hP, hF⟩ : ∃ X, bm_M D base X H ∧ bm_MD ct m 0 tr bl np nd f1 f2 f3 f4 g5 g6 f7 g8 (vp_updL (bm_sr g8 (8 * j + k) p (bm_h3 mer.toInt64 non.toInt64 (g6 (8 * j + k))) (bm_s0 g9 p (f4 (8 * j + k)).toInt64 (g6 (8 * j + k)) mer.toInt64 non.toInt64) i) (16 * p + (4 + 3 * i)) (g8 (16 * (8 * j + k) + 4 * i))) g10 g11 g12 g13 g14 g15 f16 g17 X ∧ bm_fr m M X := ⟨_, hM, hP.s9 _, hF.up (by decide)⟩
        refine lv_aload_n hx hb dM_spend_216 rfl (lv_at hl 4 rfl) ?_
        refine bm_get (ci := 7) (v := .ref (m + 9)) (C := "BlindMintModel") (T := bt_M) (N := 22) hx hb hts bu_M hown hK hM hP.c0 rfl 12 (by decide) (hts _ bw_614) (fun _ h9 => h9) rfl dM_spend_217 ?_
        refine lv_iload hx hb dM_spend_220 (lv_at hl 6 rfl) ?_
        refine lv_iconst (v := 5) hx hb dM_spend_222 (by decide) ?_
        refine lv_iadd hx hb dM_spend_223 ?_
        refine lv_iconst (v := 3) hx hb dM_spend_224 (by decide) ?_
        refine lv_iload hx hb dM_spend_225 (lv_at hl 8 rfl) ?_
        refine lv_imul hx hb dM_spend_227 ?_
        refine lv_iadd hx hb dM_spend_228 ?_
        refine lv_topi (fun t30 e_t30 => ?_)
        have e_t30 : t30 = nI (16 * p + (5 + 3 * i)) := by rw [e_t30]; show nI (16 * p) + nI 5 + nI 3 * nI i = _; rw [pk_mul, nI_add, nI_add, Nat.add_assoc]
        subst e_t30
        refine lv_aload_n hx hb dM_spend_229 rfl (lv_at hl 4 rfl) ?_
        refine bm_get (ci := 7) (v := .ref (m + 8)) (C := "BlindMintModel") (T := bt_M) (N := 22) hx hb hts bu_M hown hK hM hP.c0 rfl 10 (by decide) (hts _ bw_612) (fun _ h9 => h9) rfl dM_spend_230 ?_
        refine lv_iload hx hb dM_spend_233 (lv_at hl 1 rfl) ?_
        refine lv_iconst (v := 2) hx hb dM_spend_235 (by decide) ?_
        refine lv_iadd hx hb dM_spend_236 ?_
        refine lv_topi (fun t31 e_t31 => ?_)
        have e_t31 : t31 = nI (16 * (8 * j + k) + 4 * i + 2) := by rw [e_t31]; exact nI_add _ 2
        subst e_t31
        refine bm_lald hx hb hK hM 1 hP.c8 rfl (16 * (8 * j + k) + 4 * i + 2) (bm_ix_nI (by omega)) (by omega) dM_spend_237 ?_
        refine bm_last hx hb hK hM hS 1 hP.c9 rfl (16 * p + (5 + 3 * i)) (bm_ix_nI (by omega)) (by omega) dM_spend_238 (fun H locs hz1 hM hS => ?_)
        have hz := hz1.trans hz
        obtain ⟨M32, hM, hP, hF⟩ : ∃ X, bm_M D base X H ∧ bm_MD ct m 0 tr bl np nd f1 f2 f3 f4 g5 g6 f7 g8 (vp_updL (vp_updL (bm_sr g8 (8 * j + k) p (bm_h3 mer.toInt64 non.toInt64 (g6 (8 * j + k))) (bm_s0 g9 p (f4 (8 * j + k)).toInt64 (g6 (8 * j + k)) mer.toInt64 non.toInt64) i) (16 * p + (4 + 3 * i)) (g8 (16 * (8 * j + k) + 4 * i))) (16 * p + (5 + 3 * i)) (g8 (16 * (8 * j + k) + 4 * i + 2))) g10 g11 g12 g13 g14 g15 f16 g17 X ∧ bm_fr m M X := ⟨_, hM, hP.s9 _, hF.up (by decide)⟩
        refine lv_aload_n hx hb dM_spend_239 rfl (lv_at hl 4 rfl) ?_
        refine bm_get (ci := 7) (v := .ref (m + 9)) (C := "BlindMintModel") (T := bt_M) (N := 22) hx hb hts bu_M hown hK hM hP.c0 rfl 12 (by decide) (hts _ bw_614) (fun _ h9 => h9) rfl dM_spend_240 ?_
        refine lv_iload hx hb dM_spend_243 (lv_at hl 6 rfl) ?_
        refine lv_bipush (v := 6) hx hb dM_spend_245 (by decide) ?_
        refine lv_iadd hx hb dM_spend_247 ?_
        refine lv_iconst (v := 3) hx hb dM_spend_248 (by decide) ?_
        refine lv_iload hx hb dM_spend_249 (lv_at hl 8 rfl) ?_
        refine lv_imul hx hb dM_spend_251 ?_
        refine lv_iadd hx hb dM_spend_252 ?_
        refine lv_topi (fun t33 e_t33 => ?_)
        have e_t33 : t33 = nI (16 * p + (6 + 3 * i)) := by rw [e_t33]; show nI (16 * p) + nI 6 + nI 3 * nI i = _; rw [pk_mul, nI_add, nI_add, Nat.add_assoc]
        subst e_t33
        refine lv_aload_n hx hb dM_spend_253 rfl (lv_at hl 4 rfl) ?_
        refine bm_get (ci := 7) (v := .ref (m + 8)) (C := "BlindMintModel") (T := bt_M) (N := 22) hx hb hts bu_M hown hK hM hP.c0 rfl 10 (by decide) (hts _ bw_612) (fun _ h9 => h9) rfl dM_spend_254 ?_
        refine lv_iload hx hb dM_spend_257 (lv_at hl 0 rfl) ?_
        refine bm_lald hx hb hK hM 1 hP.c8 rfl (16 * (8 * j + k) + 4 * i + 1) (bm_ix_nI (by omega)) (by omega) dM_spend_259 ?_
        refine lv_aload_n hx hb dM_spend_260 rfl (lv_at hl 4 rfl) ?_
        refine bm_get (ci := 7) (v := .ref (m + 8)) (C := "BlindMintModel") (T := bt_M) (N := 22) hx hb hts bu_M hown hK hM hP.c0 rfl 10 (by decide) (hts _ bw_612) (fun _ h9 => h9) rfl dM_spend_261 ?_
        refine lv_iload hx hb dM_spend_264 (lv_at hl 0 rfl) ?_
        refine lv_iconst (v := 2) hx hb dM_spend_266 (by decide) ?_
        refine lv_iadd hx hb dM_spend_267 ?_
        refine lv_topi (fun t34 e_t34 => ?_)
        have e_t34 : t34 = nI (16 * (8 * j + k) + 4 * i + 1 + 2) := by rw [e_t34]; exact nI_add _ 2
        subst e_t34
        refine bm_lald hx hb hK hM 1 hP.c8 rfl (16 * (8 * j + k) + 4 * i + 1 + 2) (bm_ix_nI (by omega)) (by omega) dM_spend_268 ?_
        refine bm_callE (va_runS (As := [.long (g8 (16 * (8 * j + k) + 4 * i + 1)), .long (g8 (16 * (8 * j + k) + 4 * i + 1 + 2))]) (rest := [.int (nI (16 * p + (6 + 3 * i))), .ref (m + 9)]) ⟨hx, hb, hml, hown, hts⟩ (bc_M_hash2 l D ct base ad M32 sz (g8 (16 * (8 * j + k) + 4 * i + 1)) (g8 (16 * (8 * j + k) + 4 * i + 1 + 2))) (va_cwS 2 hts (bm_goodS bw_694 bw_695 bw_5 bw_696) rfl rfl rfl (by decide +kernel) (by rw [← hR]; exact ⟨Nat.le_of_ble_eq_true rfl, Nat.le_of_ble_eq_true rfl⟩)) (bm_preS hM hG hS hz) rfl rfl hl.1 rfl (lv_room (Nat.le_of_ble_eq_true rfl)) dM_spend_269 (by rw [← hR]; exact ⟨Nat.le_of_ble_eq_true rfl, Nat.le_of_ble_eq_true rfl⟩)) hS (fun H locs hz hM hS => ?_)
        refine bm_last hx hb hK hM hS 1 hP.c9 rfl (16 * p + (6 + 3 * i)) (bm_ix_nI (by omega)) (by omega) dM_spend_272 (fun H locs hz1 hM hS => ?_)
        have hz := hz1.trans hz
        obtain ⟨M35, hM, hP, hF⟩ : ∃ X, bm_M D base X H ∧ bm_MD ct m 0 tr bl np nd f1 f2 f3 f4 g5 g6 f7 g8 (vp_updL (vp_updL (vp_updL (bm_sr g8 (8 * j + k) p (bm_h3 mer.toInt64 non.toInt64 (g6 (8 * j + k))) (bm_s0 g9 p (f4 (8 * j + k)).toInt64 (g6 (8 * j + k)) mer.toInt64 non.toInt64) i) (16 * p + (4 + 3 * i)) (g8 (16 * (8 * j + k) + 4 * i))) (16 * p + (5 + 3 * i)) (g8 (16 * (8 * j + k) + 4 * i + 2))) (16 * p + (6 + 3 * i)) (bm_h2 (g8 (16 * (8 * j + k) + 4 * i + 1)) (g8 (16 * (8 * j + k) + 4 * i + 1 + 2)))) g10 g11 g12 g13 g14 g15 f16 g17 X ∧ bm_fr m M X := ⟨_, hM, hP.s9 _, hF.up (by decide)⟩
        refine lv_iinc (v := nI (i + 1)) (k := 8) hx hb dM_spend_273 hl rfl (bm_inc i) (by decide) rfl (fun ls hl => ?_)
        have hl : lv_has ls 14 [(9, .int (nI (i + 1))), (13, .int (nI (16 * (8 * j + k) + 4 * i + 1))), (12, .int (nI (16 * (8 * j + k) + 4 * i))), (11, .int 1), (10, .int (nI (16 * (8 * j + k) + 4 * i))), (0, .ref m), (5, .int (nI (8 * j + k))), (6, .int (nI (16 * p))), (7, .long (bm_h3 mer.toInt64 non.toInt64 (g6 (8 * j + k))))] := hl
        refine lv_goto (tgt := 126) hx hb dM_spend_276 rfl ?_
        have hl : lv_has ls 14 [(0, .ref m), (5, .int (nI (8 * j + k))), (6, .int (nI (16 * p))), (7, .long (bm_h3 mer.toInt64 non.toInt64 (g6 (8 * j + k)))), (9, .int (nI (i + 1)))] := lv_sub hl [5, 6, 7, 8, 0] rfl
        exact ih (i + 1) ls _ _ _ (by omega) hl hz hM hS (by rw [show bm_sr g8 (8 * j + k) p (bm_h3 mer.toInt64 non.toInt64 (g6 (8 * j + k))) (bm_s0 g9 p (f4 (8 * j + k)).toInt64 (g6 (8 * j + k)) mer.toInt64 non.toInt64) (i + 1) = _ from bm_sr_y ho]; exact hP) hF
  exact loop 4 0 ls _ _ _ rfl hl hz hM hS hP hF
