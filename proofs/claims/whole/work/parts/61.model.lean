set_option maxHeartbeats 4000000 in
set_option maxRecDepth 100000 in
theorem bc_M_isGood_n1 (l : Launch) (D : va_G) (ct : Nat → ClassId) (base : Nat) (ad : Nat → Nat) (M : bm_Map) (sz : Nat) (m : Nat) (th : Int32) (tr : Int32) (bl : Int64) (np : Int32) (nd : Int32) (f1 : Nat → Int32) (f2 : Nat → Int32) (f3 : Nat → Int32) (f4 : Nat → Int32) (g5 : Nat → Int64) (g6 : Nat → Int64) (f7 : Nat → Int32) (g8 : Nat → Int64) (g9 : Nat → Int64) (g10 : Nat → Int64) (g11 : Nat → Int64) (g12 : Nat → Int64) (g13 : Nat → Int64) (g14 : Nat → Int64) (g15 : Nat → Int64) (f16 : Nat → Int32) (g17 : Nat → Int64) (v : Int32) (hP : bm_MD ct m th tr bl np nd f1 f2 f3 f4 g5 g6 f7 g8 g9 g10 g11 g12 g13 g14 g15 f16 g17 M) (hv : bm_bl v np = 0) : Met l yM_isGood (bm_ws yM_isGood cM_isGood 9 (some .boolean)) { frames := 3, cells := 0, slots := 0, locals := 71 } (bm_Pre D ct base ad M sz [.ref m, .int v]) (bm_Post D base (bm_Pm m M sz (fun v M1 => v = some (.int 0) ∧ bm_MD ct m th tr bl np nd f1 f2 f3 f4 g5 g6 f7 g8 g9 g10 g11 g12 g13 g14 g15 f16 g17 M1))) 0 0 (bm_A base) := by
  refine bm_ofB (cc := cM_isGood) (maxL := 9) (ret := (some .boolean)) (by decide +kernel) (Nat.le_of_ble_eq_true rfl) ?_
  intro vp ve s vm args below meth vc hx hb hr hlk hts hown hml hnm ls hl hz hM hG R Q hR hQ
  have hown : s.vm.findClass "BlindMintModel" = some vm.cls := hown
  have hK := hG.K
  have hS : va_S (bm_A base) s.heap s.heap [] := va_S.rf
  have hl : lv_has ls 9 [(0, .ref m), (1, .int v)] := hl
  have hF : bm_fr m M M := bm_fr.rf
  refine lv_iload_n hx hb dM_isGood_0 rfl (lv_at hl 1 rfl) ?_
  refine lv_aload_n hx hb dM_isGood_1 rfl (lv_at hl 0 rfl) ?_
  refine bm_get (ci := 7) (v := .int np) (C := "BlindMintModel") (T := bt_M) (N := 22) hx hb hts bu_M hown hK hM hP.c0 rfl 11 (by decide) (hts _ bw_613) (fun _ h9 => h9) rfl dM_isGood_2 ?_
  refine bm_callE (va_runS (As := [.int v, .int np]) (rest := []) ⟨hx, hb, hml, hown, hts⟩ (bc_M_below l D ct base ad M sz v np) (va_cwS 2 hts (bm_goodS bw_679 bw_680 bw_5 bw_681) rfl rfl rfl (by decide +kernel) (by rw [← hR]; exact ⟨Nat.le_of_ble_eq_true rfl, Nat.le_of_ble_eq_true rfl⟩)) (bm_preS hM hG hS hz) rfl rfl hl.1 rfl (lv_room (Nat.le_of_ble_eq_true rfl)) dM_isGood_5 (by rw [← hR]; exact ⟨Nat.le_of_ble_eq_true rfl, Nat.le_of_ble_eq_true rfl⟩)) hS (fun H locs hz hM hS => ?_)
  refine lv_if_eq (tgt := 41) hx hb dM_isGood_8 rfl (fun h8 => ?_) (fun h8 => absurd hv h8)
  refine lv_iconst (v := 0) hx hb dM_isGood_41 (by decide) ?_
  exact bm_zret hQ hx hb hr hlk (by decide) hM hS ⟨hz, ⟨rfl, hP⟩, hF⟩ (Nat.le_refl _) (Nat.le_refl _) dM_isGood_42
set_option maxHeartbeats 4000000 in
set_option maxRecDepth 100000 in
theorem bc_M_isGood_n2 (l : Launch) (D : va_G) (ct : Nat → ClassId) (base : Nat) (ad : Nat → Nat) (M : bm_Map) (sz : Nat) (m : Nat) (th : Int32) (tr : Int32) (bl : Int64) (np : Int32) (nd : Int32) (f1 : Nat → Int32) (f2 : Nat → Int32) (f3 : Nat → Int32) (f4 : Nat → Int32) (g5 : Nat → Int64) (g6 : Nat → Int64) (f7 : Nat → Int32) (g8 : Nat → Int64) (g9 : Nat → Int64) (g10 : Nat → Int64) (g11 : Nat → Int64) (g12 : Nat → Int64) (g13 : Nat → Int64) (g14 : Nat → Int64) (g15 : Nat → Int64) (f16 : Nat → Int32) (g17 : Nat → Int64) (p : Nat) (hP : bm_MD ct m th tr bl np nd f1 f2 f3 f4 g5 g6 f7 g8 g9 g10 g11 g12 g13 g14 g15 f16 g17 M) (hp20 : p < 20) (hv : bm_bl (nI p) np = 1) (hlo : g9 (16 * p) < 0) : Met l yM_isGood (bm_ws yM_isGood cM_isGood 9 (some .boolean)) { frames := 3, cells := 0, slots := 0, locals := 71 } (bm_Pre D ct base ad M sz [.ref m, .int (nI p)]) (bm_Post D base (bm_Pm m M sz (fun v M1 => v = some (.int 0) ∧ bm_MD ct m th tr bl np nd f1 f2 f3 f4 g5 g6 f7 g8 g9 g10 g11 g12 g13 g14 g15 f16 g17 M1))) 0 0 (bm_A base) := by
  refine bm_ofB (cc := cM_isGood) (maxL := 9) (ret := (some .boolean)) (by decide +kernel) (Nat.le_of_ble_eq_true rfl) ?_
  intro vp ve s vm args below meth vc hx hb hr hlk hts hown hml hnm ls hl hz hM hG R Q hR hQ
  have hown : s.vm.findClass "BlindMintModel" = some vm.cls := hown
  have hK := hG.K
  have hS : va_S (bm_A base) s.heap s.heap [] := va_S.rf
  have hl : lv_has ls 9 [(0, .ref m), (1, .int (nI p))] := hl
  have hF : bm_fr m M M := bm_fr.rf
  refine lv_iload_n hx hb dM_isGood_0 rfl (lv_at hl 1 rfl) ?_
  refine lv_aload_n hx hb dM_isGood_1 rfl (lv_at hl 0 rfl) ?_
  refine bm_get (ci := 7) (v := .int np) (C := "BlindMintModel") (T := bt_M) (N := 22) hx hb hts bu_M hown hK hM hP.c0 rfl 11 (by decide) (hts _ bw_613) (fun _ h9 => h9) rfl dM_isGood_2 ?_
  refine bm_callE (va_runS (As := [.int (nI p), .int np]) (rest := []) ⟨hx, hb, hml, hown, hts⟩ (bc_M_below l D ct base ad M sz (nI p) np) (va_cwS 2 hts (bm_goodS bw_679 bw_680 bw_5 bw_681) rfl rfl rfl (by decide +kernel) (by rw [← hR]; exact ⟨Nat.le_of_ble_eq_true rfl, Nat.le_of_ble_eq_true rfl⟩)) (bm_preS hM hG hS hz) rfl rfl hl.1 rfl (lv_room (Nat.le_of_ble_eq_true rfl)) dM_isGood_5 (by rw [← hR]; exact ⟨Nat.le_of_ble_eq_true rfl, Nat.le_of_ble_eq_true rfl⟩)) hS (fun H locs hz hM hS => ?_)
  refine lv_if_eq (tgt := 41) hx hb dM_isGood_8 rfl (fun h8 => absurd h8 (by rw [hv]; decide)) (fun h8 => ?_)
  refine lv_aload_n hx hb dM_isGood_11 rfl (lv_at hl 0 rfl) ?_
  refine bm_get (ci := 7) (v := .ref (m + 9)) (C := "BlindMintModel") (T := bt_M) (N := 22) hx hb hts bu_M hown hK hM hP.c0 rfl 12 (by decide) (hts _ bw_614) (fun _ h9 => h9) rfl dM_isGood_12 ?_
  refine lv_bipush (v := 16) hx hb dM_isGood_15 (by decide) ?_
  refine lv_iload_n hx hb dM_isGood_17 rfl (lv_at hl 1 rfl) ?_
  refine lv_imul hx hb dM_isGood_18 ?_
  refine lv_topi (fun t1 e_t1 => ?_)
  have e_t1 : t1 = nI (16 * p) := by rw [e_t1]; exact pk_mul 16 p
  subst e_t1
  refine bm_lald hx hb hK hM 1 hP.c9 rfl (16 * p) (bm_ix_nI (by omega)) (by omega) dM_isGood_19 ?_
  refine lv_lconst (v := 0) hx hb dM_isGood_20 (by decide) ?_
  refine W.lcmp hx hb dM_isGood_21 ?_
  refine lv_if_lt (tgt := 41) hx hb dM_isGood_22 rfl (fun h22 => ?_) (fun h22 => absurd ((lg_cmp_lt _ _).mpr hlo) h22)
  refine lv_iconst (v := 0) hx hb dM_isGood_41 (by decide) ?_
  exact bm_zret hQ hx hb hr hlk (by decide) hM hS ⟨hz, ⟨rfl, hP⟩, hF⟩ (Nat.le_refl _) (Nat.le_refl _) dM_isGood_42
set_option maxHeartbeats 4000000 in
set_option maxRecDepth 100000 in
theorem bc_M_isGood_n3 (l : Launch) (D : va_G) (ct : Nat → ClassId) (base : Nat) (ad : Nat → Nat) (M : bm_Map) (sz : Nat) (m : Nat) (th : Int32) (tr : Int32) (bl : Int64) (np : Int32) (nd : Int32) (f1 : Nat → Int32) (f2 : Nat → Int32) (f3 : Nat → Int32) (f4 : Nat → Int32) (g5 : Nat → Int64) (g6 : Nat → Int64) (f7 : Nat → Int32) (g8 : Nat → Int64) (g9 : Nat → Int64) (g10 : Nat → Int64) (g11 : Nat → Int64) (g12 : Nat → Int64) (g13 : Nat → Int64) (g14 : Nat → Int64) (g15 : Nat → Int64) (f16 : Nat → Int32) (g17 : Nat → Int64) (p : Nat) (hP : bm_MD ct m th tr bl np nd f1 f2 f3 f4 g5 g6 f7 g8 g9 g10 g11 g12 g13 g14 g15 f16 g17 M) (hp20 : p < 20) (hv : bm_bl (nI p) np = 1) (hlo : ¬ g9 (16 * p) < 0) (hhi : 2 < g9 (16 * p)) : Met l yM_isGood (bm_ws yM_isGood cM_isGood 9 (some .boolean)) { frames := 3, cells := 0, slots := 0, locals := 71 } (bm_Pre D ct base ad M sz [.ref m, .int (nI p)]) (bm_Post D base (bm_Pm m M sz (fun v M1 => v = some (.int 0) ∧ bm_MD ct m th tr bl np nd f1 f2 f3 f4 g5 g6 f7 g8 g9 g10 g11 g12 g13 g14 g15 f16 g17 M1))) 0 0 (bm_A base) := by
  refine bm_ofB (cc := cM_isGood) (maxL := 9) (ret := (some .boolean)) (by decide +kernel) (Nat.le_of_ble_eq_true rfl) ?_
  intro vp ve s vm args below meth vc hx hb hr hlk hts hown hml hnm ls hl hz hM hG R Q hR hQ
  have hown : s.vm.findClass "BlindMintModel" = some vm.cls := hown
  have hK := hG.K
  have hS : va_S (bm_A base) s.heap s.heap [] := va_S.rf
  have hl : lv_has ls 9 [(0, .ref m), (1, .int (nI p))] := hl
  have hF : bm_fr m M M := bm_fr.rf
  refine lv_iload_n hx hb dM_isGood_0 rfl (lv_at hl 1 rfl) ?_
  refine lv_aload_n hx hb dM_isGood_1 rfl (lv_at hl 0 rfl) ?_
  refine bm_get (ci := 7) (v := .int np) (C := "BlindMintModel") (T := bt_M) (N := 22) hx hb hts bu_M hown hK hM hP.c0 rfl 11 (by decide) (hts _ bw_613) (fun _ h9 => h9) rfl dM_isGood_2 ?_
  refine bm_callE (va_runS (As := [.int (nI p), .int np]) (rest := []) ⟨hx, hb, hml, hown, hts⟩ (bc_M_below l D ct base ad M sz (nI p) np) (va_cwS 2 hts (bm_goodS bw_679 bw_680 bw_5 bw_681) rfl rfl rfl (by decide +kernel) (by rw [← hR]; exact ⟨Nat.le_of_ble_eq_true rfl, Nat.le_of_ble_eq_true rfl⟩)) (bm_preS hM hG hS hz) rfl rfl hl.1 rfl (lv_room (Nat.le_of_ble_eq_true rfl)) dM_isGood_5 (by rw [← hR]; exact ⟨Nat.le_of_ble_eq_true rfl, Nat.le_of_ble_eq_true rfl⟩)) hS (fun H locs hz hM hS => ?_)
  refine lv_if_eq (tgt := 41) hx hb dM_isGood_8 rfl (fun h8 => absurd h8 (by rw [hv]; decide)) (fun h8 => ?_)
  refine lv_aload_n hx hb dM_isGood_11 rfl (lv_at hl 0 rfl) ?_
  refine bm_get (ci := 7) (v := .ref (m + 9)) (C := "BlindMintModel") (T := bt_M) (N := 22) hx hb hts bu_M hown hK hM hP.c0 rfl 12 (by decide) (hts _ bw_614) (fun _ h9 => h9) rfl dM_isGood_12 ?_
  refine lv_bipush (v := 16) hx hb dM_isGood_15 (by decide) ?_
  refine lv_iload_n hx hb dM_isGood_17 rfl (lv_at hl 1 rfl) ?_
  refine lv_imul hx hb dM_isGood_18 ?_
  refine lv_topi (fun t1 e_t1 => ?_)
  have e_t1 : t1 = nI (16 * p) := by rw [e_t1]; exact pk_mul 16 p
  subst e_t1
  refine bm_lald hx hb hK hM 1 hP.c9 rfl (16 * p) (bm_ix_nI (by omega)) (by omega) dM_isGood_19 ?_
  refine lv_lconst (v := 0) hx hb dM_isGood_20 (by decide) ?_
  refine W.lcmp hx hb dM_isGood_21 ?_
  refine lv_if_lt (tgt := 41) hx hb dM_isGood_22 rfl (fun h22 => absurd ((lg_cmp_lt _ _).mp h22) hlo) (fun h22 => ?_)
  refine lv_aload_n hx hb dM_isGood_25 rfl (lv_at hl 0 rfl) ?_
  refine bm_get (ci := 7) (v := .ref (m + 9)) (C := "BlindMintModel") (T := bt_M) (N := 22) hx hb hts bu_M hown hK hM hP.c0 rfl 12 (by decide) (hts _ bw_614) (fun _ h9 => h9) rfl dM_isGood_26 ?_
  refine lv_bipush (v := 16) hx hb dM_isGood_29 (by decide) ?_
  refine lv_iload_n hx hb dM_isGood_31 rfl (lv_at hl 1 rfl) ?_
  refine lv_imul hx hb dM_isGood_32 ?_
  refine lv_topi (fun t2 e_t2 => ?_)
  have e_t2 : t2 = nI (16 * p) := by rw [e_t2]; exact pk_mul 16 p
  subst e_t2
  refine bm_lald hx hb hK hM 1 hP.c9 rfl (16 * p) (bm_ix_nI (by omega)) (by omega) dM_isGood_33 ?_
  refine lv_ldc2 hx hb hown (hts _ bw_707) dM_isGood_34 ?_
  refine W.lcmp hx hb dM_isGood_37 ?_
  refine lv_if_le (tgt := 43) hx hb dM_isGood_38 rfl (fun h38 => absurd hhi (Int64.not_lt.mpr ((lg_cmp_le _ _).mp h38))) (fun h38 => ?_)
  refine lv_iconst (v := 0) hx hb dM_isGood_41 (by decide) ?_
  exact bm_zret hQ hx hb hr hlk (by decide) hM hS ⟨hz, ⟨rfl, hP⟩, hF⟩ (Nat.le_refl _) (Nat.le_refl _) dM_isGood_42
set_option maxHeartbeats 4000000 in
set_option maxRecDepth 100000 in
theorem bc_M_isGood_ok (l : Launch) (D : va_G) (ct : Nat → ClassId) (base : Nat) (ad : Nat → Nat) (M : bm_Map) (sz : Nat) (m : Nat) (th : Int32) (tr : Int32) (bl : Int64) (np : Int32) (nd : Int32) (f1 : Nat → Int32) (f2 : Nat → Int32) (f3 : Nat → Int32) (f4 : Nat → Int32) (g5 : Nat → Int64) (g6 : Nat → Int64) (f7 : Nat → Int32) (g8 : Nat → Int64) (g9 : Nat → Int64) (g10 : Nat → Int64) (g11 : Nat → Int64) (g12 : Nat → Int64) (g13 : Nat → Int64) (g14 : Nat → Int64) (g15 : Nat → Int64) (f16 : Nat → Int32) (g17 : Nat → Int64) (p : Nat) (hP : bm_MD ct m th tr bl np nd f1 f2 f3 f4 g5 g6 f7 g8 g9 g10 g11 g12 g13 g14 g15 f16 g17 M) (hp20 : p < 20) (hv : bm_bl (nI p) np = 1) (d k : Nat) (hd0 : g9 (16 * p) = lN d) (hd : d < 3) (hnum : bm_hc (lN d) (bm_ph g9 p (bm_ch g9 p)) = lN k) (hk : k < 2 ^ 59) : Met l yM_isGood (bm_ws yM_isGood cM_isGood 9 (some .boolean)) { frames := 3, cells := 0, slots := 0, locals := 71 } (bm_Pre D ct base ad M sz [.ref m, .int (nI p)]) (bm_Post D base (bm_Pm m M sz (fun v M1 => v = some (.int (bm_gd (bm_gw (bm_ph g9 p (bm_ch g9 p)) 4) (bm_is d (g9 (16 * p + 1)) k))) ∧ bm_MD ct m th tr bl np nd f1 f2 f3 f4 g5 g6 f7 g8 g9 g10 g11 g12 g13 g14 g15 f16 (bm_hs (bm_ph g9 p (bm_ch g9 p)) g17 4) M1))) 0 0 (bm_A base) := by
  refine bm_ofB (cc := cM_isGood) (maxL := 9) (ret := (some .boolean)) (by decide +kernel) (Nat.le_of_ble_eq_true rfl) ?_
  intro vp ve s vm args below meth vc hx hb hr hlk hts hown hml hnm ls hl hz hM hG R Q hR hQ
  have hown : s.vm.findClass "BlindMintModel" = some vm.cls := hown
  have hK := hG.K
  have hS : va_S (bm_A base) s.heap s.heap [] := va_S.rf
  have hl : lv_has ls 9 [(0, .ref m), (1, .int (nI p))] := hl
  have hF : bm_fr m M M := bm_fr.rf
  refine lv_iload_n hx hb dM_isGood_0 rfl (lv_at hl 1 rfl) ?_
  refine lv_aload_n hx hb dM_isGood_1 rfl (lv_at hl 0 rfl) ?_
  refine bm_get (ci := 7) (v := .int np) (C := "BlindMintModel") (T := bt_M) (N := 22) hx hb hts bu_M hown hK hM hP.c0 rfl 11 (by decide) (hts _ bw_613) (fun _ h9 => h9) rfl dM_isGood_2 ?_
  refine bm_callE (va_runS (As := [.int (nI p), .int np]) (rest := []) ⟨hx, hb, hml, hown, hts⟩ (bc_M_below l D ct base ad M sz (nI p) np) (va_cwS 2 hts (bm_goodS bw_679 bw_680 bw_5 bw_681) rfl rfl rfl (by decide +kernel) (by rw [← hR]; exact ⟨Nat.le_of_ble_eq_true rfl, Nat.le_of_ble_eq_true rfl⟩)) (bm_preS hM hG hS hz) rfl rfl hl.1 rfl (lv_room (Nat.le_of_ble_eq_true rfl)) dM_isGood_5 (by rw [← hR]; exact ⟨Nat.le_of_ble_eq_true rfl, Nat.le_of_ble_eq_true rfl⟩)) hS (fun H locs hz hM hS => ?_)
  refine lv_if_eq (tgt := 41) hx hb dM_isGood_8 rfl (fun h8 => absurd h8 (by rw [hv]; decide)) (fun h8 => ?_)
  refine lv_aload_n hx hb dM_isGood_11 rfl (lv_at hl 0 rfl) ?_
  refine bm_get (ci := 7) (v := .ref (m + 9)) (C := "BlindMintModel") (T := bt_M) (N := 22) hx hb hts bu_M hown hK hM hP.c0 rfl 12 (by decide) (hts _ bw_614) (fun _ h9 => h9) rfl dM_isGood_12 ?_
  refine lv_bipush (v := 16) hx hb dM_isGood_15 (by decide) ?_
  refine lv_iload_n hx hb dM_isGood_17 rfl (lv_at hl 1 rfl) ?_
  refine lv_imul hx hb dM_isGood_18 ?_
  refine lv_topi (fun t1 e_t1 => ?_)
  have e_t1 : t1 = nI (16 * p) := by rw [e_t1]; exact pk_mul 16 p
  subst e_t1
  refine bm_lald hx hb hK hM 1 hP.c9 rfl (16 * p) (bm_ix_nI (by omega)) (by omega) dM_isGood_19 ?_
  refine lv_topl (fun t2 e_t2 => ?_)
  have e_t2 : t2 = lN d := by rw [e_t2]; exact hd0
  subst e_t2
  refine lv_lconst (v := 0) hx hb dM_isGood_20 (by decide) ?_
  refine W.lcmp hx hb dM_isGood_21 ?_
  refine lv_if_lt (tgt := 41) hx hb dM_isGood_22 rfl (fun h22 => absurd h22 (bm_lt3 hd)) (fun h22 => ?_)
  refine lv_aload_n hx hb dM_isGood_25 rfl (lv_at hl 0 rfl) ?_
  refine bm_get (ci := 7) (v := .ref (m + 9)) (C := "BlindMintModel") (T := bt_M) (N := 22) hx hb hts bu_M hown hK hM hP.c0 rfl 12 (by decide) (hts _ bw_614) (fun _ h9 => h9) rfl dM_isGood_26 ?_
  refine lv_bipush (v := 16) hx hb dM_isGood_29 (by decide) ?_
  refine lv_iload_n hx hb dM_isGood_31 rfl (lv_at hl 1 rfl) ?_
  refine lv_imul hx hb dM_isGood_32 ?_
  refine lv_topi (fun t3 e_t3 => ?_)
  have e_t3 : t3 = nI (16 * p) := by rw [e_t3]; exact pk_mul 16 p
  subst e_t3
  refine bm_lald hx hb hK hM 1 hP.c9 rfl (16 * p) (bm_ix_nI (by omega)) (by omega) dM_isGood_33 ?_
  refine lv_topl (fun t4 e_t4 => ?_)
  have e_t4 : t4 = lN d := by rw [e_t4]; exact hd0
  subst e_t4
  refine lv_ldc2 hx hb hown (hts _ bw_707) dM_isGood_34 ?_
  refine W.lcmp hx hb dM_isGood_37 ?_
  refine lv_if_le (tgt := 43) hx hb dM_isGood_38 rfl (fun h38 => ?_) (fun h38 => absurd (bm_le3 hd) h38)
  refine lv_aload_n hx hb dM_isGood_43 rfl (lv_at hl 0 rfl) ?_
  refine lv_iload_n hx hb dM_isGood_44 rfl (lv_at hl 1 rfl) ?_
  refine bm_call (va_runV (As := [.int (nI p)]) (rest := []) ⟨hx, hb, hml, hown, hts⟩ (bc_M_choiceOf l D ct base ad M sz m th tr bl np nd f1 f2 f3 f4 g5 g6 f7 g8 g9 g10 g11 g12 g13 g14 g15 f16 g17 p hP hp20) (cwV 1 hts (bm_goodV bw_784 bw_786 bs_18 bw_5 bw_787) rfl rfl rfl (by decide +kernel) (by rw [← hR]; exact ⟨Nat.le_of_ble_eq_true rfl, Nat.le_of_ble_eq_true rfl⟩)) (bm_preV hM hG hS hz hP.c0 rfl) rfl rfl hl.1 rfl (lv_room (Nat.le_of_ble_eq_true rfl)) dM_isGood_45 (by rw [← hR]; exact ⟨Nat.le_of_ble_eq_true rfl, Nat.le_of_ble_eq_true rfl⟩)) hS (fun v9 M5 H locs hq hM hS _ => ?_)
  obtain ⟨hz, ⟨rfl, hP⟩, hF9⟩ := hq
  have hF := hF.tr hF9
  refine lv_lstore_n hx hb dM_isGood_48 rfl hl (by decide) rfl (fun ls hl => ?_)
  have hl : lv_has ls 9 [(2, .long (bm_ch g9 p)), (0, .ref m), (1, .int (nI p))] := hl
  refine lv_iconst (v := 1) hx hb dM_isGood_49 (by decide) ?_
  refine lv_istore hx hb dM_isGood_50 hl (by decide) rfl (fun ls hl => ?_)
  have hl : lv_has ls 9 [(4, .int 1), (2, .long (bm_ch g9 p)), (0, .ref m), (1, .int (nI p))] := hl
  refine lv_iconst (v := 0) hx hb dM_isGood_52 (by decide) ?_
  refine lv_istore hx hb dM_isGood_53 hl (by decide) rfl (fun ls hl => ?_)
  have hl : lv_has ls 9 [(5, .int 0), (4, .int 1), (2, .long (bm_ch g9 p)), (0, .ref m), (1, .int (nI p))] := hl
  have hl : lv_has ls 9 [(0, .ref m), (1, .int (nI p)), (2, .long (bm_ch g9 p)), (4, .int 1), (5, .int 0)] := lv_sub hl [3, 4, 2, 1, 0] rfl
  have loop : ∀ (n : Nat) (i : Nat) (ls : Array Slot) (H : Heap) (locs : List Loc) (M6 : bm_Map), i + n = 4 → lv_has ls 9 [(0, .ref m), (1, .int (nI p)), (2, .long (bm_ch g9 p)), (4, .int (bm_gw (bm_ph g9 p (bm_ch g9 p)) i)), (5, .int (nI i))] → H.size = sz → bm_M D base M6 H → va_S (bm_A base) s.heap H locs → bm_MD ct m th tr bl np nd f1 f2 f3 f4 g5 g6 f7 g8 g9 g10 g11 g12 g13 g14 g15 f16 (bm_hs (bm_ph g9 p (bm_ch g9 p)) g17 i) M6 → bm_fr m M M6 → W vp l ve R s vm args below meth vc H locs 0 0 Q (F0 vm 55 ls []) := by
    clear hP hF hM hz hS hl
    intro n
    induction n with
    | zero =>
      intro i ls H locs M6 hi hl hz hM hS hP hF
      obtain rfl : i = 4 := by omega
      have hl : lv_has ls 9 [(0, .ref m), (1, .int (nI p)), (2, .long (bm_ch g9 p)), (4, .int (bm_gw (bm_ph g9 p (bm_ch g9 p)) 4)), (5, .int 4)] := hl
      refine lv_iload hx hb dM_isGood_55 (lv_at hl 4 rfl) ?_
      refine lv_iconst (v := 4) hx hb dM_isGood_57 (by decide) ?_
      refine lv_icmp_ge (tgt := 187) hx hb dM_isGood_58 rfl (fun _ => ?_) (fun h => absurd h (by decide))
      refine lv_iload hx hb dM_isGood_187 (lv_at hl 3 rfl) ?_
      refine lv_if_eq (tgt := 236) hx hb dM_isGood_189 rfl (fun h189 => ?_) (fun h189 => ?_)
      · refine lv_iconst (v := 0) hx hb dM_isGood_236 (by decide) ?_
        exact bm_zret hQ hx hb hr hlk (by decide) hM hS ⟨hz, ⟨congrArg (fun z => some (Value.int z)) (bm_gd_0 h189), hP⟩, hF⟩ (Nat.le_refl _) (Nat.le_refl _) dM_isGood_237
      · refine lv_aload_n hx hb dM_isGood_192 rfl (lv_at hl 0 rfl) ?_
        refine bm_get (ci := 7) (v := .ref (m + 9)) (C := "BlindMintModel") (T := bt_M) (N := 22) hx hb hts bu_M hown hK hM hP.c0 rfl 12 (by decide) (hts _ bw_614) (fun _ h9 => h9) rfl dM_isGood_193 ?_
        refine lv_bipush (v := 16) hx hb dM_isGood_196 (by decide) ?_
        refine lv_iload_n hx hb dM_isGood_198 rfl (lv_at hl 1 rfl) ?_
        refine lv_imul hx hb dM_isGood_199 ?_
        refine lv_iconst (v := 1) hx hb dM_isGood_200 (by decide) ?_
        refine lv_iadd hx hb dM_isGood_201 ?_
        refine lv_topi (fun t7 e_t7 => ?_)
        have e_t7 : t7 = nI (16 * p + 1) := by rw [e_t7]; show nI 16 * nI p + nI 1 = _; rw [pk_mul, nI_add]
        subst e_t7
        refine bm_lald hx hb hK hM 1 hP.c9 rfl (16 * p + 1) (bm_ix_nI (by omega)) (by omega) dM_isGood_202 ?_
        refine lv_aload_n hx hb dM_isGood_203 rfl (lv_at hl 0 rfl) ?_
        refine lv_aload_n hx hb dM_isGood_204 rfl (lv_at hl 0 rfl) ?_
        refine bm_get (ci := 7) (v := .ref (m + 9)) (C := "BlindMintModel") (T := bt_M) (N := 22) hx hb hts bu_M hown hK hM hP.c0 rfl 12 (by decide) (hts _ bw_614) (fun _ h9 => h9) rfl dM_isGood_205 ?_
        refine lv_bipush (v := 16) hx hb dM_isGood_208 (by decide) ?_
        refine lv_iload_n hx hb dM_isGood_210 rfl (lv_at hl 1 rfl) ?_
        refine lv_imul hx hb dM_isGood_211 ?_
        refine lv_topi (fun t8 e_t8 => ?_)
        have e_t8 : t8 = nI (16 * p) := by rw [e_t8]; exact pk_mul 16 p
        subst e_t8
        refine bm_lald hx hb hK hM 1 hP.c9 rfl (16 * p) (bm_ix_nI (by omega)) (by omega) dM_isGood_212 ?_
        refine lv_topl (fun t9 e_t9 => ?_)
        have e_t9 : t9 = lN d := by rw [e_t9]; exact hd0
        subst e_t9
        refine bm_call (va_runV (As := [.long (lN d)]) (rest := [.long (g9 (16 * p + 1))]) ⟨hx, hb, hml, hown, hts⟩ (bc_M_numberOf l D ct base ad M6 sz m th tr bl np nd f1 f2 f3 f4 g5 g6 f7 g8 g9 g10 g11 g12 g13 g14 g15 f16 (bm_hs (bm_ph g9 p (bm_ch g9 p)) g17 4) (lN d) hP) (cwV 1 hts (bm_goodV bw_719 bw_721 bs_14 bw_5 bw_722) rfl rfl rfl (by decide +kernel) (by rw [← hR]; exact ⟨Nat.le_of_ble_eq_true rfl, Nat.le_of_ble_eq_true rfl⟩)) (bm_preV hM hG hS hz hP.c0 rfl) rfl rfl hl.1 rfl (lv_room (Nat.le_of_ble_eq_true rfl)) dM_isGood_213 (by rw [← hR]; exact ⟨Nat.le_of_ble_eq_true rfl, Nat.le_of_ble_eq_true rfl⟩)) hS (fun v9 M10 H locs hq hM hS _ => ?_)
        obtain ⟨hz, ⟨rfl, hP⟩, hF9⟩ := hq
        have hF := hF.tr hF9
        refine lv_topl (fun t11 e_t11 => ?_)
        have e_t11 : t11 = lN k := by rw [e_t11]; exact (bm_hc_eq (fun t ht => bm_hs_at ht)).trans hnum
        subst e_t11
        refine lv_aload_n hx hb dM_isGood_216 rfl (lv_at hl 0 rfl) ?_
        refine bm_get (ci := 7) (v := .ref (m + 9)) (C := "BlindMintModel") (T := bt_M) (N := 22) hx hb hts bu_M hown hK hM hP.c0 rfl 12 (by decide) (hts _ bw_614) (fun _ h9 => h9) rfl dM_isGood_217 ?_
        refine lv_bipush (v := 16) hx hb dM_isGood_220 (by decide) ?_
        refine lv_iload_n hx hb dM_isGood_222 rfl (lv_at hl 1 rfl) ?_
        refine lv_imul hx hb dM_isGood_223 ?_
        refine lv_topi (fun t12 e_t12 => ?_)
        have e_t12 : t12 = nI (16 * p) := by rw [e_t12]; exact pk_mul 16 p
        subst e_t12
        refine bm_lald hx hb hK hM 1 hP.c9 rfl (16 * p) (bm_ix_nI (by omega)) (by omega) dM_isGood_224 ?_
        refine lv_topl (fun t13 e_t13 => ?_)
        have e_t13 : t13 = lN d := by rw [e_t13]; exact hd0
        subst e_t13
        refine lv_l2i (v := nI d) hx hb dM_isGood_225 (lN_i _) ?_
        refine bm_callE (va_runS (As := [.long (g9 (16 * p + 1)), .long (lN k), .int (nI d)]) (rest := []) ⟨hx, hb, hml, hown, hts⟩ (bc_M_isSignature l D ct base ad M10 sz d (g9 (16 * p + 1)) k hd (by omega)) (va_cwS 3 hts (bm_goodS bw_788 bw_789 bw_5 bw_790) rfl rfl rfl (by decide +kernel) (by rw [← hR]; exact ⟨Nat.le_of_ble_eq_true rfl, Nat.le_of_ble_eq_true rfl⟩)) (bm_preS hM hG hS hz) rfl rfl hl.1 rfl (lv_room (Nat.le_of_ble_eq_true rfl)) dM_isGood_226 (by rw [← hR]; exact ⟨Nat.le_of_ble_eq_true rfl, Nat.le_of_ble_eq_true rfl⟩)) hS (fun H locs hz hM hS => ?_)
        refine lv_if_eq (tgt := 236) hx hb dM_isGood_229 rfl (fun h229 => ?_) (fun h229 => ?_)
        · refine lv_iconst (v := 0) hx hb dM_isGood_236 (by decide) ?_
          exact bm_zret hQ hx hb hr hlk (by decide) hM hS ⟨hz, ⟨congrArg (fun z => some (Value.int z)) (bm_gd_1 h189 h229), hP⟩, hF⟩ (Nat.le_refl _) (Nat.le_refl _) dM_isGood_237
        · refine lv_iconst (v := 1) hx hb dM_isGood_232 (by decide) ?_
          refine lv_goto (tgt := 237) hx hb dM_isGood_233 rfl ?_
          exact bm_zret hQ hx hb hr hlk (by decide) hM hS ⟨hz, ⟨congrArg (fun z => some (Value.int z)) (bm_gd_1 h189 (bm_is_01 h229)), hP⟩, hF⟩ (Nat.le_refl _) (Nat.le_refl _) dM_isGood_237
    | succ n ih =>
      intro i ls H locs M6 hi hl hz hM hS hP hF
      refine lv_iload hx hb dM_isGood_55 (lv_at hl 4 rfl) ?_
      refine lv_iconst (v := 4) hx hb dM_isGood_57 (by decide) ?_
      refine lv_icmp_ge (tgt := 187) hx hb dM_isGood_58 rfl (fun h58 => absurd h58 (nI_ge (b := 4) (by omega) (by decide))) (fun h58 => ?_)
      refine lv_bipush (v := 16) hx hb dM_isGood_61 (by decide) ?_
      refine lv_iload_n hx hb dM_isGood_63 rfl (lv_at hl 1 rfl) ?_
      refine lv_imul hx hb dM_isGood_64 ?_
      refine lv_iconst (v := 4) hx hb dM_isGood_65 (by decide) ?_
      refine lv_iadd hx hb dM_isGood_66 ?_
      refine lv_iconst (v := 3) hx hb dM_isGood_67 (by decide) ?_
      refine lv_iload hx hb dM_isGood_68 (lv_at hl 4 rfl) ?_
      refine lv_imul hx hb dM_isGood_70 ?_
      refine lv_iadd hx hb dM_isGood_71 ?_
      refine lv_topi (fun t14 e_t14 => ?_)
      have e_t14 : t14 = nI (16 * p + (4 + 3 * i)) := by rw [e_t14]; show nI 16 * nI p + nI 4 + nI 3 * nI i = _; rw [pk_mul, pk_mul, nI_add, nI_add, Nat.add_assoc]
      subst e_t14
      refine lv_istore hx hb dM_isGood_72 hl (by decide) rfl (fun ls hl => ?_)
      have hl : lv_has ls 9 [(6, .int (nI (16 * p + (4 + 3 * i)))), (0, .ref m), (1, .int (nI p)), (2, .long (bm_ch g9 p)), (4, .int (bm_gw (bm_ph g9 p (bm_ch g9 p)) i)), (5, .int (nI i))] := hl
      refine lv_aload_n hx hb dM_isGood_74 rfl (lv_at hl 1 rfl) ?_
      refine bm_get (ci := 7) (v := .ref (m + 9)) (C := "BlindMintModel") (T := bt_M) (N := 22) hx hb hts bu_M hown hK hM hP.c0 rfl 12 (by decide) (hts _ bw_614) (fun _ h9 => h9) rfl dM_isGood_75 ?_
      refine lv_iload hx hb dM_isGood_78 (lv_at hl 0 rfl) ?_
      refine bm_lald hx hb hK hM 1 hP.c9 rfl (16 * p + (4 + 3 * i)) (bm_ix_nI (by omega)) (by omega) dM_isGood_80 ?_
      refine lv_aload_n hx hb dM_isGood_81 rfl (lv_at hl 1 rfl) ?_
      refine bm_get (ci := 7) (v := .ref (m + 9)) (C := "BlindMintModel") (T := bt_M) (N := 22) hx hb hts bu_M hown hK hM hP.c0 rfl 12 (by decide) (hts _ bw_614) (fun _ h9 => h9) rfl dM_isGood_82 ?_
      refine lv_iload hx hb dM_isGood_85 (lv_at hl 0 rfl) ?_
      refine lv_iconst (v := 1) hx hb dM_isGood_87 (by decide) ?_
      refine lv_iadd hx hb dM_isGood_88 ?_
      refine lv_topi (fun t15 e_t15 => ?_)
      have e_t15 : t15 = nI (16 * p + (4 + 3 * i) + 1) := by rw [e_t15]; exact nI_add _ 1
      subst e_t15
      refine bm_lald hx hb hK hM 1 hP.c9 rfl (16 * p + (4 + 3 * i) + 1) (bm_ix_nI (by omega)) (by omega) dM_isGood_89 ?_
      refine bm_callE (va_runS (As := [.long (g9 (16 * p + (4 + 3 * i))), .long (g9 (16 * p + (4 + 3 * i) + 1))]) (rest := []) ⟨hx, hb, hml, hown, hts⟩ (bc_M_hash2 l D ct base ad M6 sz (g9 (16 * p + (4 + 3 * i))) (g9 (16 * p + (4 + 3 * i) + 1))) (va_cwS 2 hts (bm_goodS bw_694 bw_695 bw_5 bw_696) rfl rfl rfl (by decide +kernel) (by rw [← hR]; exact ⟨Nat.le_of_ble_eq_true rfl, Nat.le_of_ble_eq_true rfl⟩)) (bm_preS hM hG hS hz) rfl rfl hl.1 rfl (lv_room (Nat.le_of_ble_eq_true rfl)) dM_isGood_90 (by rw [← hR]; exact ⟨Nat.le_of_ble_eq_true rfl, Nat.le_of_ble_eq_true rfl⟩)) hS (fun H locs hz hM hS => ?_)
      refine lv_lstore hx hb dM_isGood_93 hl (by decide) rfl (fun ls hl => ?_)
      have hl : lv_has ls 9 [(7, .long (bm_h2 (g9 (16 * p + (4 + 3 * i))) (g9 (16 * p + (4 + 3 * i) + 1)))), (6, .int (nI (16 * p + (4 + 3 * i)))), (0, .ref m), (1, .int (nI p)), (2, .long (bm_ch g9 p)), (4, .int (bm_gw (bm_ph g9 p (bm_ch g9 p)) i)), (5, .int (nI i))] := hl
      refine lv_aload_n hx hb dM_isGood_95 rfl (lv_at hl 2 rfl) ?_
      refine bm_get (ci := 7) (v := .ref (m + 17)) (C := "BlindMintModel") (T := bt_M) (N := 22) hx hb hts bu_M hown hK hM hP.c0 rfl 21 (by decide) (hts _ bw_623) (fun _ h9 => h9) rfl dM_isGood_96 ?_
      refine lv_iload hx hb dM_isGood_99 (lv_at hl 6 rfl) ?_
      refine lv_lload_n hx hb dM_isGood_101 rfl (lv_at hl 4 rfl) ?_
      refine lv_iload hx hb dM_isGood_102 (lv_at hl 6 rfl) ?_
      refine lv_lshr hx hb dM_isGood_104 rfl ?_
      refine lv_lconst (v := 1) hx hb dM_isGood_105 (by decide) ?_
      refine lv_land hx hb dM_isGood_106 ?_
      refine lv_lconst (v := 1) hx hb dM_isGood_107 (by decide) ?_
      refine W.lcmp hx hb dM_isGood_108 ?_
      refine lv_if_ne (tgt := 129) hx hb dM_isGood_109 rfl (fun h109 => ?_) (fun h109 => ?_)
      · have ho : ¬ bm_one (bm_ch g9 p) (nI i) = 1 := bm_one01 (bm_one0 (fun q => h109 ((lg_cmp_eq _ _).mpr q)))
        refine lv_aload_n hx hb dM_isGood_129 rfl (lv_at hl 2 rfl) ?_
        refine bm_get (ci := 7) (v := .ref (m + 9)) (C := "BlindMintModel") (T := bt_M) (N := 22) hx hb hts bu_M hown hK hM hP.c0 rfl 12 (by decide) (hts _ bw_614) (fun _ h9 => h9) rfl dM_isGood_130 ?_
        refine lv_iload hx hb dM_isGood_133 (lv_at hl 1 rfl) ?_
        refine lv_iconst (v := 2) hx hb dM_isGood_135 (by decide) ?_
        refine lv_iadd hx hb dM_isGood_136 ?_
        refine lv_topi (fun t16 e_t16 => ?_)
        have e_t16 : t16 = nI (16 * p + (4 + 3 * i) + 2) := by rw [e_t16]; exact nI_add _ 2
        subst e_t16
        refine bm_lald hx hb hK hM 1 hP.c9 rfl (16 * p + (4 + 3 * i) + 2) (bm_ix_nI (by omega)) (by omega) dM_isGood_137 ?_
        refine lv_lload hx hb dM_isGood_138 (lv_at hl 0 rfl) ?_
        refine bm_callE (va_runS (As := [.long (g9 (16 * p + (4 + 3 * i) + 2)), .long (bm_h2 (g9 (16 * p + (4 + 3 * i))) (g9 (16 * p + (4 + 3 * i) + 1)))]) (rest := [.int (nI i), .ref (m + 17)]) ⟨hx, hb, hml, hown, hts⟩ (bc_M_hash2 l D ct base ad M6 sz (g9 (16 * p + (4 + 3 * i) + 2)) (bm_h2 (g9 (16 * p + (4 + 3 * i))) (g9 (16 * p + (4 + 3 * i) + 1)))) (va_cwS 2 hts (bm_goodS bw_694 bw_695 bw_5 bw_696) rfl rfl rfl (by decide +kernel) (by rw [← hR]; exact ⟨Nat.le_of_ble_eq_true rfl, Nat.le_of_ble_eq_true rfl⟩)) (bm_preS hM hG hS hz) rfl rfl hl.1 rfl (lv_room (Nat.le_of_ble_eq_true rfl)) dM_isGood_140 (by rw [← hR]; exact ⟨Nat.le_of_ble_eq_true rfl, Nat.le_of_ble_eq_true rfl⟩)) hS (fun H locs hz hM hS => ?_)
        refine lv_topl (fun t17 e_t17 => ?_)
        have e_t17 : t17 = bm_ph g9 p (bm_ch g9 p) i := by rw [e_t17]; exact bm_ph_n ho
        subst e_t17
        refine bm_last hx hb hK hM hS 1 hP.c17 rfl i (bm_ix_nI (by omega)) (by omega) dM_isGood_143 (fun H locs hz1 hM hS => ?_)
        have hz := hz1.trans hz
        obtain ⟨M18, hM, hP, hF⟩ : ∃ X, bm_M D base X H ∧ bm_MD ct m th tr bl np nd f1 f2 f3 f4 g5 g6 f7 g8 g9 g10 g11 g12 g13 g14 g15 f16 (vp_updL (bm_hs (bm_ph g9 p (bm_ch g9 p)) g17 i) i (bm_ph g9 p (bm_ch g9 p) i)) X ∧ bm_fr m M X := ⟨_, hM, hP.s17 _, hF.up (by decide)⟩
        refine lv_iload hx hb dM_isGood_144 (lv_at hl 5 rfl) ?_
        refine lv_if_eq (tgt := 178) hx hb dM_isGood_146 rfl (fun h146 => ?_) (fun h146 => ?_)
        · refine lv_iconst (v := 0) hx hb dM_isGood_178 (by decide) ?_
          refine lv_istore hx hb dM_isGood_179 hl (by decide) rfl (fun ls hl => ?_)
          have hl : lv_has ls 9 [(4, .int 0), (7, .long (bm_h2 (g9 (16 * p + (4 + 3 * i))) (g9 (16 * p + (4 + 3 * i) + 1)))), (6, .int (nI (16 * p + (4 + 3 * i)))), (0, .ref m), (1, .int (nI p)), (2, .long (bm_ch g9 p)), (5, .int (nI i))] := hl
          have hl : lv_has ls 9 [(4, .int (bm_gw (bm_ph g9 p (bm_ch g9 p)) (i + 1))), (7, .long (bm_h2 (g9 (16 * p + (4 + 3 * i))) (g9 (16 * p + (4 + 3 * i) + 1)))), (6, .int (nI (16 * p + (4 + 3 * i)))), (0, .ref m), (1, .int (nI p)), (2, .long (bm_ch g9 p)), (5, .int (nI i))] := by rw [show bm_gw (bm_ph g9 p (bm_ch g9 p)) (i + 1) = _ from bm_gw_0 h146]; exact hl
          refine lv_iinc (v := nI (i + 1)) (k := 6) hx hb dM_isGood_181 hl rfl (bm_inc i) (by decide) rfl (fun ls hl => ?_)
          have hl : lv_has ls 9 [(5, .int (nI (i + 1))), (4, .int (bm_gw (bm_ph g9 p (bm_ch g9 p)) (i + 1))), (7, .long (bm_h2 (g9 (16 * p + (4 + 3 * i))) (g9 (16 * p + (4 + 3 * i) + 1)))), (6, .int (nI (16 * p + (4 + 3 * i)))), (0, .ref m), (1, .int (nI p)), (2, .long (bm_ch g9 p))] := hl
          refine lv_goto (tgt := 55) hx hb dM_isGood_184 rfl ?_
          have hl : lv_has ls 9 [(0, .ref m), (1, .int (nI p)), (2, .long (bm_ch g9 p)), (4, .int (bm_gw (bm_ph g9 p (bm_ch g9 p)) (i + 1))), (5, .int (nI (i + 1)))] := lv_sub hl [4, 5, 6, 1, 0] rfl
          exact ih (i + 1) ls _ _ _ (by omega) hl hz hM hS hP hF
        · refine lv_iload hx hb dM_isGood_149 (lv_at hl 6 rfl) ?_
          refine lv_if_eq (tgt := 174) hx hb dM_isGood_151 rfl (fun h151 => ?_) (fun h151 => ?_)
          · refine lv_iconst (v := 1) hx hb dM_isGood_174 (by decide) ?_
            refine lv_goto (tgt := 179) hx hb dM_isGood_175 rfl ?_
            refine lv_istore hx hb dM_isGood_179 hl (by decide) rfl (fun ls hl => ?_)
            have hl : lv_has ls 9 [(4, .int 1), (7, .long (bm_h2 (g9 (16 * p + (4 + 3 * i))) (g9 (16 * p + (4 + 3 * i) + 1)))), (6, .int (nI (16 * p + (4 + 3 * i)))), (0, .ref m), (1, .int (nI p)), (2, .long (bm_ch g9 p)), (5, .int (nI i))] := hl
            have hl : lv_has ls 9 [(4, .int (bm_gw (bm_ph g9 p (bm_ch g9 p)) (i + 1))), (7, .long (bm_h2 (g9 (16 * p + (4 + 3 * i))) (g9 (16 * p + (4 + 3 * i) + 1)))), (6, .int (nI (16 * p + (4 + 3 * i)))), (0, .ref m), (1, .int (nI p)), (2, .long (bm_ch g9 p)), (5, .int (nI i))] := by rw [show bm_gw (bm_ph g9 p (bm_ch g9 p)) (i + 1) = _ from bm_gw_z h146 (by have z := (nI_eq (b := 0) (by omega) (by decide)).mp h151; exact z)]; exact hl
            refine lv_iinc (v := nI (i + 1)) (k := 6) hx hb dM_isGood_181 hl rfl (bm_inc i) (by decide) rfl (fun ls hl => ?_)
            have hl : lv_has ls 9 [(5, .int (nI (i + 1))), (4, .int (bm_gw (bm_ph g9 p (bm_ch g9 p)) (i + 1))), (7, .long (bm_h2 (g9 (16 * p + (4 + 3 * i))) (g9 (16 * p + (4 + 3 * i) + 1)))), (6, .int (nI (16 * p + (4 + 3 * i)))), (0, .ref m), (1, .int (nI p)), (2, .long (bm_ch g9 p))] := hl
            refine lv_goto (tgt := 55) hx hb dM_isGood_184 rfl ?_
            have hl : lv_has ls 9 [(0, .ref m), (1, .int (nI p)), (2, .long (bm_ch g9 p)), (4, .int (bm_gw (bm_ph g9 p (bm_ch g9 p)) (i + 1))), (5, .int (nI (i + 1)))] := lv_sub hl [4, 5, 6, 1, 0] rfl
            exact ih (i + 1) ls _ _ _ (by omega) hl hz hM hS hP hF
          · refine lv_aload_n hx hb dM_isGood_154 rfl (lv_at hl 2 rfl) ?_
            refine bm_get (ci := 7) (v := .ref (m + 17)) (C := "BlindMintModel") (T := bt_M) (N := 22) hx hb hts bu_M hown hK hM hP.c0 rfl 21 (by decide) (hts _ bw_623) (fun _ h9 => h9) rfl dM_isGood_155 ?_
            refine lv_iload hx hb dM_isGood_158 (lv_at hl 6 rfl) ?_
            refine bm_lald hx hb hK hM 1 hP.c17 rfl i (bm_ix_nI (by omega)) (by omega) dM_isGood_160 ?_
            refine lv_topl (fun t19 e_t19 => ?_)
            have e_t19 : t19 = bm_ph g9 p (bm_ch g9 p) i := by rw [e_t19]; exact pk_uLs
            subst e_t19
            refine lv_aload_n hx hb dM_isGood_161 rfl (lv_at hl 2 rfl) ?_
            refine bm_get (ci := 7) (v := .ref (m + 17)) (C := "BlindMintModel") (T := bt_M) (N := 22) hx hb hts bu_M hown hK hM hP.c0 rfl 21 (by decide) (hts _ bw_623) (fun _ h9 => h9) rfl dM_isGood_162 ?_
            refine lv_iload hx hb dM_isGood_165 (lv_at hl 6 rfl) ?_
            refine lv_iconst (v := 1) hx hb dM_isGood_167 (by decide) ?_
            refine lv_isub hx hb dM_isGood_168 ?_
            refine bm_lald hx hb hK hM 1 hP.c17 rfl (i - 1) (bm_ixs h151 (by omega)) (by omega) dM_isGood_169 ?_
            have hi0 : ¬ i = 0 := fun z => h151 (by rw [z]; decide)
            refine lv_topl (fun t20 e_t20 => ?_)
            have e_t20 : t20 = bm_ph g9 p (bm_ch g9 p) (i - 1) := by rw [e_t20]; rw [pk_uLn (by omega)]; exact bm_hs_at (by omega)
            subst e_t20
            refine W.lcmp hx hb dM_isGood_170 ?_
            refine lv_if_lt (tgt := 178) hx hb dM_isGood_171 rfl (fun h171 => ?_) (fun h171 => ?_)
            · refine lv_iconst (v := 0) hx hb dM_isGood_178 (by decide) ?_
              refine lv_istore hx hb dM_isGood_179 hl (by decide) rfl (fun ls hl => ?_)
              have hl : lv_has ls 9 [(4, .int 0), (7, .long (bm_h2 (g9 (16 * p + (4 + 3 * i))) (g9 (16 * p + (4 + 3 * i) + 1)))), (6, .int (nI (16 * p + (4 + 3 * i)))), (0, .ref m), (1, .int (nI p)), (2, .long (bm_ch g9 p)), (5, .int (nI i))] := hl
              have hl : lv_has ls 9 [(4, .int (bm_gw (bm_ph g9 p (bm_ch g9 p)) (i + 1))), (7, .long (bm_h2 (g9 (16 * p + (4 + 3 * i))) (g9 (16 * p + (4 + 3 * i) + 1)))), (6, .int (nI (16 * p + (4 + 3 * i)))), (0, .ref m), (1, .int (nI p)), (2, .long (bm_ch g9 p)), (5, .int (nI i))] := by rw [show bm_gw (bm_ph g9 p (bm_ch g9 p)) (i + 1) = _ from bm_gw_f hi0 ((lg_cmp_lt _ _).mp h171)]; exact hl
              refine lv_iinc (v := nI (i + 1)) (k := 6) hx hb dM_isGood_181 hl rfl (bm_inc i) (by decide) rfl (fun ls hl => ?_)
              have hl : lv_has ls 9 [(5, .int (nI (i + 1))), (4, .int (bm_gw (bm_ph g9 p (bm_ch g9 p)) (i + 1))), (7, .long (bm_h2 (g9 (16 * p + (4 + 3 * i))) (g9 (16 * p + (4 + 3 * i) + 1)))), (6, .int (nI (16 * p + (4 + 3 * i)))), (0, .ref m), (1, .int (nI p)), (2, .long (bm_ch g9 p))] := hl
              refine lv_goto (tgt := 55) hx hb dM_isGood_184 rfl ?_
              have hl : lv_has ls 9 [(0, .ref m), (1, .int (nI p)), (2, .long (bm_ch g9 p)), (4, .int (bm_gw (bm_ph g9 p (bm_ch g9 p)) (i + 1))), (5, .int (nI (i + 1)))] := lv_sub hl [4, 5, 6, 1, 0] rfl
              exact ih (i + 1) ls _ _ _ (by omega) hl hz hM hS hP hF
            · refine lv_iconst (v := 1) hx hb dM_isGood_174 (by decide) ?_
              refine lv_goto (tgt := 179) hx hb dM_isGood_175 rfl ?_
              refine lv_istore hx hb dM_isGood_179 hl (by decide) rfl (fun ls hl => ?_)
              have hl : lv_has ls 9 [(4, .int 1), (7, .long (bm_h2 (g9 (16 * p + (4 + 3 * i))) (g9 (16 * p + (4 + 3 * i) + 1)))), (6, .int (nI (16 * p + (4 + 3 * i)))), (0, .ref m), (1, .int (nI p)), (2, .long (bm_ch g9 p)), (5, .int (nI i))] := hl
              have hl : lv_has ls 9 [(4, .int (bm_gw (bm_ph g9 p (bm_ch g9 p)) (i + 1))), (7, .long (bm_h2 (g9 (16 * p + (4 + 3 * i))) (g9 (16 * p + (4 + 3 * i) + 1)))), (6, .int (nI (16 * p + (4 + 3 * i)))), (0, .ref m), (1, .int (nI p)), (2, .long (bm_ch g9 p)), (5, .int (nI i))] := by rw [show bm_gw (bm_ph g9 p (bm_ch g9 p)) (i + 1) = _ from bm_gw_g h146 (fun q => h171 ((lg_cmp_lt _ _).mpr q))]; exact hl
              refine lv_iinc (v := nI (i + 1)) (k := 6) hx hb dM_isGood_181 hl rfl (bm_inc i) (by decide) rfl (fun ls hl => ?_)
              have hl : lv_has ls 9 [(5, .int (nI (i + 1))), (4, .int (bm_gw (bm_ph g9 p (bm_ch g9 p)) (i + 1))), (7, .long (bm_h2 (g9 (16 * p + (4 + 3 * i))) (g9 (16 * p + (4 + 3 * i) + 1)))), (6, .int (nI (16 * p + (4 + 3 * i)))), (0, .ref m), (1, .int (nI p)), (2, .long (bm_ch g9 p))] := hl
              refine lv_goto (tgt := 55) hx hb dM_isGood_184 rfl ?_
              have hl : lv_has ls 9 [(0, .ref m), (1, .int (nI p)), (2, .long (bm_ch g9 p)), (4, .int (bm_gw (bm_ph g9 p (bm_ch g9 p)) (i + 1))), (5, .int (nI (i + 1)))] := lv_sub hl [4, 5, 6, 1, 0] rfl
              exact ih (i + 1) ls _ _ _ (by omega) hl hz hM hS hP hF
      · have ho : bm_one (bm_ch g9 p) (nI i) = 1 := bm_one1 ((lg_cmp_eq _ _).mp h109)
        refine lv_lload hx hb dM_isGood_112 (lv_at hl 0 rfl) ?_
        refine lv_aload_n hx hb dM_isGood_114 rfl (lv_at hl 2 rfl) ?_
        refine bm_get (ci := 7) (v := .ref (m + 9)) (C := "BlindMintModel") (T := bt_M) (N := 22) hx hb hts bu_M hown hK hM hP.c0 rfl 12 (by decide) (hts _ bw_614) (fun _ h9 => h9) rfl dM_isGood_115 ?_
        refine lv_iload hx hb dM_isGood_118 (lv_at hl 1 rfl) ?_
        refine lv_iconst (v := 2) hx hb dM_isGood_120 (by decide) ?_
        refine lv_iadd hx hb dM_isGood_121 ?_
        refine lv_topi (fun t21 e_t21 => ?_)
        have e_t21 : t21 = nI (16 * p + (4 + 3 * i) + 2) := by rw [e_t21]; exact nI_add _ 2
        subst e_t21
        refine bm_lald hx hb hK hM 1 hP.c9 rfl (16 * p + (4 + 3 * i) + 2) (bm_ix_nI (by omega)) (by omega) dM_isGood_122 ?_
        refine bm_callE (va_runS (As := [.long (bm_h2 (g9 (16 * p + (4 + 3 * i))) (g9 (16 * p + (4 + 3 * i) + 1))), .long (g9 (16 * p + (4 + 3 * i) + 2))]) (rest := [.int (nI i), .ref (m + 17)]) ⟨hx, hb, hml, hown, hts⟩ (bc_M_hash2 l D ct base ad M6 sz (bm_h2 (g9 (16 * p + (4 + 3 * i))) (g9 (16 * p + (4 + 3 * i) + 1))) (g9 (16 * p + (4 + 3 * i) + 2))) (va_cwS 2 hts (bm_goodS bw_694 bw_695 bw_5 bw_696) rfl rfl rfl (by decide +kernel) (by rw [← hR]; exact ⟨Nat.le_of_ble_eq_true rfl, Nat.le_of_ble_eq_true rfl⟩)) (bm_preS hM hG hS hz) rfl rfl hl.1 rfl (lv_room (Nat.le_of_ble_eq_true rfl)) dM_isGood_123 (by rw [← hR]; exact ⟨Nat.le_of_ble_eq_true rfl, Nat.le_of_ble_eq_true rfl⟩)) hS (fun H locs hz hM hS => ?_)
        refine lv_goto (tgt := 143) hx hb dM_isGood_126 rfl ?_
        refine lv_topl (fun t22 e_t22 => ?_)
        have e_t22 : t22 = bm_ph g9 p (bm_ch g9 p) i := by rw [e_t22]; exact bm_ph_y ho
        subst e_t22
        refine bm_last hx hb hK hM hS 1 hP.c17 rfl i (bm_ix_nI (by omega)) (by omega) dM_isGood_143 (fun H locs hz1 hM hS => ?_)
        have hz := hz1.trans hz
        obtain ⟨M23, hM, hP, hF⟩ : ∃ X, bm_M D base X H ∧ bm_MD ct m th tr bl np nd f1 f2 f3 f4 g5 g6 f7 g8 g9 g10 g11 g12 g13 g14 g15 f16 (vp_updL (bm_hs (bm_ph g9 p (bm_ch g9 p)) g17 i) i (bm_ph g9 p (bm_ch g9 p) i)) X ∧ bm_fr m M X := ⟨_, hM, hP.s17 _, hF.up (by decide)⟩
        refine lv_iload hx hb dM_isGood_144 (lv_at hl 5 rfl) ?_
        refine lv_if_eq (tgt := 178) hx hb dM_isGood_146 rfl (fun h146 => ?_) (fun h146 => ?_)
        · refine lv_iconst (v := 0) hx hb dM_isGood_178 (by decide) ?_
          refine lv_istore hx hb dM_isGood_179 hl (by decide) rfl (fun ls hl => ?_)
          have hl : lv_has ls 9 [(4, .int 0), (7, .long (bm_h2 (g9 (16 * p + (4 + 3 * i))) (g9 (16 * p + (4 + 3 * i) + 1)))), (6, .int (nI (16 * p + (4 + 3 * i)))), (0, .ref m), (1, .int (nI p)), (2, .long (bm_ch g9 p)), (5, .int (nI i))] := hl
          have hl : lv_has ls 9 [(4, .int (bm_gw (bm_ph g9 p (bm_ch g9 p)) (i + 1))), (7, .long (bm_h2 (g9 (16 * p + (4 + 3 * i))) (g9 (16 * p + (4 + 3 * i) + 1)))), (6, .int (nI (16 * p + (4 + 3 * i)))), (0, .ref m), (1, .int (nI p)), (2, .long (bm_ch g9 p)), (5, .int (nI i))] := by rw [show bm_gw (bm_ph g9 p (bm_ch g9 p)) (i + 1) = _ from bm_gw_0 h146]; exact hl
          refine lv_iinc (v := nI (i + 1)) (k := 6) hx hb dM_isGood_181 hl rfl (bm_inc i) (by decide) rfl (fun ls hl => ?_)
          have hl : lv_has ls 9 [(5, .int (nI (i + 1))), (4, .int (bm_gw (bm_ph g9 p (bm_ch g9 p)) (i + 1))), (7, .long (bm_h2 (g9 (16 * p + (4 + 3 * i))) (g9 (16 * p + (4 + 3 * i) + 1)))), (6, .int (nI (16 * p + (4 + 3 * i)))), (0, .ref m), (1, .int (nI p)), (2, .long (bm_ch g9 p))] := hl
          refine lv_goto (tgt := 55) hx hb dM_isGood_184 rfl ?_
          have hl : lv_has ls 9 [(0, .ref m), (1, .int (nI p)), (2, .long (bm_ch g9 p)), (4, .int (bm_gw (bm_ph g9 p (bm_ch g9 p)) (i + 1))), (5, .int (nI (i + 1)))] := lv_sub hl [4, 5, 6, 1, 0] rfl
          exact ih (i + 1) ls _ _ _ (by omega) hl hz hM hS hP hF
        · refine lv_iload hx hb dM_isGood_149 (lv_at hl 6 rfl) ?_
          refine lv_if_eq (tgt := 174) hx hb dM_isGood_151 rfl (fun h151 => ?_) (fun h151 => ?_)
          · refine lv_iconst (v := 1) hx hb dM_isGood_174 (by decide) ?_
            refine lv_goto (tgt := 179) hx hb dM_isGood_175 rfl ?_
            refine lv_istore hx hb dM_isGood_179 hl (by decide) rfl (fun ls hl => ?_)
            have hl : lv_has ls 9 [(4, .int 1), (7, .long (bm_h2 (g9 (16 * p + (4 + 3 * i))) (g9 (16 * p + (4 + 3 * i) + 1)))), (6, .int (nI (16 * p + (4 + 3 * i)))), (0, .ref m), (1, .int (nI p)), (2, .long (bm_ch g9 p)), (5, .int (nI i))] := hl
            have hl : lv_has ls 9 [(4, .int (bm_gw (bm_ph g9 p (bm_ch g9 p)) (i + 1))), (7, .long (bm_h2 (g9 (16 * p + (4 + 3 * i))) (g9 (16 * p + (4 + 3 * i) + 1)))), (6, .int (nI (16 * p + (4 + 3 * i)))), (0, .ref m), (1, .int (nI p)), (2, .long (bm_ch g9 p)), (5, .int (nI i))] := by rw [show bm_gw (bm_ph g9 p (bm_ch g9 p)) (i + 1) = _ from bm_gw_z h146 (by have z := (nI_eq (b := 0) (by omega) (by decide)).mp h151; exact z)]; exact hl
            refine lv_iinc (v := nI (i + 1)) (k := 6) hx hb dM_isGood_181 hl rfl (bm_inc i) (by decide) rfl (fun ls hl => ?_)
            have hl : lv_has ls 9 [(5, .int (nI (i + 1))), (4, .int (bm_gw (bm_ph g9 p (bm_ch g9 p)) (i + 1))), (7, .long (bm_h2 (g9 (16 * p + (4 + 3 * i))) (g9 (16 * p + (4 + 3 * i) + 1)))), (6, .int (nI (16 * p + (4 + 3 * i)))), (0, .ref m), (1, .int (nI p)), (2, .long (bm_ch g9 p))] := hl
            refine lv_goto (tgt := 55) hx hb dM_isGood_184 rfl ?_
            have hl : lv_has ls 9 [(0, .ref m), (1, .int (nI p)), (2, .long (bm_ch g9 p)), (4, .int (bm_gw (bm_ph g9 p (bm_ch g9 p)) (i + 1))), (5, .int (nI (i + 1)))] := lv_sub hl [4, 5, 6, 1, 0] rfl
            exact ih (i + 1) ls _ _ _ (by omega) hl hz hM hS hP hF
          · refine lv_aload_n hx hb dM_isGood_154 rfl (lv_at hl 2 rfl) ?_
            refine bm_get (ci := 7) (v := .ref (m + 17)) (C := "BlindMintModel") (T := bt_M) (N := 22) hx hb hts bu_M hown hK hM hP.c0 rfl 21 (by decide) (hts _ bw_623) (fun _ h9 => h9) rfl dM_isGood_155 ?_
            refine lv_iload hx hb dM_isGood_158 (lv_at hl 6 rfl) ?_
            refine bm_lald hx hb hK hM 1 hP.c17 rfl i (bm_ix_nI (by omega)) (by omega) dM_isGood_160 ?_
            refine lv_topl (fun t24 e_t24 => ?_)
            have e_t24 : t24 = bm_ph g9 p (bm_ch g9 p) i := by rw [e_t24]; exact pk_uLs
            subst e_t24
            refine lv_aload_n hx hb dM_isGood_161 rfl (lv_at hl 2 rfl) ?_
            refine bm_get (ci := 7) (v := .ref (m + 17)) (C := "BlindMintModel") (T := bt_M) (N := 22) hx hb hts bu_M hown hK hM hP.c0 rfl 21 (by decide) (hts _ bw_623) (fun _ h9 => h9) rfl dM_isGood_162 ?_
            refine lv_iload hx hb dM_isGood_165 (lv_at hl 6 rfl) ?_
            refine lv_iconst (v := 1) hx hb dM_isGood_167 (by decide) ?_
            refine lv_isub hx hb dM_isGood_168 ?_
            refine bm_lald hx hb hK hM 1 hP.c17 rfl (i - 1) (bm_ixs h151 (by omega)) (by omega) dM_isGood_169 ?_
            have hi0 : ¬ i = 0 := fun z => h151 (by rw [z]; decide)
            refine lv_topl (fun t25 e_t25 => ?_)
            have e_t25 : t25 = bm_ph g9 p (bm_ch g9 p) (i - 1) := by rw [e_t25]; rw [pk_uLn (by omega)]; exact bm_hs_at (by omega)
            subst e_t25
            refine W.lcmp hx hb dM_isGood_170 ?_
            refine lv_if_lt (tgt := 178) hx hb dM_isGood_171 rfl (fun h171 => ?_) (fun h171 => ?_)
            · refine lv_iconst (v := 0) hx hb dM_isGood_178 (by decide) ?_
              refine lv_istore hx hb dM_isGood_179 hl (by decide) rfl (fun ls hl => ?_)
              have hl : lv_has ls 9 [(4, .int 0), (7, .long (bm_h2 (g9 (16 * p + (4 + 3 * i))) (g9 (16 * p + (4 + 3 * i) + 1)))), (6, .int (nI (16 * p + (4 + 3 * i)))), (0, .ref m), (1, .int (nI p)), (2, .long (bm_ch g9 p)), (5, .int (nI i))] := hl
              have hl : lv_has ls 9 [(4, .int (bm_gw (bm_ph g9 p (bm_ch g9 p)) (i + 1))), (7, .long (bm_h2 (g9 (16 * p + (4 + 3 * i))) (g9 (16 * p + (4 + 3 * i) + 1)))), (6, .int (nI (16 * p + (4 + 3 * i)))), (0, .ref m), (1, .int (nI p)), (2, .long (bm_ch g9 p)), (5, .int (nI i))] := by rw [show bm_gw (bm_ph g9 p (bm_ch g9 p)) (i + 1) = _ from bm_gw_f hi0 ((lg_cmp_lt _ _).mp h171)]; exact hl
              refine lv_iinc (v := nI (i + 1)) (k := 6) hx hb dM_isGood_181 hl rfl (bm_inc i) (by decide) rfl (fun ls hl => ?_)
              have hl : lv_has ls 9 [(5, .int (nI (i + 1))), (4, .int (bm_gw (bm_ph g9 p (bm_ch g9 p)) (i + 1))), (7, .long (bm_h2 (g9 (16 * p + (4 + 3 * i))) (g9 (16 * p + (4 + 3 * i) + 1)))), (6, .int (nI (16 * p + (4 + 3 * i)))), (0, .ref m), (1, .int (nI p)), (2, .long (bm_ch g9 p))] := hl
              refine lv_goto (tgt := 55) hx hb dM_isGood_184 rfl ?_
              have hl : lv_has ls 9 [(0, .ref m), (1, .int (nI p)), (2, .long (bm_ch g9 p)), (4, .int (bm_gw (bm_ph g9 p (bm_ch g9 p)) (i + 1))), (5, .int (nI (i + 1)))] := lv_sub hl [4, 5, 6, 1, 0] rfl
              exact ih (i + 1) ls _ _ _ (by omega) hl hz hM hS hP hF
            · refine lv_iconst (v := 1) hx hb dM_isGood_174 (by decide) ?_
              refine lv_goto (tgt := 179) hx hb dM_isGood_175 rfl ?_
              refine lv_istore hx hb dM_isGood_179 hl (by decide) rfl (fun ls hl => ?_)
              have hl : lv_has ls 9 [(4, .int 1), (7, .long (bm_h2 (g9 (16 * p + (4 + 3 * i))) (g9 (16 * p + (4 + 3 * i) + 1)))), (6, .int (nI (16 * p + (4 + 3 * i)))), (0, .ref m), (1, .int (nI p)), (2, .long (bm_ch g9 p)), (5, .int (nI i))] := hl
              have hl : lv_has ls 9 [(4, .int (bm_gw (bm_ph g9 p (bm_ch g9 p)) (i + 1))), (7, .long (bm_h2 (g9 (16 * p + (4 + 3 * i))) (g9 (16 * p + (4 + 3 * i) + 1)))), (6, .int (nI (16 * p + (4 + 3 * i)))), (0, .ref m), (1, .int (nI p)), (2, .long (bm_ch g9 p)), (5, .int (nI i))] := by rw [show bm_gw (bm_ph g9 p (bm_ch g9 p)) (i + 1) = _ from bm_gw_g h146 (fun q => h171 ((lg_cmp_lt _ _).mpr q))]; exact hl
              refine lv_iinc (v := nI (i + 1)) (k := 6) hx hb dM_isGood_181 hl rfl (bm_inc i) (by decide) rfl (fun ls hl => ?_)
              have hl : lv_has ls 9 [(5, .int (nI (i + 1))), (4, .int (bm_gw (bm_ph g9 p (bm_ch g9 p)) (i + 1))), (7, .long (bm_h2 (g9 (16 * p + (4 + 3 * i))) (g9 (16 * p + (4 + 3 * i) + 1)))), (6, .int (nI (16 * p + (4 + 3 * i)))), (0, .ref m), (1, .int (nI p)), (2, .long (bm_ch g9 p))] := hl
              refine lv_goto (tgt := 55) hx hb dM_isGood_184 rfl ?_
              have hl : lv_has ls 9 [(0, .ref m), (1, .int (nI p)), (2, .long (bm_ch g9 p)), (4, .int (bm_gw (bm_ph g9 p (bm_ch g9 p)) (i + 1))), (5, .int (nI (i + 1)))] := lv_sub hl [4, 5, 6, 1, 0] rfl
              exact ih (i + 1) ls _ _ _ (by omega) hl hz hM hS hP hF
  exact loop 4 0 ls _ _ _ rfl hl hz hM hS hP hF
set_option maxHeartbeats 4000000 in
set_option maxRecDepth 100000 in
theorem bc_M_good_n1 (l : Launch) (D : va_G) (ct : Nat → ClassId) (base : Nat) (ad : Nat → Nat) (M : bm_Map) (sz : Nat) (m : Nat) (th : Int32) (tr : Int32) (bl : Int64) (np : Int32) (nd : Int32) (f1 : Nat → Int32) (f2 : Nat → Int32) (f3 : Nat → Int32) (f4 : Nat → Int32) (g5 : Nat → Int64) (g6 : Nat → Int64) (f7 : Nat → Int32) (g8 : Nat → Int64) (g9 : Nat → Int64) (g10 : Nat → Int64) (g11 : Nat → Int64) (g12 : Nat → Int64) (g13 : Nat → Int64) (g14 : Nat → Int64) (g15 : Nat → Int64) (f16 : Nat → Int32) (g17 : Nat → Int64) (v : Int32) (hP : bm_MD ct m th tr bl np nd f1 f2 f3 f4 g5 g6 f7 g8 g9 g10 g11 g12 g13 g14 g15 f16 g17 M) (hv : bm_bl v np = 0) : Met l yM_good (bm_ws yM_good cM_good 2 (some .boolean)) { frames := 4, cells := 0, slots := 0, locals := 99 } (bm_Pre D ct base ad M sz [.ref m, .int v]) (bm_Post D base (bm_Pm m M sz (fun v M1 => v = some (.int (0)) ∧ bm_MD ct m 0 tr bl np nd f1 f2 f3 f4 g5 g6 f7 g8 g9 g10 g11 g12 g13 g14 g15 f16 g17 M1))) 0 0 (bm_A base) := by
  refine bm_ofB (cc := cM_good) (maxL := 2) (ret := (some .boolean)) (by decide +kernel) (Nat.le_of_ble_eq_true rfl) ?_
  intro vp ve s vm args below meth vc hx hb hr hlk hts hown hml hnm ls hl hz hM hG R Q hR hQ
  have hown : s.vm.findClass "BlindMintModel" = some vm.cls := hown
  have hK := hG.K
  have hS : va_S (bm_A base) s.heap s.heap [] := va_S.rf
  have hl : lv_has ls 2 [(0, .ref m), (1, .int v)] := hl
  have hF : bm_fr m M M := bm_fr.rf
  refine lv_aload_n hx hb dM_good_0 rfl (lv_at hl 0 rfl) ?_
  refine lv_iconst (v := 0) hx hb dM_good_1 (by decide) ?_
  refine bm_put (ci := 7) (v := .int 0) (ty := .int) (C := "BlindMintModel") (T := bt_M) (N := 22) hx hb hts bu_M by_M bo_M bn_M hown hK hM hS hP.c0 rfl 0 (by decide) (hts _ bw_602) (fun _ h9 => h9) rfl (by decide +kernel) rfl rfl (Nat.le_of_ble_eq_true rfl) dM_good_2 (fun H locs hz1 hM hS => ?_)
  have hz := hz1.trans hz
  obtain ⟨M1, hM, hP, hF⟩ : ∃ X, bm_M D base X H ∧ bm_MD ct m 0 tr bl np nd f1 f2 f3 f4 g5 g6 f7 g8 g9 g10 g11 g12 g13 g14 g15 f16 g17 X ∧ bm_fr m M X := ⟨_, hM, hP.s_th _, hF.up0⟩
  refine lv_aload_n hx hb dM_good_5 rfl (lv_at hl 0 rfl) ?_
  refine lv_iload_n hx hb dM_good_6 rfl (lv_at hl 1 rfl) ?_
  refine bm_call (va_runV (As := [.int v]) (rest := []) ⟨hx, hb, hml, hown, hts⟩ (bc_M_isGood_n1 l D ct base ad M1 sz m 0 tr bl np nd f1 f2 f3 f4 g5 g6 f7 g8 g9 g10 g11 g12 g13 g14 g15 f16 g17 v hP hv) (cwV 1 hts (bm_goodV bw_780 bw_782 bs_17 bw_5 bw_783) rfl rfl rfl (by decide +kernel) (by rw [← hR]; exact ⟨Nat.le_of_ble_eq_true rfl, Nat.le_of_ble_eq_true rfl⟩)) (bm_preV hM hG hS hz hP.c0 rfl) rfl rfl hl.1 rfl (lv_room (Nat.le_of_ble_eq_true rfl)) dM_good_7 (by rw [← hR]; exact ⟨Nat.le_of_ble_eq_true rfl, Nat.le_of_ble_eq_true rfl⟩)) hS (fun v9 M2 H locs hq hM hS _ => ?_)
  obtain ⟨hz, ⟨rfl, hP⟩, hF9⟩ := hq
  have hF := hF.tr hF9
  exact bm_zret hQ hx hb hr hlk (by decide) hM hS ⟨hz, ⟨rfl, hP⟩, hF⟩ (Nat.le_refl _) (Nat.le_refl _) dM_good_10
set_option maxHeartbeats 4000000 in
set_option maxRecDepth 100000 in
theorem bc_M_good_n2 (l : Launch) (D : va_G) (ct : Nat → ClassId) (base : Nat) (ad : Nat → Nat) (M : bm_Map) (sz : Nat) (m : Nat) (th : Int32) (tr : Int32) (bl : Int64) (np : Int32) (nd : Int32) (f1 : Nat → Int32) (f2 : Nat → Int32) (f3 : Nat → Int32) (f4 : Nat → Int32) (g5 : Nat → Int64) (g6 : Nat → Int64) (f7 : Nat → Int32) (g8 : Nat → Int64) (g9 : Nat → Int64) (g10 : Nat → Int64) (g11 : Nat → Int64) (g12 : Nat → Int64) (g13 : Nat → Int64) (g14 : Nat → Int64) (g15 : Nat → Int64) (f16 : Nat → Int32) (g17 : Nat → Int64) (p : Nat) (hP : bm_MD ct m th tr bl np nd f1 f2 f3 f4 g5 g6 f7 g8 g9 g10 g11 g12 g13 g14 g15 f16 g17 M) (hp20 : p < 20) (hv : bm_bl (nI p) np = 1) (hlo : g9 (16 * p) < 0) : Met l yM_good (bm_ws yM_good cM_good 2 (some .boolean)) { frames := 4, cells := 0, slots := 0, locals := 99 } (bm_Pre D ct base ad M sz [.ref m, .int (nI p)]) (bm_Post D base (bm_Pm m M sz (fun v M1 => v = some (.int (0)) ∧ bm_MD ct m 0 tr bl np nd f1 f2 f3 f4 g5 g6 f7 g8 g9 g10 g11 g12 g13 g14 g15 f16 g17 M1))) 0 0 (bm_A base) := by
  refine bm_ofB (cc := cM_good) (maxL := 2) (ret := (some .boolean)) (by decide +kernel) (Nat.le_of_ble_eq_true rfl) ?_
  intro vp ve s vm args below meth vc hx hb hr hlk hts hown hml hnm ls hl hz hM hG R Q hR hQ
  have hown : s.vm.findClass "BlindMintModel" = some vm.cls := hown
  have hK := hG.K
  have hS : va_S (bm_A base) s.heap s.heap [] := va_S.rf
  have hl : lv_has ls 2 [(0, .ref m), (1, .int (nI p))] := hl
  have hF : bm_fr m M M := bm_fr.rf
  refine lv_aload_n hx hb dM_good_0 rfl (lv_at hl 0 rfl) ?_
  refine lv_iconst (v := 0) hx hb dM_good_1 (by decide) ?_
  refine bm_put (ci := 7) (v := .int 0) (ty := .int) (C := "BlindMintModel") (T := bt_M) (N := 22) hx hb hts bu_M by_M bo_M bn_M hown hK hM hS hP.c0 rfl 0 (by decide) (hts _ bw_602) (fun _ h9 => h9) rfl (by decide +kernel) rfl rfl (Nat.le_of_ble_eq_true rfl) dM_good_2 (fun H locs hz1 hM hS => ?_)
  have hz := hz1.trans hz
  obtain ⟨M1, hM, hP, hF⟩ : ∃ X, bm_M D base X H ∧ bm_MD ct m 0 tr bl np nd f1 f2 f3 f4 g5 g6 f7 g8 g9 g10 g11 g12 g13 g14 g15 f16 g17 X ∧ bm_fr m M X := ⟨_, hM, hP.s_th _, hF.up0⟩
  refine lv_aload_n hx hb dM_good_5 rfl (lv_at hl 0 rfl) ?_
  refine lv_iload_n hx hb dM_good_6 rfl (lv_at hl 1 rfl) ?_
  refine bm_call (va_runV (As := [.int (nI p)]) (rest := []) ⟨hx, hb, hml, hown, hts⟩ (bc_M_isGood_n2 l D ct base ad M1 sz m 0 tr bl np nd f1 f2 f3 f4 g5 g6 f7 g8 g9 g10 g11 g12 g13 g14 g15 f16 g17 p hP hp20 hv hlo) (cwV 1 hts (bm_goodV bw_780 bw_782 bs_17 bw_5 bw_783) rfl rfl rfl (by decide +kernel) (by rw [← hR]; exact ⟨Nat.le_of_ble_eq_true rfl, Nat.le_of_ble_eq_true rfl⟩)) (bm_preV hM hG hS hz hP.c0 rfl) rfl rfl hl.1 rfl (lv_room (Nat.le_of_ble_eq_true rfl)) dM_good_7 (by rw [← hR]; exact ⟨Nat.le_of_ble_eq_true rfl, Nat.le_of_ble_eq_true rfl⟩)) hS (fun v9 M2 H locs hq hM hS _ => ?_)
  obtain ⟨hz, ⟨rfl, hP⟩, hF9⟩ := hq
  have hF := hF.tr hF9
  exact bm_zret hQ hx hb hr hlk (by decide) hM hS ⟨hz, ⟨rfl, hP⟩, hF⟩ (Nat.le_refl _) (Nat.le_refl _) dM_good_10
set_option maxHeartbeats 4000000 in
set_option maxRecDepth 100000 in
theorem bc_M_good_n3 (l : Launch) (D : va_G) (ct : Nat → ClassId) (base : Nat) (ad : Nat → Nat) (M : bm_Map) (sz : Nat) (m : Nat) (th : Int32) (tr : Int32) (bl : Int64) (np : Int32) (nd : Int32) (f1 : Nat → Int32) (f2 : Nat → Int32) (f3 : Nat → Int32) (f4 : Nat → Int32) (g5 : Nat → Int64) (g6 : Nat → Int64) (f7 : Nat → Int32) (g8 : Nat → Int64) (g9 : Nat → Int64) (g10 : Nat → Int64) (g11 : Nat → Int64) (g12 : Nat → Int64) (g13 : Nat → Int64) (g14 : Nat → Int64) (g15 : Nat → Int64) (f16 : Nat → Int32) (g17 : Nat → Int64) (p : Nat) (hP : bm_MD ct m th tr bl np nd f1 f2 f3 f4 g5 g6 f7 g8 g9 g10 g11 g12 g13 g14 g15 f16 g17 M) (hp20 : p < 20) (hv : bm_bl (nI p) np = 1) (hlo : ¬ g9 (16 * p) < 0) (hhi : 2 < g9 (16 * p)) : Met l yM_good (bm_ws yM_good cM_good 2 (some .boolean)) { frames := 4, cells := 0, slots := 0, locals := 99 } (bm_Pre D ct base ad M sz [.ref m, .int (nI p)]) (bm_Post D base (bm_Pm m M sz (fun v M1 => v = some (.int (0)) ∧ bm_MD ct m 0 tr bl np nd f1 f2 f3 f4 g5 g6 f7 g8 g9 g10 g11 g12 g13 g14 g15 f16 g17 M1))) 0 0 (bm_A base) := by
  refine bm_ofB (cc := cM_good) (maxL := 2) (ret := (some .boolean)) (by decide +kernel) (Nat.le_of_ble_eq_true rfl) ?_
  intro vp ve s vm args below meth vc hx hb hr hlk hts hown hml hnm ls hl hz hM hG R Q hR hQ
  have hown : s.vm.findClass "BlindMintModel" = some vm.cls := hown
  have hK := hG.K
  have hS : va_S (bm_A base) s.heap s.heap [] := va_S.rf
  have hl : lv_has ls 2 [(0, .ref m), (1, .int (nI p))] := hl
  have hF : bm_fr m M M := bm_fr.rf
  refine lv_aload_n hx hb dM_good_0 rfl (lv_at hl 0 rfl) ?_
  refine lv_iconst (v := 0) hx hb dM_good_1 (by decide) ?_
  refine bm_put (ci := 7) (v := .int 0) (ty := .int) (C := "BlindMintModel") (T := bt_M) (N := 22) hx hb hts bu_M by_M bo_M bn_M hown hK hM hS hP.c0 rfl 0 (by decide) (hts _ bw_602) (fun _ h9 => h9) rfl (by decide +kernel) rfl rfl (Nat.le_of_ble_eq_true rfl) dM_good_2 (fun H locs hz1 hM hS => ?_)
  have hz := hz1.trans hz
  obtain ⟨M1, hM, hP, hF⟩ : ∃ X, bm_M D base X H ∧ bm_MD ct m 0 tr bl np nd f1 f2 f3 f4 g5 g6 f7 g8 g9 g10 g11 g12 g13 g14 g15 f16 g17 X ∧ bm_fr m M X := ⟨_, hM, hP.s_th _, hF.up0⟩
  refine lv_aload_n hx hb dM_good_5 rfl (lv_at hl 0 rfl) ?_
  refine lv_iload_n hx hb dM_good_6 rfl (lv_at hl 1 rfl) ?_
  refine bm_call (va_runV (As := [.int (nI p)]) (rest := []) ⟨hx, hb, hml, hown, hts⟩ (bc_M_isGood_n3 l D ct base ad M1 sz m 0 tr bl np nd f1 f2 f3 f4 g5 g6 f7 g8 g9 g10 g11 g12 g13 g14 g15 f16 g17 p hP hp20 hv hlo hhi) (cwV 1 hts (bm_goodV bw_780 bw_782 bs_17 bw_5 bw_783) rfl rfl rfl (by decide +kernel) (by rw [← hR]; exact ⟨Nat.le_of_ble_eq_true rfl, Nat.le_of_ble_eq_true rfl⟩)) (bm_preV hM hG hS hz hP.c0 rfl) rfl rfl hl.1 rfl (lv_room (Nat.le_of_ble_eq_true rfl)) dM_good_7 (by rw [← hR]; exact ⟨Nat.le_of_ble_eq_true rfl, Nat.le_of_ble_eq_true rfl⟩)) hS (fun v9 M2 H locs hq hM hS _ => ?_)
  obtain ⟨hz, ⟨rfl, hP⟩, hF9⟩ := hq
  have hF := hF.tr hF9
  exact bm_zret hQ hx hb hr hlk (by decide) hM hS ⟨hz, ⟨rfl, hP⟩, hF⟩ (Nat.le_refl _) (Nat.le_refl _) dM_good_10
set_option maxHeartbeats 4000000 in
set_option maxRecDepth 100000 in
theorem bc_M_good_ok (l : Launch) (D : va_G) (ct : Nat → ClassId) (base : Nat) (ad : Nat → Nat) (M : bm_Map) (sz : Nat) (m : Nat) (th : Int32) (tr : Int32) (bl : Int64) (np : Int32) (nd : Int32) (f1 : Nat → Int32) (f2 : Nat → Int32) (f3 : Nat → Int32) (f4 : Nat → Int32) (g5 : Nat → Int64) (g6 : Nat → Int64) (f7 : Nat → Int32) (g8 : Nat → Int64) (g9 : Nat → Int64) (g10 : Nat → Int64) (g11 : Nat → Int64) (g12 : Nat → Int64) (g13 : Nat → Int64) (g14 : Nat → Int64) (g15 : Nat → Int64) (f16 : Nat → Int32) (g17 : Nat → Int64) (p : Nat) (hP : bm_MD ct m th tr bl np nd f1 f2 f3 f4 g5 g6 f7 g8 g9 g10 g11 g12 g13 g14 g15 f16 g17 M) (hp20 : p < 20) (hv : bm_bl (nI p) np = 1) (d k : Nat) (hd0 : g9 (16 * p) = lN d) (hd : d < 3) (hnum : bm_hc (lN d) (bm_ph g9 p (bm_ch g9 p)) = lN k) (hk : k < 2 ^ 59) : Met l yM_good (bm_ws yM_good cM_good 2 (some .boolean)) { frames := 4, cells := 0, slots := 0, locals := 99 } (bm_Pre D ct base ad M sz [.ref m, .int (nI p)]) (bm_Post D base (bm_Pm m M sz (fun v M1 => v = some (.int (bm_gd (bm_gw (bm_ph g9 p (bm_ch g9 p)) 4) (bm_is d (g9 (16 * p + 1)) k))) ∧ bm_MD ct m 0 tr bl np nd f1 f2 f3 f4 g5 g6 f7 g8 g9 g10 g11 g12 g13 g14 g15 f16 (bm_hs (bm_ph g9 p (bm_ch g9 p)) g17 4) M1))) 0 0 (bm_A base) := by
  refine bm_ofB (cc := cM_good) (maxL := 2) (ret := (some .boolean)) (by decide +kernel) (Nat.le_of_ble_eq_true rfl) ?_
  intro vp ve s vm args below meth vc hx hb hr hlk hts hown hml hnm ls hl hz hM hG R Q hR hQ
  have hown : s.vm.findClass "BlindMintModel" = some vm.cls := hown
  have hK := hG.K
  have hS : va_S (bm_A base) s.heap s.heap [] := va_S.rf
  have hl : lv_has ls 2 [(0, .ref m), (1, .int (nI p))] := hl
  have hF : bm_fr m M M := bm_fr.rf
  refine lv_aload_n hx hb dM_good_0 rfl (lv_at hl 0 rfl) ?_
  refine lv_iconst (v := 0) hx hb dM_good_1 (by decide) ?_
  refine bm_put (ci := 7) (v := .int 0) (ty := .int) (C := "BlindMintModel") (T := bt_M) (N := 22) hx hb hts bu_M by_M bo_M bn_M hown hK hM hS hP.c0 rfl 0 (by decide) (hts _ bw_602) (fun _ h9 => h9) rfl (by decide +kernel) rfl rfl (Nat.le_of_ble_eq_true rfl) dM_good_2 (fun H locs hz1 hM hS => ?_)
  have hz := hz1.trans hz
  obtain ⟨M1, hM, hP, hF⟩ : ∃ X, bm_M D base X H ∧ bm_MD ct m 0 tr bl np nd f1 f2 f3 f4 g5 g6 f7 g8 g9 g10 g11 g12 g13 g14 g15 f16 g17 X ∧ bm_fr m M X := ⟨_, hM, hP.s_th _, hF.up0⟩
  refine lv_aload_n hx hb dM_good_5 rfl (lv_at hl 0 rfl) ?_
  refine lv_iload_n hx hb dM_good_6 rfl (lv_at hl 1 rfl) ?_
  refine bm_call (va_runV (As := [.int (nI p)]) (rest := []) ⟨hx, hb, hml, hown, hts⟩ (bc_M_isGood_ok l D ct base ad M1 sz m 0 tr bl np nd f1 f2 f3 f4 g5 g6 f7 g8 g9 g10 g11 g12 g13 g14 g15 f16 g17 p hP hp20 hv d k hd0 hd hnum hk) (cwV 1 hts (bm_goodV bw_780 bw_782 bs_17 bw_5 bw_783) rfl rfl rfl (by decide +kernel) (by rw [← hR]; exact ⟨Nat.le_of_ble_eq_true rfl, Nat.le_of_ble_eq_true rfl⟩)) (bm_preV hM hG hS hz hP.c0 rfl) rfl rfl hl.1 rfl (lv_room (Nat.le_of_ble_eq_true rfl)) dM_good_7 (by rw [← hR]; exact ⟨Nat.le_of_ble_eq_true rfl, Nat.le_of_ble_eq_true rfl⟩)) hS (fun v9 M2 H locs hq hM hS _ => ?_)
  obtain ⟨hz, ⟨rfl, hP⟩, hF9⟩ := hq
  have hF := hF.tr hF9
  exact bm_zret hQ hx hb hr hlk (bm_gd_z) hM hS ⟨hz, ⟨rfl, hP⟩, hF⟩ (Nat.le_refl _) (Nat.le_refl _) dM_good_10
set_option maxHeartbeats 4000000 in
set_option maxRecDepth 100000 in
theorem bc_M_noted_none (l : Launch) (D : va_G) (ct : Nat → ClassId) (base : Nat) (ad : Nat → Nat) (M : bm_Map) (sz : Nat) (m : Nat) (th : Int32) (tr : Int32) (bl : Int64) (np : Int32) (nd : Int32) (f1 : Nat → Int32) (f2 : Nat → Int32) (f3 : Nat → Int32) (f4 : Nat → Int32) (g5 : Nat → Int64) (g6 : Nat → Int64) (f7 : Nat → Int32) (g8 : Nat → Int64) (g9 : Nat → Int64) (g10 : Nat → Int64) (g11 : Nat → Int64) (g12 : Nat → Int64) (g13 : Nat → Int64) (g14 : Nat → Int64) (g15 : Nat → Int64) (f16 : Nat → Int32) (g17 : Nat → Int64) (den : Int64) (K : Nat) (hP : bm_MD ct m th tr bl np nd f1 f2 f3 f4 g5 g6 f7 g8 g9 g10 g11 g12 g13 g14 g15 f16 g17 M) (hkd : nd = nI K) (hK5 : K ≤ 520) (hnone : ∀ i, i < K → bm_me g10 g17 den i 4 = 0) : Met l yM_noted (bm_ws yM_noted cM_noted 6 (some .int)) { frames := 0, cells := 0, slots := 0, locals := 0 } (bm_Pre D ct base ad M sz [.ref m, .long den]) (bm_Post D base (bm_Pm m M sz (fun v M1 => v = some (.int (-1)) ∧ bm_MD ct m th tr bl np nd f1 f2 f3 f4 g5 g6 f7 g8 g9 g10 g11 g12 g13 g14 g15 f16 g17 M1))) 0 0 (bm_A base) := by
  refine bm_ofB (cc := cM_noted) (maxL := 6) (ret := (some .int)) (by decide +kernel) (Nat.le_of_ble_eq_true rfl) ?_
  intro vp ve s vm args below meth vc hx hb hr hlk hts hown hml hnm ls hl hz hM hG R Q hR hQ
  have hown : s.vm.findClass "BlindMintModel" = some vm.cls := hown
  have hK := hG.K
  have hS : va_S (bm_A base) s.heap s.heap [] := va_S.rf
  have hl : lv_has ls 6 [(0, .ref m), (1, .long den)] := hl
  have hF : bm_fr m M M := bm_fr.rf
  refine lv_iconst (v := 0) hx hb dM_noted_0 (by decide) ?_
  refine lv_istore_n hx hb dM_noted_1 rfl hl (by decide) rfl (fun ls hl => ?_)
  have hl : lv_has ls 6 [(3, .int 0), (0, .ref m), (1, .long den)] := hl
  have hl : lv_has ls 6 [(0, .ref m), (1, .long den), (3, .int 0)] := lv_sub hl [1, 2, 0] rfl
  have loop : ∀ (n : Nat) (i : Nat) (ls : Array Slot) (H : Heap) (locs : List Loc), i + n = K → lv_has ls 6 [(0, .ref m), (1, .long den), (3, .int (nI i))] → H.size = sz → bm_M D base M H → va_S (bm_A base) s.heap H locs → W vp l ve R s vm args below meth vc H locs 0 0 Q (F0 vm 2 ls []) := by
    intro n
    induction n with
    | zero =>
      intro i ls H locs hi hl hz hM hS
      obtain rfl : K = i := by omega
      have hl : lv_has ls 6 [(0, .ref m), (1, .long den), (3, .int (nI K))] := hl
      refine lv_iload_n hx hb dM_noted_2 rfl (lv_at hl 2 rfl) ?_
      refine lv_aload_n hx hb dM_noted_3 rfl (lv_at hl 0 rfl) ?_
      refine bm_get (ci := 7) (v := .int nd) (C := "BlindMintModel") (T := bt_M) (N := 22) hx hb hts bu_M hown hK hM hP.c0 rfl 13 (by decide) (hts _ bw_615) (fun _ h9 => h9) rfl dM_noted_4 ?_
      refine lv_topi (fun t1 e_t1 => ?_)
      have e_t1 : t1 = nI K := by rw [e_t1]; exact hkd
      subst e_t1
      refine lv_icmp_ge (tgt := 96) hx hb dM_noted_7 rfl (fun h7 => ?_) (fun h7 => absurd (Int32.le_refl _) h7)
      refine lv_iconst (v := (-1)) hx hb dM_noted_96 (by decide) ?_
      exact bm_iret hQ hx hb hr hlk hM hS ⟨hz, ⟨rfl, hP⟩, hF⟩ (Nat.le_refl _) (Nat.le_refl _) dM_noted_97
    | succ n ih =>
      intro i ls H locs hi hl hz hM hS
      refine lv_iload_n hx hb dM_noted_2 rfl (lv_at hl 2 rfl) ?_
      refine lv_aload_n hx hb dM_noted_3 rfl (lv_at hl 0 rfl) ?_
      refine bm_get (ci := 7) (v := .int nd) (C := "BlindMintModel") (T := bt_M) (N := 22) hx hb hts bu_M hown hK hM hP.c0 rfl 13 (by decide) (hts _ bw_615) (fun _ h9 => h9) rfl dM_noted_4 ?_
      refine lv_topi (fun t2 e_t2 => ?_)
      have e_t2 : t2 = nI K := by rw [e_t2]; exact hkd
      subst e_t2
      refine lv_icmp_ge (tgt := 96) hx hb dM_noted_7 rfl (fun h7 => absurd h7 (nI_ge (by omega) (by omega))) (fun h7 => ?_)
      refine lv_aload_n hx hb dM_noted_10 rfl (lv_at hl 0 rfl) ?_
      refine bm_get (ci := 7) (v := .ref (m + 10)) (C := "BlindMintModel") (T := bt_M) (N := 22) hx hb hts bu_M hown hK hM hP.c0 rfl 14 (by decide) (hts _ bw_616) (fun _ h9 => h9) rfl dM_noted_11 ?_
      refine lv_bipush (v := 10) hx hb dM_noted_14 (by decide) ?_
      refine lv_iload_n hx hb dM_noted_16 rfl (lv_at hl 2 rfl) ?_
      refine lv_imul hx hb dM_noted_17 ?_
      refine lv_topi (fun t3 e_t3 => ?_)
      have e_t3 : t3 = nI (10 * i) := by rw [e_t3]; exact pk_mul 10 i
      subst e_t3
      refine bm_lald hx hb hK hM 1 hP.c10 rfl (10 * i) (bm_ix_nI (by omega)) (by omega) dM_noted_18 ?_
      refine lv_lload_n hx hb dM_noted_19 rfl (lv_at hl 1 rfl) ?_
      refine W.lcmp hx hb dM_noted_20 ?_
      refine lv_if_ne (tgt := 28) hx hb dM_noted_21 rfl (fun h21 => ?_) (fun h21 => ?_)
      · refine lv_iconst (v := 0) hx hb dM_noted_28 (by decide) ?_
        refine lv_istore hx hb dM_noted_29 hl (by decide) rfl (fun ls hl => ?_)
        have hl : lv_has ls 6 [(4, .int 0), (0, .ref m), (1, .long den), (3, .int (nI i))] := hl
        have hl : lv_has ls 6 [(4, .int (bm_me g10 g17 den i 0)), (0, .ref m), (1, .long den), (3, .int (nI i))] := by rw [show bm_me g10 g17 den i 0 = _ from bm_me_b (fun q => h21 ((lg_cmp_eq _ _).mpr q))]; exact hl
        refine lv_iconst (v := 0) hx hb dM_noted_31 (by decide) ?_
        refine lv_istore hx hb dM_noted_32 hl (by decide) rfl (fun ls hl => ?_)
        have hl : lv_has ls 6 [(5, .int 0), (4, .int (bm_me g10 g17 den i 0)), (0, .ref m), (1, .long den), (3, .int (nI i))] := hl
        have hl : lv_has ls 6 [(0, .ref m), (1, .long den), (3, .int (nI i)), (4, .int (bm_me g10 g17 den i 0)), (5, .int 0)] := lv_sub hl [2, 3, 4, 1, 0] rfl
        have loop2 : ∀ (n : Nat) (t : Nat) (ls : Array Slot) (H : Heap) (locs : List Loc), t + n = 4 → lv_has ls 6 [(0, .ref m), (1, .long den), (3, .int (nI i)), (4, .int (bm_me g10 g17 den i t)), (5, .int (nI t))] → H.size = sz → bm_M D base M H → va_S (bm_A base) s.heap H locs → W vp l ve R s vm args below meth vc H locs 0 0 Q (F0 vm 34 ls []) := by
          intro n
          induction n with
          | zero =>
            intro t ls H locs ht hl hz hM hS
            obtain rfl : t = 4 := by omega
            have hl : lv_has ls 6 [(0, .ref m), (1, .long den), (3, .int (nI i)), (4, .int (bm_me g10 g17 den i 4)), (5, .int 4)] := hl
            refine lv_iload hx hb dM_noted_34 (lv_at hl 4 rfl) ?_
            refine lv_iconst (v := 4) hx hb dM_noted_36 (by decide) ?_
            refine lv_icmp_ge (tgt := 83) hx hb dM_noted_37 rfl (fun _ => ?_) (fun h => absurd h (by decide))
            refine lv_iload hx hb dM_noted_83 (lv_at hl 3 rfl) ?_
            refine lv_if_eq (tgt := 90) hx hb dM_noted_85 rfl (fun h85 => ?_) (fun h85 => absurd (hnone i (by omega)) h85)
            refine lv_iinc (v := nI (i + 1)) (k := 2) hx hb dM_noted_90 hl rfl (bm_inc i) (by decide) rfl (fun ls hl => ?_)
            have hl : lv_has ls 6 [(3, .int (nI (i + 1))), (0, .ref m), (1, .long den), (4, .int (bm_me g10 g17 den i 4)), (5, .int 4)] := hl
            refine lv_goto (tgt := 2) hx hb dM_noted_93 rfl ?_
            have hl : lv_has ls 6 [(0, .ref m), (1, .long den), (3, .int (nI (i + 1)))] := lv_sub hl [1, 2, 0] rfl
            exact ih (i + 1) ls _ _ (by omega) hl hz hM hS
          | succ n ih =>
            intro t ls H locs ht hl hz hM hS
            refine lv_iload hx hb dM_noted_34 (lv_at hl 4 rfl) ?_
            refine lv_iconst (v := 4) hx hb dM_noted_36 (by decide) ?_
            refine lv_icmp_ge (tgt := 83) hx hb dM_noted_37 rfl (fun h37 => absurd h37 (nI_ge (b := 4) (by omega) (by decide))) (fun h37 => ?_)
            refine lv_iload hx hb dM_noted_40 (lv_at hl 3 rfl) ?_
            refine lv_if_eq (tgt := 74) hx hb dM_noted_42 rfl (fun h42 => ?_) (fun h42 => ?_)
            · refine lv_iconst (v := 0) hx hb dM_noted_74 (by decide) ?_
              refine lv_istore hx hb dM_noted_75 hl (by decide) rfl (fun ls hl => ?_)
              have hl : lv_has ls 6 [(4, .int 0), (0, .ref m), (1, .long den), (3, .int (nI i)), (5, .int (nI t))] := hl
              have hl : lv_has ls 6 [(4, .int (bm_me g10 g17 den i (t + 1))), (0, .ref m), (1, .long den), (3, .int (nI i)), (5, .int (nI t))] := by rw [show bm_me g10 g17 den i (t + 1) = _ from bm_me_0 h42]; exact hl
              refine lv_iinc (v := nI (t + 1)) (k := 4) hx hb dM_noted_77 hl rfl (bm_inc t) (by decide) rfl (fun ls hl => ?_)
              have hl : lv_has ls 6 [(5, .int (nI (t + 1))), (4, .int (bm_me g10 g17 den i (t + 1))), (0, .ref m), (1, .long den), (3, .int (nI i))] := hl
              refine lv_goto (tgt := 34) hx hb dM_noted_80 rfl ?_
              have hl : lv_has ls 6 [(0, .ref m), (1, .long den), (3, .int (nI i)), (4, .int (bm_me g10 g17 den i (t + 1))), (5, .int (nI (t + 1)))] := lv_sub hl [2, 3, 4, 1, 0] rfl
              exact ih (t + 1) ls _ _ (by omega) hl hz hM hS
            · refine lv_aload_n hx hb dM_noted_45 rfl (lv_at hl 0 rfl) ?_
              refine bm_get (ci := 7) (v := .ref (m + 10)) (C := "BlindMintModel") (T := bt_M) (N := 22) hx hb hts bu_M hown hK hM hP.c0 rfl 14 (by decide) (hts _ bw_616) (fun _ h9 => h9) rfl dM_noted_46 ?_
              refine lv_bipush (v := 10) hx hb dM_noted_49 (by decide) ?_
              refine lv_iload_n hx hb dM_noted_51 rfl (lv_at hl 2 rfl) ?_
              refine lv_imul hx hb dM_noted_52 ?_
              refine lv_iconst (v := 1) hx hb dM_noted_53 (by decide) ?_
              refine lv_iadd hx hb dM_noted_54 ?_
              refine lv_iload hx hb dM_noted_55 (lv_at hl 4 rfl) ?_
              refine lv_iadd hx hb dM_noted_57 ?_
              refine lv_topi (fun t4 e_t4 => ?_)
              have e_t4 : t4 = nI (10 * i + (1 + t)) := by rw [e_t4]; show nI 10 * nI i + nI 1 + nI t = _; rw [pk_mul, nI_add, nI_add, Nat.add_assoc]
              subst e_t4
              refine bm_lald hx hb hK hM 1 hP.c10 rfl (10 * i + (1 + t)) (bm_ix_nI (by omega)) (by omega) dM_noted_58 ?_
              refine lv_aload_n hx hb dM_noted_59 rfl (lv_at hl 0 rfl) ?_
              refine bm_get (ci := 7) (v := .ref (m + 17)) (C := "BlindMintModel") (T := bt_M) (N := 22) hx hb hts bu_M hown hK hM hP.c0 rfl 21 (by decide) (hts _ bw_623) (fun _ h9 => h9) rfl dM_noted_60 ?_
              refine lv_iload hx hb dM_noted_63 (lv_at hl 4 rfl) ?_
              refine bm_lald hx hb hK hM 1 hP.c17 rfl t (bm_ix_nI (by omega)) (by omega) dM_noted_65 ?_
              refine W.lcmp hx hb dM_noted_66 ?_
              refine lv_if_ne (tgt := 74) hx hb dM_noted_67 rfl (fun h67 => ?_) (fun h67 => ?_)
              · refine lv_iconst (v := 0) hx hb dM_noted_74 (by decide) ?_
                refine lv_istore hx hb dM_noted_75 hl (by decide) rfl (fun ls hl => ?_)
                have hl : lv_has ls 6 [(4, .int 0), (0, .ref m), (1, .long den), (3, .int (nI i)), (5, .int (nI t))] := hl
                have hl : lv_has ls 6 [(4, .int (bm_me g10 g17 den i (t + 1))), (0, .ref m), (1, .long den), (3, .int (nI i)), (5, .int (nI t))] := by rw [show bm_me g10 g17 den i (t + 1) = _ from bm_me_n (fun q => h67 ((lg_cmp_eq _ _).mpr q))]; exact hl
                refine lv_iinc (v := nI (t + 1)) (k := 4) hx hb dM_noted_77 hl rfl (bm_inc t) (by decide) rfl (fun ls hl => ?_)
                have hl : lv_has ls 6 [(5, .int (nI (t + 1))), (4, .int (bm_me g10 g17 den i (t + 1))), (0, .ref m), (1, .long den), (3, .int (nI i))] := hl
                refine lv_goto (tgt := 34) hx hb dM_noted_80 rfl ?_
                have hl : lv_has ls 6 [(0, .ref m), (1, .long den), (3, .int (nI i)), (4, .int (bm_me g10 g17 den i (t + 1))), (5, .int (nI (t + 1)))] := lv_sub hl [2, 3, 4, 1, 0] rfl
                exact ih (t + 1) ls _ _ (by omega) hl hz hM hS
              · refine lv_iconst (v := 1) hx hb dM_noted_70 (by decide) ?_
                refine lv_goto (tgt := 75) hx hb dM_noted_71 rfl ?_
                refine lv_istore hx hb dM_noted_75 hl (by decide) rfl (fun ls hl => ?_)
                have hl : lv_has ls 6 [(4, .int 1), (0, .ref m), (1, .long den), (3, .int (nI i)), (5, .int (nI t))] := hl
                have hl : lv_has ls 6 [(4, .int (bm_me g10 g17 den i (t + 1))), (0, .ref m), (1, .long den), (3, .int (nI i)), (5, .int (nI t))] := by rw [show bm_me g10 g17 den i (t + 1) = _ from bm_me_y h42 ((lg_cmp_eq _ _).mp h67)]; exact hl
                refine lv_iinc (v := nI (t + 1)) (k := 4) hx hb dM_noted_77 hl rfl (bm_inc t) (by decide) rfl (fun ls hl => ?_)
                have hl : lv_has ls 6 [(5, .int (nI (t + 1))), (4, .int (bm_me g10 g17 den i (t + 1))), (0, .ref m), (1, .long den), (3, .int (nI i))] := hl
                refine lv_goto (tgt := 34) hx hb dM_noted_80 rfl ?_
                have hl : lv_has ls 6 [(0, .ref m), (1, .long den), (3, .int (nI i)), (4, .int (bm_me g10 g17 den i (t + 1))), (5, .int (nI (t + 1)))] := lv_sub hl [2, 3, 4, 1, 0] rfl
                exact ih (t + 1) ls _ _ (by omega) hl hz hM hS
        exact loop2 4 0 ls _ _ rfl hl hz hM hS
      · refine lv_iconst (v := 1) hx hb dM_noted_24 (by decide) ?_
        refine lv_goto (tgt := 29) hx hb dM_noted_25 rfl ?_
        refine lv_istore hx hb dM_noted_29 hl (by decide) rfl (fun ls hl => ?_)
        have hl : lv_has ls 6 [(4, .int 1), (0, .ref m), (1, .long den), (3, .int (nI i))] := hl
        have hl : lv_has ls 6 [(4, .int (bm_me g10 g17 den i 0)), (0, .ref m), (1, .long den), (3, .int (nI i))] := by rw [show bm_me g10 g17 den i 0 = _ from bm_me_a ((lg_cmp_eq _ _).mp h21)]; exact hl
        refine lv_iconst (v := 0) hx hb dM_noted_31 (by decide) ?_
        refine lv_istore hx hb dM_noted_32 hl (by decide) rfl (fun ls hl => ?_)
        have hl : lv_has ls 6 [(5, .int 0), (4, .int (bm_me g10 g17 den i 0)), (0, .ref m), (1, .long den), (3, .int (nI i))] := hl
        have hl : lv_has ls 6 [(0, .ref m), (1, .long den), (3, .int (nI i)), (4, .int (bm_me g10 g17 den i 0)), (5, .int 0)] := lv_sub hl [2, 3, 4, 1, 0] rfl
        have loop2 : ∀ (n : Nat) (t : Nat) (ls : Array Slot) (H : Heap) (locs : List Loc), t + n = 4 → lv_has ls 6 [(0, .ref m), (1, .long den), (3, .int (nI i)), (4, .int (bm_me g10 g17 den i t)), (5, .int (nI t))] → H.size = sz → bm_M D base M H → va_S (bm_A base) s.heap H locs → W vp l ve R s vm args below meth vc H locs 0 0 Q (F0 vm 34 ls []) := by
          intro n
          induction n with
          | zero =>
            intro t ls H locs ht hl hz hM hS
            obtain rfl : t = 4 := by omega
            have hl : lv_has ls 6 [(0, .ref m), (1, .long den), (3, .int (nI i)), (4, .int (bm_me g10 g17 den i 4)), (5, .int 4)] := hl
            refine lv_iload hx hb dM_noted_34 (lv_at hl 4 rfl) ?_
            refine lv_iconst (v := 4) hx hb dM_noted_36 (by decide) ?_
            refine lv_icmp_ge (tgt := 83) hx hb dM_noted_37 rfl (fun _ => ?_) (fun h => absurd h (by decide))
            refine lv_iload hx hb dM_noted_83 (lv_at hl 3 rfl) ?_
            refine lv_if_eq (tgt := 90) hx hb dM_noted_85 rfl (fun h85 => ?_) (fun h85 => absurd (hnone i (by omega)) h85)
            refine lv_iinc (v := nI (i + 1)) (k := 2) hx hb dM_noted_90 hl rfl (bm_inc i) (by decide) rfl (fun ls hl => ?_)
            have hl : lv_has ls 6 [(3, .int (nI (i + 1))), (0, .ref m), (1, .long den), (4, .int (bm_me g10 g17 den i 4)), (5, .int 4)] := hl
            refine lv_goto (tgt := 2) hx hb dM_noted_93 rfl ?_
            have hl : lv_has ls 6 [(0, .ref m), (1, .long den), (3, .int (nI (i + 1)))] := lv_sub hl [1, 2, 0] rfl
            exact ih (i + 1) ls _ _ (by omega) hl hz hM hS
          | succ n ih =>
            intro t ls H locs ht hl hz hM hS
            refine lv_iload hx hb dM_noted_34 (lv_at hl 4 rfl) ?_
            refine lv_iconst (v := 4) hx hb dM_noted_36 (by decide) ?_
            refine lv_icmp_ge (tgt := 83) hx hb dM_noted_37 rfl (fun h37 => absurd h37 (nI_ge (b := 4) (by omega) (by decide))) (fun h37 => ?_)
            refine lv_iload hx hb dM_noted_40 (lv_at hl 3 rfl) ?_
            refine lv_if_eq (tgt := 74) hx hb dM_noted_42 rfl (fun h42 => ?_) (fun h42 => ?_)
            · refine lv_iconst (v := 0) hx hb dM_noted_74 (by decide) ?_
              refine lv_istore hx hb dM_noted_75 hl (by decide) rfl (fun ls hl => ?_)
              have hl : lv_has ls 6 [(4, .int 0), (0, .ref m), (1, .long den), (3, .int (nI i)), (5, .int (nI t))] := hl
              have hl : lv_has ls 6 [(4, .int (bm_me g10 g17 den i (t + 1))), (0, .ref m), (1, .long den), (3, .int (nI i)), (5, .int (nI t))] := by rw [show bm_me g10 g17 den i (t + 1) = _ from bm_me_0 h42]; exact hl
              refine lv_iinc (v := nI (t + 1)) (k := 4) hx hb dM_noted_77 hl rfl (bm_inc t) (by decide) rfl (fun ls hl => ?_)
              have hl : lv_has ls 6 [(5, .int (nI (t + 1))), (4, .int (bm_me g10 g17 den i (t + 1))), (0, .ref m), (1, .long den), (3, .int (nI i))] := hl
              refine lv_goto (tgt := 34) hx hb dM_noted_80 rfl ?_
              have hl : lv_has ls 6 [(0, .ref m), (1, .long den), (3, .int (nI i)), (4, .int (bm_me g10 g17 den i (t + 1))), (5, .int (nI (t + 1)))] := lv_sub hl [2, 3, 4, 1, 0] rfl
              exact ih (t + 1) ls _ _ (by omega) hl hz hM hS
            · refine lv_aload_n hx hb dM_noted_45 rfl (lv_at hl 0 rfl) ?_
              refine bm_get (ci := 7) (v := .ref (m + 10)) (C := "BlindMintModel") (T := bt_M) (N := 22) hx hb hts bu_M hown hK hM hP.c0 rfl 14 (by decide) (hts _ bw_616) (fun _ h9 => h9) rfl dM_noted_46 ?_
              refine lv_bipush (v := 10) hx hb dM_noted_49 (by decide) ?_
              refine lv_iload_n hx hb dM_noted_51 rfl (lv_at hl 2 rfl) ?_
              refine lv_imul hx hb dM_noted_52 ?_
              refine lv_iconst (v := 1) hx hb dM_noted_53 (by decide) ?_
              refine lv_iadd hx hb dM_noted_54 ?_
              refine lv_iload hx hb dM_noted_55 (lv_at hl 4 rfl) ?_
              refine lv_iadd hx hb dM_noted_57 ?_
              refine lv_topi (fun t5 e_t5 => ?_)
              have e_t5 : t5 = nI (10 * i + (1 + t)) := by rw [e_t5]; show nI 10 * nI i + nI 1 + nI t = _; rw [pk_mul, nI_add, nI_add, Nat.add_assoc]
              subst e_t5
              refine bm_lald hx hb hK hM 1 hP.c10 rfl (10 * i + (1 + t)) (bm_ix_nI (by omega)) (by omega) dM_noted_58 ?_
              refine lv_aload_n hx hb dM_noted_59 rfl (lv_at hl 0 rfl) ?_
              refine bm_get (ci := 7) (v := .ref (m + 17)) (C := "BlindMintModel") (T := bt_M) (N := 22) hx hb hts bu_M hown hK hM hP.c0 rfl 21 (by decide) (hts _ bw_623) (fun _ h9 => h9) rfl dM_noted_60 ?_
              refine lv_iload hx hb dM_noted_63 (lv_at hl 4 rfl) ?_
              refine bm_lald hx hb hK hM 1 hP.c17 rfl t (bm_ix_nI (by omega)) (by omega) dM_noted_65 ?_
              refine W.lcmp hx hb dM_noted_66 ?_
              refine lv_if_ne (tgt := 74) hx hb dM_noted_67 rfl (fun h67 => ?_) (fun h67 => ?_)
              · refine lv_iconst (v := 0) hx hb dM_noted_74 (by decide) ?_
                refine lv_istore hx hb dM_noted_75 hl (by decide) rfl (fun ls hl => ?_)
                have hl : lv_has ls 6 [(4, .int 0), (0, .ref m), (1, .long den), (3, .int (nI i)), (5, .int (nI t))] := hl
                have hl : lv_has ls 6 [(4, .int (bm_me g10 g17 den i (t + 1))), (0, .ref m), (1, .long den), (3, .int (nI i)), (5, .int (nI t))] := by rw [show bm_me g10 g17 den i (t + 1) = _ from bm_me_n (fun q => h67 ((lg_cmp_eq _ _).mpr q))]; exact hl
                refine lv_iinc (v := nI (t + 1)) (k := 4) hx hb dM_noted_77 hl rfl (bm_inc t) (by decide) rfl (fun ls hl => ?_)
                have hl : lv_has ls 6 [(5, .int (nI (t + 1))), (4, .int (bm_me g10 g17 den i (t + 1))), (0, .ref m), (1, .long den), (3, .int (nI i))] := hl
                refine lv_goto (tgt := 34) hx hb dM_noted_80 rfl ?_
                have hl : lv_has ls 6 [(0, .ref m), (1, .long den), (3, .int (nI i)), (4, .int (bm_me g10 g17 den i (t + 1))), (5, .int (nI (t + 1)))] := lv_sub hl [2, 3, 4, 1, 0] rfl
                exact ih (t + 1) ls _ _ (by omega) hl hz hM hS
              · refine lv_iconst (v := 1) hx hb dM_noted_70 (by decide) ?_
                refine lv_goto (tgt := 75) hx hb dM_noted_71 rfl ?_
                refine lv_istore hx hb dM_noted_75 hl (by decide) rfl (fun ls hl => ?_)
                have hl : lv_has ls 6 [(4, .int 1), (0, .ref m), (1, .long den), (3, .int (nI i)), (5, .int (nI t))] := hl
                have hl : lv_has ls 6 [(4, .int (bm_me g10 g17 den i (t + 1))), (0, .ref m), (1, .long den), (3, .int (nI i)), (5, .int (nI t))] := by rw [show bm_me g10 g17 den i (t + 1) = _ from bm_me_y h42 ((lg_cmp_eq _ _).mp h67)]; exact hl
                refine lv_iinc (v := nI (t + 1)) (k := 4) hx hb dM_noted_77 hl rfl (bm_inc t) (by decide) rfl (fun ls hl => ?_)
                have hl : lv_has ls 6 [(5, .int (nI (t + 1))), (4, .int (bm_me g10 g17 den i (t + 1))), (0, .ref m), (1, .long den), (3, .int (nI i))] := hl
                refine lv_goto (tgt := 34) hx hb dM_noted_80 rfl ?_
                have hl : lv_has ls 6 [(0, .ref m), (1, .long den), (3, .int (nI i)), (4, .int (bm_me g10 g17 den i (t + 1))), (5, .int (nI (t + 1)))] := lv_sub hl [2, 3, 4, 1, 0] rfl
                exact ih (t + 1) ls _ _ (by omega) hl hz hM hS
        exact loop2 4 0 ls _ _ rfl hl hz hM hS
  exact loop K 0 ls _ _ (by omega) hl hz hM hS
set_option maxHeartbeats 4000000 in
set_option maxRecDepth 100000 in
theorem bc_M_noted_ok (l : Launch) (D : va_G) (ct : Nat → ClassId) (base : Nat) (ad : Nat → Nat) (M : bm_Map) (sz : Nat) (m : Nat) (th : Int32) (tr : Int32) (bl : Int64) (np : Int32) (nd : Int32) (f1 : Nat → Int32) (f2 : Nat → Int32) (f3 : Nat → Int32) (f4 : Nat → Int32) (g5 : Nat → Int64) (g6 : Nat → Int64) (f7 : Nat → Int32) (g8 : Nat → Int64) (g9 : Nat → Int64) (g10 : Nat → Int64) (g11 : Nat → Int64) (g12 : Nat → Int64) (g13 : Nat → Int64) (g14 : Nat → Int64) (g15 : Nat → Int64) (f16 : Nat → Int32) (g17 : Nat → Int64) (den : Int64) (K kk : Nat) (hP : bm_MD ct m th tr bl np nd f1 f2 f3 f4 g5 g6 f7 g8 g9 g10 g11 g12 g13 g14 g15 f16 g17 M) (hkd : nd = nI K) (hK5 : K ≤ 520) (hkk : kk < K) (hnone : ∀ i, i < kk → bm_me g10 g17 den i 4 = 0) (hfound : ¬ bm_me g10 g17 den kk 4 = 0) : Met l yM_noted (bm_ws yM_noted cM_noted 6 (some .int)) { frames := 0, cells := 0, slots := 0, locals := 0 } (bm_Pre D ct base ad M sz [.ref m, .long den]) (bm_Post D base (bm_Pm m M sz (fun v M1 => v = some (.int (nI kk)) ∧ bm_MD ct m th tr bl np nd f1 f2 f3 f4 g5 g6 f7 g8 g9 g10 g11 g12 g13 g14 g15 f16 g17 M1))) 0 0 (bm_A base) := by
  refine bm_ofB (cc := cM_noted) (maxL := 6) (ret := (some .int)) (by decide +kernel) (Nat.le_of_ble_eq_true rfl) ?_
  intro vp ve s vm args below meth vc hx hb hr hlk hts hown hml hnm ls hl hz hM hG R Q hR hQ
  have hown : s.vm.findClass "BlindMintModel" = some vm.cls := hown
  have hK := hG.K
  have hS : va_S (bm_A base) s.heap s.heap [] := va_S.rf
  have hl : lv_has ls 6 [(0, .ref m), (1, .long den)] := hl
  have hF : bm_fr m M M := bm_fr.rf
  refine lv_iconst (v := 0) hx hb dM_noted_0 (by decide) ?_
  refine lv_istore_n hx hb dM_noted_1 rfl hl (by decide) rfl (fun ls hl => ?_)
  have hl : lv_has ls 6 [(3, .int 0), (0, .ref m), (1, .long den)] := hl
  have hl : lv_has ls 6 [(0, .ref m), (1, .long den), (3, .int 0)] := lv_sub hl [1, 2, 0] rfl
  have loop : ∀ (n : Nat) (i : Nat) (ls : Array Slot) (H : Heap) (locs : List Loc), i + n = kk → lv_has ls 6 [(0, .ref m), (1, .long den), (3, .int (nI i))] → H.size = sz → bm_M D base M H → va_S (bm_A base) s.heap H locs → W vp l ve R s vm args below meth vc H locs 0 0 Q (F0 vm 2 ls []) := by
    intro n
    induction n with
    | zero =>
      intro i ls H locs hi hl hz hM hS
      obtain rfl : kk = i := by omega
      have hl : lv_has ls 6 [(0, .ref m), (1, .long den), (3, .int (nI kk))] := hl
      obtain ⟨i, hii⟩ : ∃ i, i = kk := ⟨_, rfl⟩
      subst hii
      refine lv_iload_n hx hb dM_noted_2 rfl (lv_at hl 2 rfl) ?_
      refine lv_aload_n hx hb dM_noted_3 rfl (lv_at hl 0 rfl) ?_
      refine bm_get (ci := 7) (v := .int nd) (C := "BlindMintModel") (T := bt_M) (N := 22) hx hb hts bu_M hown hK hM hP.c0 rfl 13 (by decide) (hts _ bw_615) (fun _ h9 => h9) rfl dM_noted_4 ?_
      refine lv_topi (fun t1 e_t1 => ?_)
      have e_t1 : t1 = nI K := by rw [e_t1]; exact hkd
      subst e_t1
      refine lv_icmp_ge (tgt := 96) hx hb dM_noted_7 rfl (fun h7 => absurd h7 (nI_ge (by omega) (by omega))) (fun h7 => ?_)
      refine lv_aload_n hx hb dM_noted_10 rfl (lv_at hl 0 rfl) ?_
      refine bm_get (ci := 7) (v := .ref (m + 10)) (C := "BlindMintModel") (T := bt_M) (N := 22) hx hb hts bu_M hown hK hM hP.c0 rfl 14 (by decide) (hts _ bw_616) (fun _ h9 => h9) rfl dM_noted_11 ?_
      refine lv_bipush (v := 10) hx hb dM_noted_14 (by decide) ?_
      refine lv_iload_n hx hb dM_noted_16 rfl (lv_at hl 2 rfl) ?_
      refine lv_imul hx hb dM_noted_17 ?_
      refine lv_topi (fun t2 e_t2 => ?_)
      have e_t2 : t2 = nI (10 * i) := by rw [e_t2]; exact pk_mul 10 i
      subst e_t2
      refine bm_lald hx hb hK hM 1 hP.c10 rfl (10 * i) (bm_ix_nI (by omega)) (by omega) dM_noted_18 ?_
      refine lv_lload_n hx hb dM_noted_19 rfl (lv_at hl 1 rfl) ?_
      refine W.lcmp hx hb dM_noted_20 ?_
      refine lv_if_ne (tgt := 28) hx hb dM_noted_21 rfl (fun h21 => ?_) (fun h21 => ?_)
      · refine lv_iconst (v := 0) hx hb dM_noted_28 (by decide) ?_
        refine lv_istore hx hb dM_noted_29 hl (by decide) rfl (fun ls hl => ?_)
        have hl : lv_has ls 6 [(4, .int 0), (0, .ref m), (1, .long den), (3, .int (nI i))] := hl
        have hl : lv_has ls 6 [(4, .int (bm_me g10 g17 den i 0)), (0, .ref m), (1, .long den), (3, .int (nI i))] := by rw [show bm_me g10 g17 den i 0 = _ from bm_me_b (fun q => h21 ((lg_cmp_eq _ _).mpr q))]; exact hl
        refine lv_iconst (v := 0) hx hb dM_noted_31 (by decide) ?_
        refine lv_istore hx hb dM_noted_32 hl (by decide) rfl (fun ls hl => ?_)
        have hl : lv_has ls 6 [(5, .int 0), (4, .int (bm_me g10 g17 den i 0)), (0, .ref m), (1, .long den), (3, .int (nI i))] := hl
        have hl : lv_has ls 6 [(0, .ref m), (1, .long den), (3, .int (nI i)), (4, .int (bm_me g10 g17 den i 0)), (5, .int 0)] := lv_sub hl [2, 3, 4, 1, 0] rfl
        have loop2 : ∀ (n : Nat) (t : Nat) (ls : Array Slot) (H : Heap) (locs : List Loc), t + n = 4 → lv_has ls 6 [(0, .ref m), (1, .long den), (3, .int (nI i)), (4, .int (bm_me g10 g17 den i t)), (5, .int (nI t))] → H.size = sz → bm_M D base M H → va_S (bm_A base) s.heap H locs → W vp l ve R s vm args below meth vc H locs 0 0 Q (F0 vm 34 ls []) := by
          intro n
          induction n with
          | zero =>
            intro t ls H locs ht hl hz hM hS
            obtain rfl : t = 4 := by omega
            have hl : lv_has ls 6 [(0, .ref m), (1, .long den), (3, .int (nI i)), (4, .int (bm_me g10 g17 den i 4)), (5, .int 4)] := hl
            refine lv_iload hx hb dM_noted_34 (lv_at hl 4 rfl) ?_
            refine lv_iconst (v := 4) hx hb dM_noted_36 (by decide) ?_
            refine lv_icmp_ge (tgt := 83) hx hb dM_noted_37 rfl (fun _ => ?_) (fun h => absurd h (by decide))
            refine lv_iload hx hb dM_noted_83 (lv_at hl 3 rfl) ?_
            refine lv_if_eq (tgt := 90) hx hb dM_noted_85 rfl (fun h85 => absurd h85 hfound) (fun h85 => ?_)
            refine lv_iload_n hx hb dM_noted_88 rfl (lv_at hl 2 rfl) ?_
            exact bm_iret hQ hx hb hr hlk hM hS ⟨hz, ⟨rfl, hP⟩, hF⟩ (Nat.le_refl _) (Nat.le_refl _) dM_noted_89
          | succ n ih =>
            intro t ls H locs ht hl hz hM hS
            refine lv_iload hx hb dM_noted_34 (lv_at hl 4 rfl) ?_
            refine lv_iconst (v := 4) hx hb dM_noted_36 (by decide) ?_
            refine lv_icmp_ge (tgt := 83) hx hb dM_noted_37 rfl (fun h37 => absurd h37 (nI_ge (b := 4) (by omega) (by decide))) (fun h37 => ?_)
            refine lv_iload hx hb dM_noted_40 (lv_at hl 3 rfl) ?_
            refine lv_if_eq (tgt := 74) hx hb dM_noted_42 rfl (fun h42 => ?_) (fun h42 => ?_)
            · refine lv_iconst (v := 0) hx hb dM_noted_74 (by decide) ?_
              refine lv_istore hx hb dM_noted_75 hl (by decide) rfl (fun ls hl => ?_)
              have hl : lv_has ls 6 [(4, .int 0), (0, .ref m), (1, .long den), (3, .int (nI i)), (5, .int (nI t))] := hl
              have hl : lv_has ls 6 [(4, .int (bm_me g10 g17 den i (t + 1))), (0, .ref m), (1, .long den), (3, .int (nI i)), (5, .int (nI t))] := by rw [show bm_me g10 g17 den i (t + 1) = _ from bm_me_0 h42]; exact hl
              refine lv_iinc (v := nI (t + 1)) (k := 4) hx hb dM_noted_77 hl rfl (bm_inc t) (by decide) rfl (fun ls hl => ?_)
              have hl : lv_has ls 6 [(5, .int (nI (t + 1))), (4, .int (bm_me g10 g17 den i (t + 1))), (0, .ref m), (1, .long den), (3, .int (nI i))] := hl
              refine lv_goto (tgt := 34) hx hb dM_noted_80 rfl ?_
              have hl : lv_has ls 6 [(0, .ref m), (1, .long den), (3, .int (nI i)), (4, .int (bm_me g10 g17 den i (t + 1))), (5, .int (nI (t + 1)))] := lv_sub hl [2, 3, 4, 1, 0] rfl
              exact ih (t + 1) ls _ _ (by omega) hl hz hM hS
            · refine lv_aload_n hx hb dM_noted_45 rfl (lv_at hl 0 rfl) ?_
              refine bm_get (ci := 7) (v := .ref (m + 10)) (C := "BlindMintModel") (T := bt_M) (N := 22) hx hb hts bu_M hown hK hM hP.c0 rfl 14 (by decide) (hts _ bw_616) (fun _ h9 => h9) rfl dM_noted_46 ?_
              refine lv_bipush (v := 10) hx hb dM_noted_49 (by decide) ?_
              refine lv_iload_n hx hb dM_noted_51 rfl (lv_at hl 2 rfl) ?_
              refine lv_imul hx hb dM_noted_52 ?_
              refine lv_iconst (v := 1) hx hb dM_noted_53 (by decide) ?_
              refine lv_iadd hx hb dM_noted_54 ?_
              refine lv_iload hx hb dM_noted_55 (lv_at hl 4 rfl) ?_
              refine lv_iadd hx hb dM_noted_57 ?_
              refine lv_topi (fun t3 e_t3 => ?_)
              have e_t3 : t3 = nI (10 * i + (1 + t)) := by rw [e_t3]; show nI 10 * nI i + nI 1 + nI t = _; rw [pk_mul, nI_add, nI_add, Nat.add_assoc]
              subst e_t3
              refine bm_lald hx hb hK hM 1 hP.c10 rfl (10 * i + (1 + t)) (bm_ix_nI (by omega)) (by omega) dM_noted_58 ?_
              refine lv_aload_n hx hb dM_noted_59 rfl (lv_at hl 0 rfl) ?_
              refine bm_get (ci := 7) (v := .ref (m + 17)) (C := "BlindMintModel") (T := bt_M) (N := 22) hx hb hts bu_M hown hK hM hP.c0 rfl 21 (by decide) (hts _ bw_623) (fun _ h9 => h9) rfl dM_noted_60 ?_
              refine lv_iload hx hb dM_noted_63 (lv_at hl 4 rfl) ?_
              refine bm_lald hx hb hK hM 1 hP.c17 rfl t (bm_ix_nI (by omega)) (by omega) dM_noted_65 ?_
              refine W.lcmp hx hb dM_noted_66 ?_
              refine lv_if_ne (tgt := 74) hx hb dM_noted_67 rfl (fun h67 => ?_) (fun h67 => ?_)
              · refine lv_iconst (v := 0) hx hb dM_noted_74 (by decide) ?_
                refine lv_istore hx hb dM_noted_75 hl (by decide) rfl (fun ls hl => ?_)
                have hl : lv_has ls 6 [(4, .int 0), (0, .ref m), (1, .long den), (3, .int (nI i)), (5, .int (nI t))] := hl
                have hl : lv_has ls 6 [(4, .int (bm_me g10 g17 den i (t + 1))), (0, .ref m), (1, .long den), (3, .int (nI i)), (5, .int (nI t))] := by rw [show bm_me g10 g17 den i (t + 1) = _ from bm_me_n (fun q => h67 ((lg_cmp_eq _ _).mpr q))]; exact hl
                refine lv_iinc (v := nI (t + 1)) (k := 4) hx hb dM_noted_77 hl rfl (bm_inc t) (by decide) rfl (fun ls hl => ?_)
                have hl : lv_has ls 6 [(5, .int (nI (t + 1))), (4, .int (bm_me g10 g17 den i (t + 1))), (0, .ref m), (1, .long den), (3, .int (nI i))] := hl
                refine lv_goto (tgt := 34) hx hb dM_noted_80 rfl ?_
                have hl : lv_has ls 6 [(0, .ref m), (1, .long den), (3, .int (nI i)), (4, .int (bm_me g10 g17 den i (t + 1))), (5, .int (nI (t + 1)))] := lv_sub hl [2, 3, 4, 1, 0] rfl
                exact ih (t + 1) ls _ _ (by omega) hl hz hM hS
              · refine lv_iconst (v := 1) hx hb dM_noted_70 (by decide) ?_
                refine lv_goto (tgt := 75) hx hb dM_noted_71 rfl ?_
                refine lv_istore hx hb dM_noted_75 hl (by decide) rfl (fun ls hl => ?_)
                have hl : lv_has ls 6 [(4, .int 1), (0, .ref m), (1, .long den), (3, .int (nI i)), (5, .int (nI t))] := hl
                have hl : lv_has ls 6 [(4, .int (bm_me g10 g17 den i (t + 1))), (0, .ref m), (1, .long den), (3, .int (nI i)), (5, .int (nI t))] := by rw [show bm_me g10 g17 den i (t + 1) = _ from bm_me_y h42 ((lg_cmp_eq _ _).mp h67)]; exact hl
                refine lv_iinc (v := nI (t + 1)) (k := 4) hx hb dM_noted_77 hl rfl (bm_inc t) (by decide) rfl (fun ls hl => ?_)
                have hl : lv_has ls 6 [(5, .int (nI (t + 1))), (4, .int (bm_me g10 g17 den i (t + 1))), (0, .ref m), (1, .long den), (3, .int (nI i))] := hl
                refine lv_goto (tgt := 34) hx hb dM_noted_80 rfl ?_
                have hl : lv_has ls 6 [(0, .ref m), (1, .long den), (3, .int (nI i)), (4, .int (bm_me g10 g17 den i (t + 1))), (5, .int (nI (t + 1)))] := lv_sub hl [2, 3, 4, 1, 0] rfl
                exact ih (t + 1) ls _ _ (by omega) hl hz hM hS
        exact loop2 4 0 ls _ _ rfl hl hz hM hS
      · refine lv_iconst (v := 1) hx hb dM_noted_24 (by decide) ?_
        refine lv_goto (tgt := 29) hx hb dM_noted_25 rfl ?_
        refine lv_istore hx hb dM_noted_29 hl (by decide) rfl (fun ls hl => ?_)
        have hl : lv_has ls 6 [(4, .int 1), (0, .ref m), (1, .long den), (3, .int (nI i))] := hl
        have hl : lv_has ls 6 [(4, .int (bm_me g10 g17 den i 0)), (0, .ref m), (1, .long den), (3, .int (nI i))] := by rw [show bm_me g10 g17 den i 0 = _ from bm_me_a ((lg_cmp_eq _ _).mp h21)]; exact hl
        refine lv_iconst (v := 0) hx hb dM_noted_31 (by decide) ?_
        refine lv_istore hx hb dM_noted_32 hl (by decide) rfl (fun ls hl => ?_)
        have hl : lv_has ls 6 [(5, .int 0), (4, .int (bm_me g10 g17 den i 0)), (0, .ref m), (1, .long den), (3, .int (nI i))] := hl
        have hl : lv_has ls 6 [(0, .ref m), (1, .long den), (3, .int (nI i)), (4, .int (bm_me g10 g17 den i 0)), (5, .int 0)] := lv_sub hl [2, 3, 4, 1, 0] rfl
        have loop2 : ∀ (n : Nat) (t : Nat) (ls : Array Slot) (H : Heap) (locs : List Loc), t + n = 4 → lv_has ls 6 [(0, .ref m), (1, .long den), (3, .int (nI i)), (4, .int (bm_me g10 g17 den i t)), (5, .int (nI t))] → H.size = sz → bm_M D base M H → va_S (bm_A base) s.heap H locs → W vp l ve R s vm args below meth vc H locs 0 0 Q (F0 vm 34 ls []) := by
          intro n
          induction n with
          | zero =>
            intro t ls H locs ht hl hz hM hS
            obtain rfl : t = 4 := by omega
            have hl : lv_has ls 6 [(0, .ref m), (1, .long den), (3, .int (nI i)), (4, .int (bm_me g10 g17 den i 4)), (5, .int 4)] := hl
            refine lv_iload hx hb dM_noted_34 (lv_at hl 4 rfl) ?_
            refine lv_iconst (v := 4) hx hb dM_noted_36 (by decide) ?_
            refine lv_icmp_ge (tgt := 83) hx hb dM_noted_37 rfl (fun _ => ?_) (fun h => absurd h (by decide))
            refine lv_iload hx hb dM_noted_83 (lv_at hl 3 rfl) ?_
            refine lv_if_eq (tgt := 90) hx hb dM_noted_85 rfl (fun h85 => absurd h85 hfound) (fun h85 => ?_)
            refine lv_iload_n hx hb dM_noted_88 rfl (lv_at hl 2 rfl) ?_
            exact bm_iret hQ hx hb hr hlk hM hS ⟨hz, ⟨rfl, hP⟩, hF⟩ (Nat.le_refl _) (Nat.le_refl _) dM_noted_89
          | succ n ih =>
            intro t ls H locs ht hl hz hM hS
            refine lv_iload hx hb dM_noted_34 (lv_at hl 4 rfl) ?_
            refine lv_iconst (v := 4) hx hb dM_noted_36 (by decide) ?_
            refine lv_icmp_ge (tgt := 83) hx hb dM_noted_37 rfl (fun h37 => absurd h37 (nI_ge (b := 4) (by omega) (by decide))) (fun h37 => ?_)
            refine lv_iload hx hb dM_noted_40 (lv_at hl 3 rfl) ?_
            refine lv_if_eq (tgt := 74) hx hb dM_noted_42 rfl (fun h42 => ?_) (fun h42 => ?_)
            · refine lv_iconst (v := 0) hx hb dM_noted_74 (by decide) ?_
              refine lv_istore hx hb dM_noted_75 hl (by decide) rfl (fun ls hl => ?_)
              have hl : lv_has ls 6 [(4, .int 0), (0, .ref m), (1, .long den), (3, .int (nI i)), (5, .int (nI t))] := hl
              have hl : lv_has ls 6 [(4, .int (bm_me g10 g17 den i (t + 1))), (0, .ref m), (1, .long den), (3, .int (nI i)), (5, .int (nI t))] := by rw [show bm_me g10 g17 den i (t + 1) = _ from bm_me_0 h42]; exact hl
              refine lv_iinc (v := nI (t + 1)) (k := 4) hx hb dM_noted_77 hl rfl (bm_inc t) (by decide) rfl (fun ls hl => ?_)
              have hl : lv_has ls 6 [(5, .int (nI (t + 1))), (4, .int (bm_me g10 g17 den i (t + 1))), (0, .ref m), (1, .long den), (3, .int (nI i))] := hl
              refine lv_goto (tgt := 34) hx hb dM_noted_80 rfl ?_
              have hl : lv_has ls 6 [(0, .ref m), (1, .long den), (3, .int (nI i)), (4, .int (bm_me g10 g17 den i (t + 1))), (5, .int (nI (t + 1)))] := lv_sub hl [2, 3, 4, 1, 0] rfl
              exact ih (t + 1) ls _ _ (by omega) hl hz hM hS
            · refine lv_aload_n hx hb dM_noted_45 rfl (lv_at hl 0 rfl) ?_
              refine bm_get (ci := 7) (v := .ref (m + 10)) (C := "BlindMintModel") (T := bt_M) (N := 22) hx hb hts bu_M hown hK hM hP.c0 rfl 14 (by decide) (hts _ bw_616) (fun _ h9 => h9) rfl dM_noted_46 ?_
              refine lv_bipush (v := 10) hx hb dM_noted_49 (by decide) ?_
              refine lv_iload_n hx hb dM_noted_51 rfl (lv_at hl 2 rfl) ?_
              refine lv_imul hx hb dM_noted_52 ?_
              refine lv_iconst (v := 1) hx hb dM_noted_53 (by decide) ?_
              refine lv_iadd hx hb dM_noted_54 ?_
              refine lv_iload hx hb dM_noted_55 (lv_at hl 4 rfl) ?_
              refine lv_iadd hx hb dM_noted_57 ?_
              refine lv_topi (fun t4 e_t4 => ?_)
              have e_t4 : t4 = nI (10 * i + (1 + t)) := by rw [e_t4]; show nI 10 * nI i + nI 1 + nI t = _; rw [pk_mul, nI_add, nI_add, Nat.add_assoc]
              subst e_t4
              refine bm_lald hx hb hK hM 1 hP.c10 rfl (10 * i + (1 + t)) (bm_ix_nI (by omega)) (by omega) dM_noted_58 ?_
              refine lv_aload_n hx hb dM_noted_59 rfl (lv_at hl 0 rfl) ?_
              refine bm_get (ci := 7) (v := .ref (m + 17)) (C := "BlindMintModel") (T := bt_M) (N := 22) hx hb hts bu_M hown hK hM hP.c0 rfl 21 (by decide) (hts _ bw_623) (fun _ h9 => h9) rfl dM_noted_60 ?_
              refine lv_iload hx hb dM_noted_63 (lv_at hl 4 rfl) ?_
              refine bm_lald hx hb hK hM 1 hP.c17 rfl t (bm_ix_nI (by omega)) (by omega) dM_noted_65 ?_
              refine W.lcmp hx hb dM_noted_66 ?_
              refine lv_if_ne (tgt := 74) hx hb dM_noted_67 rfl (fun h67 => ?_) (fun h67 => ?_)
              · refine lv_iconst (v := 0) hx hb dM_noted_74 (by decide) ?_
                refine lv_istore hx hb dM_noted_75 hl (by decide) rfl (fun ls hl => ?_)
                have hl : lv_has ls 6 [(4, .int 0), (0, .ref m), (1, .long den), (3, .int (nI i)), (5, .int (nI t))] := hl
                have hl : lv_has ls 6 [(4, .int (bm_me g10 g17 den i (t + 1))), (0, .ref m), (1, .long den), (3, .int (nI i)), (5, .int (nI t))] := by rw [show bm_me g10 g17 den i (t + 1) = _ from bm_me_n (fun q => h67 ((lg_cmp_eq _ _).mpr q))]; exact hl
                refine lv_iinc (v := nI (t + 1)) (k := 4) hx hb dM_noted_77 hl rfl (bm_inc t) (by decide) rfl (fun ls hl => ?_)
                have hl : lv_has ls 6 [(5, .int (nI (t + 1))), (4, .int (bm_me g10 g17 den i (t + 1))), (0, .ref m), (1, .long den), (3, .int (nI i))] := hl
                refine lv_goto (tgt := 34) hx hb dM_noted_80 rfl ?_
                have hl : lv_has ls 6 [(0, .ref m), (1, .long den), (3, .int (nI i)), (4, .int (bm_me g10 g17 den i (t + 1))), (5, .int (nI (t + 1)))] := lv_sub hl [2, 3, 4, 1, 0] rfl
                exact ih (t + 1) ls _ _ (by omega) hl hz hM hS
              · refine lv_iconst (v := 1) hx hb dM_noted_70 (by decide) ?_
                refine lv_goto (tgt := 75) hx hb dM_noted_71 rfl ?_
                refine lv_istore hx hb dM_noted_75 hl (by decide) rfl (fun ls hl => ?_)
                have hl : lv_has ls 6 [(4, .int 1), (0, .ref m), (1, .long den), (3, .int (nI i)), (5, .int (nI t))] := hl
                have hl : lv_has ls 6 [(4, .int (bm_me g10 g17 den i (t + 1))), (0, .ref m), (1, .long den), (3, .int (nI i)), (5, .int (nI t))] := by rw [show bm_me g10 g17 den i (t + 1) = _ from bm_me_y h42 ((lg_cmp_eq _ _).mp h67)]; exact hl
                refine lv_iinc (v := nI (t + 1)) (k := 4) hx hb dM_noted_77 hl rfl (bm_inc t) (by decide) rfl (fun ls hl => ?_)
                have hl : lv_has ls 6 [(5, .int (nI (t + 1))), (4, .int (bm_me g10 g17 den i (t + 1))), (0, .ref m), (1, .long den), (3, .int (nI i))] := hl
                refine lv_goto (tgt := 34) hx hb dM_noted_80 rfl ?_
                have hl : lv_has ls 6 [(0, .ref m), (1, .long den), (3, .int (nI i)), (4, .int (bm_me g10 g17 den i (t + 1))), (5, .int (nI (t + 1)))] := lv_sub hl [2, 3, 4, 1, 0] rfl
                exact ih (t + 1) ls _ _ (by omega) hl hz hM hS
        exact loop2 4 0 ls _ _ rfl hl hz hM hS
    | succ n ih =>
      intro i ls H locs hi hl hz hM hS
      refine lv_iload_n hx hb dM_noted_2 rfl (lv_at hl 2 rfl) ?_
      refine lv_aload_n hx hb dM_noted_3 rfl (lv_at hl 0 rfl) ?_
      refine bm_get (ci := 7) (v := .int nd) (C := "BlindMintModel") (T := bt_M) (N := 22) hx hb hts bu_M hown hK hM hP.c0 rfl 13 (by decide) (hts _ bw_615) (fun _ h9 => h9) rfl dM_noted_4 ?_
      refine lv_topi (fun t5 e_t5 => ?_)
      have e_t5 : t5 = nI K := by rw [e_t5]; exact hkd
      subst e_t5
      refine lv_icmp_ge (tgt := 96) hx hb dM_noted_7 rfl (fun h7 => absurd h7 (nI_ge (by omega) (by omega))) (fun h7 => ?_)
      refine lv_aload_n hx hb dM_noted_10 rfl (lv_at hl 0 rfl) ?_
      refine bm_get (ci := 7) (v := .ref (m + 10)) (C := "BlindMintModel") (T := bt_M) (N := 22) hx hb hts bu_M hown hK hM hP.c0 rfl 14 (by decide) (hts _ bw_616) (fun _ h9 => h9) rfl dM_noted_11 ?_
      refine lv_bipush (v := 10) hx hb dM_noted_14 (by decide) ?_
      refine lv_iload_n hx hb dM_noted_16 rfl (lv_at hl 2 rfl) ?_
      refine lv_imul hx hb dM_noted_17 ?_
      refine lv_topi (fun t6 e_t6 => ?_)
      have e_t6 : t6 = nI (10 * i) := by rw [e_t6]; exact pk_mul 10 i
      subst e_t6
      refine bm_lald hx hb hK hM 1 hP.c10 rfl (10 * i) (bm_ix_nI (by omega)) (by omega) dM_noted_18 ?_
      refine lv_lload_n hx hb dM_noted_19 rfl (lv_at hl 1 rfl) ?_
      refine W.lcmp hx hb dM_noted_20 ?_
      refine lv_if_ne (tgt := 28) hx hb dM_noted_21 rfl (fun h21 => ?_) (fun h21 => ?_)
      · refine lv_iconst (v := 0) hx hb dM_noted_28 (by decide) ?_
        refine lv_istore hx hb dM_noted_29 hl (by decide) rfl (fun ls hl => ?_)
        have hl : lv_has ls 6 [(4, .int 0), (0, .ref m), (1, .long den), (3, .int (nI i))] := hl
        have hl : lv_has ls 6 [(4, .int (bm_me g10 g17 den i 0)), (0, .ref m), (1, .long den), (3, .int (nI i))] := by rw [show bm_me g10 g17 den i 0 = _ from bm_me_b (fun q => h21 ((lg_cmp_eq _ _).mpr q))]; exact hl
        refine lv_iconst (v := 0) hx hb dM_noted_31 (by decide) ?_
        refine lv_istore hx hb dM_noted_32 hl (by decide) rfl (fun ls hl => ?_)
        have hl : lv_has ls 6 [(5, .int 0), (4, .int (bm_me g10 g17 den i 0)), (0, .ref m), (1, .long den), (3, .int (nI i))] := hl
        have hl : lv_has ls 6 [(0, .ref m), (1, .long den), (3, .int (nI i)), (4, .int (bm_me g10 g17 den i 0)), (5, .int 0)] := lv_sub hl [2, 3, 4, 1, 0] rfl
        have loop2 : ∀ (n : Nat) (t : Nat) (ls : Array Slot) (H : Heap) (locs : List Loc), t + n = 4 → lv_has ls 6 [(0, .ref m), (1, .long den), (3, .int (nI i)), (4, .int (bm_me g10 g17 den i t)), (5, .int (nI t))] → H.size = sz → bm_M D base M H → va_S (bm_A base) s.heap H locs → W vp l ve R s vm args below meth vc H locs 0 0 Q (F0 vm 34 ls []) := by
          intro n
          induction n with
          | zero =>
            intro t ls H locs ht hl hz hM hS
            obtain rfl : t = 4 := by omega
            have hl : lv_has ls 6 [(0, .ref m), (1, .long den), (3, .int (nI i)), (4, .int (bm_me g10 g17 den i 4)), (5, .int 4)] := hl
            refine lv_iload hx hb dM_noted_34 (lv_at hl 4 rfl) ?_
            refine lv_iconst (v := 4) hx hb dM_noted_36 (by decide) ?_
            refine lv_icmp_ge (tgt := 83) hx hb dM_noted_37 rfl (fun _ => ?_) (fun h => absurd h (by decide))
            refine lv_iload hx hb dM_noted_83 (lv_at hl 3 rfl) ?_
            refine lv_if_eq (tgt := 90) hx hb dM_noted_85 rfl (fun h85 => ?_) (fun h85 => absurd (hnone i (by omega)) h85)
            refine lv_iinc (v := nI (i + 1)) (k := 2) hx hb dM_noted_90 hl rfl (bm_inc i) (by decide) rfl (fun ls hl => ?_)
            have hl : lv_has ls 6 [(3, .int (nI (i + 1))), (0, .ref m), (1, .long den), (4, .int (bm_me g10 g17 den i 4)), (5, .int 4)] := hl
            refine lv_goto (tgt := 2) hx hb dM_noted_93 rfl ?_
            have hl : lv_has ls 6 [(0, .ref m), (1, .long den), (3, .int (nI (i + 1)))] := lv_sub hl [1, 2, 0] rfl
            exact ih (i + 1) ls _ _ (by omega) hl hz hM hS
          | succ n ih =>
            intro t ls H locs ht hl hz hM hS
            refine lv_iload hx hb dM_noted_34 (lv_at hl 4 rfl) ?_
            refine lv_iconst (v := 4) hx hb dM_noted_36 (by decide) ?_
            refine lv_icmp_ge (tgt := 83) hx hb dM_noted_37 rfl (fun h37 => absurd h37 (nI_ge (b := 4) (by omega) (by decide))) (fun h37 => ?_)
            refine lv_iload hx hb dM_noted_40 (lv_at hl 3 rfl) ?_
            refine lv_if_eq (tgt := 74) hx hb dM_noted_42 rfl (fun h42 => ?_) (fun h42 => ?_)
            · refine lv_iconst (v := 0) hx hb dM_noted_74 (by decide) ?_
              refine lv_istore hx hb dM_noted_75 hl (by decide) rfl (fun ls hl => ?_)
              have hl : lv_has ls 6 [(4, .int 0), (0, .ref m), (1, .long den), (3, .int (nI i)), (5, .int (nI t))] := hl
              have hl : lv_has ls 6 [(4, .int (bm_me g10 g17 den i (t + 1))), (0, .ref m), (1, .long den), (3, .int (nI i)), (5, .int (nI t))] := by rw [show bm_me g10 g17 den i (t + 1) = _ from bm_me_0 h42]; exact hl
              refine lv_iinc (v := nI (t + 1)) (k := 4) hx hb dM_noted_77 hl rfl (bm_inc t) (by decide) rfl (fun ls hl => ?_)
              have hl : lv_has ls 6 [(5, .int (nI (t + 1))), (4, .int (bm_me g10 g17 den i (t + 1))), (0, .ref m), (1, .long den), (3, .int (nI i))] := hl
              refine lv_goto (tgt := 34) hx hb dM_noted_80 rfl ?_
              have hl : lv_has ls 6 [(0, .ref m), (1, .long den), (3, .int (nI i)), (4, .int (bm_me g10 g17 den i (t + 1))), (5, .int (nI (t + 1)))] := lv_sub hl [2, 3, 4, 1, 0] rfl
              exact ih (t + 1) ls _ _ (by omega) hl hz hM hS
            · refine lv_aload_n hx hb dM_noted_45 rfl (lv_at hl 0 rfl) ?_
              refine bm_get (ci := 7) (v := .ref (m + 10)) (C := "BlindMintModel") (T := bt_M) (N := 22) hx hb hts bu_M hown hK hM hP.c0 rfl 14 (by decide) (hts _ bw_616) (fun _ h9 => h9) rfl dM_noted_46 ?_
              refine lv_bipush (v := 10) hx hb dM_noted_49 (by decide) ?_
              refine lv_iload_n hx hb dM_noted_51 rfl (lv_at hl 2 rfl) ?_
              refine lv_imul hx hb dM_noted_52 ?_
              refine lv_iconst (v := 1) hx hb dM_noted_53 (by decide) ?_
              refine lv_iadd hx hb dM_noted_54 ?_
              refine lv_iload hx hb dM_noted_55 (lv_at hl 4 rfl) ?_
              refine lv_iadd hx hb dM_noted_57 ?_
              refine lv_topi (fun t7 e_t7 => ?_)
              have e_t7 : t7 = nI (10 * i + (1 + t)) := by rw [e_t7]; show nI 10 * nI i + nI 1 + nI t = _; rw [pk_mul, nI_add, nI_add, Nat.add_assoc]
              subst e_t7
              refine bm_lald hx hb hK hM 1 hP.c10 rfl (10 * i + (1 + t)) (bm_ix_nI (by omega)) (by omega) dM_noted_58 ?_
              refine lv_aload_n hx hb dM_noted_59 rfl (lv_at hl 0 rfl) ?_
              refine bm_get (ci := 7) (v := .ref (m + 17)) (C := "BlindMintModel") (T := bt_M) (N := 22) hx hb hts bu_M hown hK hM hP.c0 rfl 21 (by decide) (hts _ bw_623) (fun _ h9 => h9) rfl dM_noted_60 ?_
              refine lv_iload hx hb dM_noted_63 (lv_at hl 4 rfl) ?_
              refine bm_lald hx hb hK hM 1 hP.c17 rfl t (bm_ix_nI (by omega)) (by omega) dM_noted_65 ?_
              refine W.lcmp hx hb dM_noted_66 ?_
              refine lv_if_ne (tgt := 74) hx hb dM_noted_67 rfl (fun h67 => ?_) (fun h67 => ?_)
              · refine lv_iconst (v := 0) hx hb dM_noted_74 (by decide) ?_
                refine lv_istore hx hb dM_noted_75 hl (by decide) rfl (fun ls hl => ?_)
                have hl : lv_has ls 6 [(4, .int 0), (0, .ref m), (1, .long den), (3, .int (nI i)), (5, .int (nI t))] := hl
                have hl : lv_has ls 6 [(4, .int (bm_me g10 g17 den i (t + 1))), (0, .ref m), (1, .long den), (3, .int (nI i)), (5, .int (nI t))] := by rw [show bm_me g10 g17 den i (t + 1) = _ from bm_me_n (fun q => h67 ((lg_cmp_eq _ _).mpr q))]; exact hl
                refine lv_iinc (v := nI (t + 1)) (k := 4) hx hb dM_noted_77 hl rfl (bm_inc t) (by decide) rfl (fun ls hl => ?_)
                have hl : lv_has ls 6 [(5, .int (nI (t + 1))), (4, .int (bm_me g10 g17 den i (t + 1))), (0, .ref m), (1, .long den), (3, .int (nI i))] := hl
                refine lv_goto (tgt := 34) hx hb dM_noted_80 rfl ?_
                have hl : lv_has ls 6 [(0, .ref m), (1, .long den), (3, .int (nI i)), (4, .int (bm_me g10 g17 den i (t + 1))), (5, .int (nI (t + 1)))] := lv_sub hl [2, 3, 4, 1, 0] rfl
                exact ih (t + 1) ls _ _ (by omega) hl hz hM hS
              · refine lv_iconst (v := 1) hx hb dM_noted_70 (by decide) ?_
                refine lv_goto (tgt := 75) hx hb dM_noted_71 rfl ?_
                refine lv_istore hx hb dM_noted_75 hl (by decide) rfl (fun ls hl => ?_)
                have hl : lv_has ls 6 [(4, .int 1), (0, .ref m), (1, .long den), (3, .int (nI i)), (5, .int (nI t))] := hl
                have hl : lv_has ls 6 [(4, .int (bm_me g10 g17 den i (t + 1))), (0, .ref m), (1, .long den), (3, .int (nI i)), (5, .int (nI t))] := by rw [show bm_me g10 g17 den i (t + 1) = _ from bm_me_y h42 ((lg_cmp_eq _ _).mp h67)]; exact hl
                refine lv_iinc (v := nI (t + 1)) (k := 4) hx hb dM_noted_77 hl rfl (bm_inc t) (by decide) rfl (fun ls hl => ?_)
                have hl : lv_has ls 6 [(5, .int (nI (t + 1))), (4, .int (bm_me g10 g17 den i (t + 1))), (0, .ref m), (1, .long den), (3, .int (nI i))] := hl
                refine lv_goto (tgt := 34) hx hb dM_noted_80 rfl ?_
                have hl : lv_has ls 6 [(0, .ref m), (1, .long den), (3, .int (nI i)), (4, .int (bm_me g10 g17 den i (t + 1))), (5, .int (nI (t + 1)))] := lv_sub hl [2, 3, 4, 1, 0] rfl
                exact ih (t + 1) ls _ _ (by omega) hl hz hM hS
        exact loop2 4 0 ls _ _ rfl hl hz hM hS
      · refine lv_iconst (v := 1) hx hb dM_noted_24 (by decide) ?_
        refine lv_goto (tgt := 29) hx hb dM_noted_25 rfl ?_
        refine lv_istore hx hb dM_noted_29 hl (by decide) rfl (fun ls hl => ?_)
        have hl : lv_has ls 6 [(4, .int 1), (0, .ref m), (1, .long den), (3, .int (nI i))] := hl
        have hl : lv_has ls 6 [(4, .int (bm_me g10 g17 den i 0)), (0, .ref m), (1, .long den), (3, .int (nI i))] := by rw [show bm_me g10 g17 den i 0 = _ from bm_me_a ((lg_cmp_eq _ _).mp h21)]; exact hl
        refine lv_iconst (v := 0) hx hb dM_noted_31 (by decide) ?_
        refine lv_istore hx hb dM_noted_32 hl (by decide) rfl (fun ls hl => ?_)
        have hl : lv_has ls 6 [(5, .int 0), (4, .int (bm_me g10 g17 den i 0)), (0, .ref m), (1, .long den), (3, .int (nI i))] := hl
        have hl : lv_has ls 6 [(0, .ref m), (1, .long den), (3, .int (nI i)), (4, .int (bm_me g10 g17 den i 0)), (5, .int 0)] := lv_sub hl [2, 3, 4, 1, 0] rfl
        have loop2 : ∀ (n : Nat) (t : Nat) (ls : Array Slot) (H : Heap) (locs : List Loc), t + n = 4 → lv_has ls 6 [(0, .ref m), (1, .long den), (3, .int (nI i)), (4, .int (bm_me g10 g17 den i t)), (5, .int (nI t))] → H.size = sz → bm_M D base M H → va_S (bm_A base) s.heap H locs → W vp l ve R s vm args below meth vc H locs 0 0 Q (F0 vm 34 ls []) := by
          intro n
          induction n with
          | zero =>
            intro t ls H locs ht hl hz hM hS
            obtain rfl : t = 4 := by omega
            have hl : lv_has ls 6 [(0, .ref m), (1, .long den), (3, .int (nI i)), (4, .int (bm_me g10 g17 den i 4)), (5, .int 4)] := hl
            refine lv_iload hx hb dM_noted_34 (lv_at hl 4 rfl) ?_
            refine lv_iconst (v := 4) hx hb dM_noted_36 (by decide) ?_
            refine lv_icmp_ge (tgt := 83) hx hb dM_noted_37 rfl (fun _ => ?_) (fun h => absurd h (by decide))
            refine lv_iload hx hb dM_noted_83 (lv_at hl 3 rfl) ?_
            refine lv_if_eq (tgt := 90) hx hb dM_noted_85 rfl (fun h85 => ?_) (fun h85 => absurd (hnone i (by omega)) h85)
            refine lv_iinc (v := nI (i + 1)) (k := 2) hx hb dM_noted_90 hl rfl (bm_inc i) (by decide) rfl (fun ls hl => ?_)
            have hl : lv_has ls 6 [(3, .int (nI (i + 1))), (0, .ref m), (1, .long den), (4, .int (bm_me g10 g17 den i 4)), (5, .int 4)] := hl
            refine lv_goto (tgt := 2) hx hb dM_noted_93 rfl ?_
            have hl : lv_has ls 6 [(0, .ref m), (1, .long den), (3, .int (nI (i + 1)))] := lv_sub hl [1, 2, 0] rfl
            exact ih (i + 1) ls _ _ (by omega) hl hz hM hS
          | succ n ih =>
            intro t ls H locs ht hl hz hM hS
            refine lv_iload hx hb dM_noted_34 (lv_at hl 4 rfl) ?_
            refine lv_iconst (v := 4) hx hb dM_noted_36 (by decide) ?_
            refine lv_icmp_ge (tgt := 83) hx hb dM_noted_37 rfl (fun h37 => absurd h37 (nI_ge (b := 4) (by omega) (by decide))) (fun h37 => ?_)
            refine lv_iload hx hb dM_noted_40 (lv_at hl 3 rfl) ?_
            refine lv_if_eq (tgt := 74) hx hb dM_noted_42 rfl (fun h42 => ?_) (fun h42 => ?_)
            · refine lv_iconst (v := 0) hx hb dM_noted_74 (by decide) ?_
              refine lv_istore hx hb dM_noted_75 hl (by decide) rfl (fun ls hl => ?_)
              have hl : lv_has ls 6 [(4, .int 0), (0, .ref m), (1, .long den), (3, .int (nI i)), (5, .int (nI t))] := hl
              have hl : lv_has ls 6 [(4, .int (bm_me g10 g17 den i (t + 1))), (0, .ref m), (1, .long den), (3, .int (nI i)), (5, .int (nI t))] := by rw [show bm_me g10 g17 den i (t + 1) = _ from bm_me_0 h42]; exact hl
              refine lv_iinc (v := nI (t + 1)) (k := 4) hx hb dM_noted_77 hl rfl (bm_inc t) (by decide) rfl (fun ls hl => ?_)
              have hl : lv_has ls 6 [(5, .int (nI (t + 1))), (4, .int (bm_me g10 g17 den i (t + 1))), (0, .ref m), (1, .long den), (3, .int (nI i))] := hl
              refine lv_goto (tgt := 34) hx hb dM_noted_80 rfl ?_
              have hl : lv_has ls 6 [(0, .ref m), (1, .long den), (3, .int (nI i)), (4, .int (bm_me g10 g17 den i (t + 1))), (5, .int (nI (t + 1)))] := lv_sub hl [2, 3, 4, 1, 0] rfl
              exact ih (t + 1) ls _ _ (by omega) hl hz hM hS
            · refine lv_aload_n hx hb dM_noted_45 rfl (lv_at hl 0 rfl) ?_
              refine bm_get (ci := 7) (v := .ref (m + 10)) (C := "BlindMintModel") (T := bt_M) (N := 22) hx hb hts bu_M hown hK hM hP.c0 rfl 14 (by decide) (hts _ bw_616) (fun _ h9 => h9) rfl dM_noted_46 ?_
              refine lv_bipush (v := 10) hx hb dM_noted_49 (by decide) ?_
              refine lv_iload_n hx hb dM_noted_51 rfl (lv_at hl 2 rfl) ?_
              refine lv_imul hx hb dM_noted_52 ?_
              refine lv_iconst (v := 1) hx hb dM_noted_53 (by decide) ?_
              refine lv_iadd hx hb dM_noted_54 ?_
              refine lv_iload hx hb dM_noted_55 (lv_at hl 4 rfl) ?_
              refine lv_iadd hx hb dM_noted_57 ?_
              refine lv_topi (fun t8 e_t8 => ?_)
              have e_t8 : t8 = nI (10 * i + (1 + t)) := by rw [e_t8]; show nI 10 * nI i + nI 1 + nI t = _; rw [pk_mul, nI_add, nI_add, Nat.add_assoc]
              subst e_t8
              refine bm_lald hx hb hK hM 1 hP.c10 rfl (10 * i + (1 + t)) (bm_ix_nI (by omega)) (by omega) dM_noted_58 ?_
              refine lv_aload_n hx hb dM_noted_59 rfl (lv_at hl 0 rfl) ?_
              refine bm_get (ci := 7) (v := .ref (m + 17)) (C := "BlindMintModel") (T := bt_M) (N := 22) hx hb hts bu_M hown hK hM hP.c0 rfl 21 (by decide) (hts _ bw_623) (fun _ h9 => h9) rfl dM_noted_60 ?_
              refine lv_iload hx hb dM_noted_63 (lv_at hl 4 rfl) ?_
              refine bm_lald hx hb hK hM 1 hP.c17 rfl t (bm_ix_nI (by omega)) (by omega) dM_noted_65 ?_
              refine W.lcmp hx hb dM_noted_66 ?_
              refine lv_if_ne (tgt := 74) hx hb dM_noted_67 rfl (fun h67 => ?_) (fun h67 => ?_)
              · refine lv_iconst (v := 0) hx hb dM_noted_74 (by decide) ?_
                refine lv_istore hx hb dM_noted_75 hl (by decide) rfl (fun ls hl => ?_)
                have hl : lv_has ls 6 [(4, .int 0), (0, .ref m), (1, .long den), (3, .int (nI i)), (5, .int (nI t))] := hl
                have hl : lv_has ls 6 [(4, .int (bm_me g10 g17 den i (t + 1))), (0, .ref m), (1, .long den), (3, .int (nI i)), (5, .int (nI t))] := by rw [show bm_me g10 g17 den i (t + 1) = _ from bm_me_n (fun q => h67 ((lg_cmp_eq _ _).mpr q))]; exact hl
                refine lv_iinc (v := nI (t + 1)) (k := 4) hx hb dM_noted_77 hl rfl (bm_inc t) (by decide) rfl (fun ls hl => ?_)
                have hl : lv_has ls 6 [(5, .int (nI (t + 1))), (4, .int (bm_me g10 g17 den i (t + 1))), (0, .ref m), (1, .long den), (3, .int (nI i))] := hl
                refine lv_goto (tgt := 34) hx hb dM_noted_80 rfl ?_
                have hl : lv_has ls 6 [(0, .ref m), (1, .long den), (3, .int (nI i)), (4, .int (bm_me g10 g17 den i (t + 1))), (5, .int (nI (t + 1)))] := lv_sub hl [2, 3, 4, 1, 0] rfl
                exact ih (t + 1) ls _ _ (by omega) hl hz hM hS
              · refine lv_iconst (v := 1) hx hb dM_noted_70 (by decide) ?_
                refine lv_goto (tgt := 75) hx hb dM_noted_71 rfl ?_
                refine lv_istore hx hb dM_noted_75 hl (by decide) rfl (fun ls hl => ?_)
                have hl : lv_has ls 6 [(4, .int 1), (0, .ref m), (1, .long den), (3, .int (nI i)), (5, .int (nI t))] := hl
                have hl : lv_has ls 6 [(4, .int (bm_me g10 g17 den i (t + 1))), (0, .ref m), (1, .long den), (3, .int (nI i)), (5, .int (nI t))] := by rw [show bm_me g10 g17 den i (t + 1) = _ from bm_me_y h42 ((lg_cmp_eq _ _).mp h67)]; exact hl
                refine lv_iinc (v := nI (t + 1)) (k := 4) hx hb dM_noted_77 hl rfl (bm_inc t) (by decide) rfl (fun ls hl => ?_)
                have hl : lv_has ls 6 [(5, .int (nI (t + 1))), (4, .int (bm_me g10 g17 den i (t + 1))), (0, .ref m), (1, .long den), (3, .int (nI i))] := hl
                refine lv_goto (tgt := 34) hx hb dM_noted_80 rfl ?_
                have hl : lv_has ls 6 [(0, .ref m), (1, .long den), (3, .int (nI i)), (4, .int (bm_me g10 g17 den i (t + 1))), (5, .int (nI (t + 1)))] := lv_sub hl [2, 3, 4, 1, 0] rfl
                exact ih (t + 1) ls _ _ (by omega) hl hz hM hS
        exact loop2 4 0 ls _ _ rfl hl hz hM hS
  exact loop kk 0 ls _ _ (by omega) hl hz hM hS
set_option maxHeartbeats 4000000 in
set_option maxRecDepth 100000 in
theorem bc_M_trace (l : Launch) (D : va_G) (ct : Nat → ClassId) (base : Nat) (ad : Nat → Nat) (M : bm_Map) (sz : Nat) (m : Nat) (th : Int32) (tr : Int32) (bl : Int64) (np : Int32) (nd : Int32) (f1 : Nat → Int32) (f2 : Nat → Int32) (f3 : Nat → Int32) (f4 : Nat → Int32) (g5 : Nat → Int64) (g6 : Nat → Int64) (f7 : Nat → Int32) (g8 : Nat → Int64) (g9 : Nat → Int64) (g10 : Nat → Int64) (g11 : Nat → Int64) (g12 : Nat → Int64) (g13 : Nat → Int64) (g14 : Nat → Int64) (g15 : Nat → Int64) (f16 : Nat → Int32) (g17 : Nat → Int64) (p k : Nat) (hP : bm_MD ct m th tr bl np nd f1 f2 f3 f4 g5 g6 f7 g8 g9 g10 g11 g12 g13 g14 g15 f16 g17 M) (hp20 : p < 20) (hk : k < 520) : Met l yM_trace (bm_ws yM_trace cM_trace 8 none) { frames := 3, cells := 0, slots := 0, locals := 71 } (bm_Pre D ct base ad M sz [.ref m, .int (nI p), .int (nI k)]) (bm_Post D base (bm_Pm m M sz (fun v M1 => v = none ∧ bm_MD ct m th (bm_tv g9 g10 p k (bm_df g9 g10 p k) 4) bl np nd f1 f2 f3 f4 g5 g6 f7 g8 g9 g10 g11 g12 g13 g14 g15 f16 g17 M1))) 0 0 (bm_A base) := by
  refine bm_ofB (cc := cM_trace) (maxL := 8) (ret := none) (by decide +kernel) (Nat.le_of_ble_eq_true rfl) ?_
  intro vp ve s vm args below meth vc hx hb hr hlk hts hown hml hnm ls hl hz hM hG R Q hR hQ
  have hown : s.vm.findClass "BlindMintModel" = some vm.cls := hown
  have hK := hG.K
  have hS : va_S (bm_A base) s.heap s.heap [] := va_S.rf
  have hl : lv_has ls 8 [(0, .ref m), (1, .int (nI p)), (2, .int (nI k))] := hl
  have hF : bm_fr m M M := bm_fr.rf
  refine lv_aload_n hx hb dM_trace_0 rfl (lv_at hl 0 rfl) ?_
  refine lv_iload_n hx hb dM_trace_1 rfl (lv_at hl 1 rfl) ?_
  refine bm_call (va_runV (As := [.int (nI p)]) (rest := []) ⟨hx, hb, hml, hown, hts⟩ (bc_M_choiceOf l D ct base ad M sz m th tr bl np nd f1 f2 f3 f4 g5 g6 f7 g8 g9 g10 g11 g12 g13 g14 g15 f16 g17 p hP hp20) (cwV 1 hts (bm_goodV bw_784 bw_786 bs_18 bw_5 bw_787) rfl rfl rfl (by decide +kernel) (by rw [← hR]; exact ⟨Nat.le_of_ble_eq_true rfl, Nat.le_of_ble_eq_true rfl⟩)) (bm_preV hM hG hS hz hP.c0 rfl) rfl rfl hl.1 rfl (lv_room (Nat.le_of_ble_eq_true rfl)) dM_trace_2 (by rw [← hR]; exact ⟨Nat.le_of_ble_eq_true rfl, Nat.le_of_ble_eq_true rfl⟩)) hS (fun v9 M1 H locs hq hM hS _ => ?_)
  obtain ⟨hz, ⟨rfl, hP⟩, hF9⟩ := hq
  have hF := hF.tr hF9
  refine lv_aload_n hx hb dM_trace_5 rfl (lv_at hl 0 rfl) ?_
  refine bm_get (ci := 7) (v := .ref (m + 10)) (C := "BlindMintModel") (T := bt_M) (N := 22) hx hb hts bu_M hown hK hM hP.c0 rfl 14 (by decide) (hts _ bw_616) (fun _ h9 => h9) rfl dM_trace_6 ?_
  refine lv_bipush (v := 10) hx hb dM_trace_9 (by decide) ?_
  refine lv_iload_n hx hb dM_trace_11 rfl (lv_at hl 2 rfl) ?_
  refine lv_imul hx hb dM_trace_12 ?_
  refine lv_iconst (v := 5) hx hb dM_trace_13 (by decide) ?_
  refine lv_iadd hx hb dM_trace_14 ?_
  refine lv_topi (fun t2 e_t2 => ?_)
  have e_t2 : t2 = nI (10 * k + 5) := by rw [e_t2]; show nI 10 * nI k + nI 5 = _; rw [pk_mul, nI_add]
  subst e_t2
  refine bm_lald hx hb hK hM 1 hP.c10 rfl (10 * k + 5) (bm_ix_nI (by omega)) (by omega) dM_trace_15 ?_
  refine lv_lxor hx hb dM_trace_16 ?_
  refine lv_ldc2 hx hb hown (hts _ bw_803) dM_trace_17 ?_
  refine lv_land hx hb dM_trace_20 ?_
  refine lv_topl (fun t3 e_t3 => ?_)
  have e_t3 : t3 = bm_df g9 g10 p k := by rw [e_t3]; rfl
  subst e_t3
  refine lv_lstore_n hx hb dM_trace_21 rfl hl (by decide) rfl (fun ls hl => ?_)
  have hl : lv_has ls 8 [(3, .long (bm_df g9 g10 p k)), (0, .ref m), (1, .int (nI p)), (2, .int (nI k))] := hl
  refine lv_aload_n hx hb dM_trace_22 rfl (lv_at hl 1 rfl) ?_
  refine lv_iconst (v := (-1)) hx hb dM_trace_23 (by decide) ?_
  refine bm_put (ci := 7) (v := .int (-1)) (ty := .int) (C := "BlindMintModel") (T := bt_M) (N := 22) hx hb hts bu_M by_M bo_M bn_M hown hK hM hS hP.c0 rfl 3 (by decide) (hts _ bw_605) (fun _ h9 => h9) rfl (by decide +kernel) rfl rfl (Nat.le_of_ble_eq_true rfl) dM_trace_24 (fun H locs hz1 hM hS => ?_)
  have hz := hz1.trans hz
  obtain ⟨M4, hM, hP, hF⟩ : ∃ X, bm_M D base X H ∧ bm_MD ct m th (-1) bl np nd f1 f2 f3 f4 g5 g6 f7 g8 g9 g10 g11 g12 g13 g14 g15 f16 g17 X ∧ bm_fr m M X := ⟨_, hM, hP.s_tr _, hF.up0⟩
  refine lv_iconst (v := 3) hx hb dM_trace_27 (by decide) ?_
  refine lv_istore hx hb dM_trace_28 hl (by decide) rfl (fun ls hl => ?_)
  have hl : lv_has ls 8 [(5, .int 3), (3, .long (bm_df g9 g10 p k)), (0, .ref m), (1, .int (nI p)), (2, .int (nI k))] := hl
  have hl : lv_has ls 8 [(0, .ref m), (1, .int (nI p)), (2, .int (nI k)), (3, .long (bm_df g9 g10 p k)), (5, .int 3)] := lv_sub hl [2, 3, 4, 1, 0] rfl
  have loop : ∀ (n : Nat) (i : Nat) (ls : Array Slot) (H : Heap) (locs : List Loc) (M5 : bm_Map), i + n = 4 → lv_has ls 8 [(0, .ref m), (1, .int (nI p)), (2, .int (nI k)), (3, .long (bm_df g9 g10 p k)), (5, .int (3 - nI i))] → H.size = sz → bm_M D base M5 H → va_S (bm_A base) s.heap H locs → bm_MD ct m th (bm_tv g9 g10 p k (bm_df g9 g10 p k) i) bl np nd f1 f2 f3 f4 g5 g6 f7 g8 g9 g10 g11 g12 g13 g14 g15 f16 g17 M5 → bm_fr m M M5 → W vp l ve R s vm args below meth vc H locs 0 0 Q (F0 vm 30 ls []) := by
    clear hP hF hM hz hS hl
    intro n
    induction n with
    | zero =>
      intro i ls H locs M5 hi hl hz hM hS hP hF
      obtain rfl : i = 4 := by omega
      have hl : lv_has ls 8 [(0, .ref m), (1, .int (nI p)), (2, .int (nI k)), (3, .long (bm_df g9 g10 p k)), (5, .int (-1))] := by rw [← (show (3 : Int32) - nI 4 = (-1) by decide)]; exact hl
      refine lv_iload hx hb dM_trace_30 (lv_at hl 4 rfl) ?_
      refine lv_if_lt (tgt := 119) hx hb dM_trace_32 rfl (fun _ => ?_) (fun h => absurd h (by decide))
      exact bm_vret hQ hx hb hr hlk hM hS ⟨hz, ⟨rfl, hP⟩, hF⟩ (Nat.le_refl _) (Nat.le_refl _) dM_trace_119
    | succ n ih =>
      intro i ls H locs M5 hi hl hz hM hS hP hF
      have hl : lv_has ls 8 [(0, .ref m), (1, .int (nI p)), (2, .int (nI k)), (3, .long (bm_df g9 g10 p k)), (5, .int (nI (3 - i)))] := by rw [← bm_dj (by omega)]; exact hl
      refine lv_iload hx hb dM_trace_30 (lv_at hl 4 rfl) ?_
      refine lv_if_lt (tgt := 119) hx hb dM_trace_32 rfl (fun h32 => absurd h32 (nI_pos (by omega))) (fun h32 => ?_)
      refine lv_lload_n hx hb dM_trace_35 rfl (lv_at hl 3 rfl) ?_
      refine lv_iload hx hb dM_trace_36 (lv_at hl 4 rfl) ?_
      refine lv_lshr hx hb dM_trace_38 rfl ?_
      refine lv_lconst (v := 1) hx hb dM_trace_39 (by decide) ?_
      refine lv_land hx hb dM_trace_40 ?_
      refine lv_lconst (v := 1) hx hb dM_trace_41 (by decide) ?_
      refine W.lcmp hx hb dM_trace_42 ?_
      refine lv_if_ne (tgt := 113) hx hb dM_trace_43 rfl (fun h43 => ?_) (fun h43 => ?_)
      · have ho : ¬ bm_one (bm_df g9 g10 p k) (nI (3 - i)) = 1 := bm_one01 (bm_one0 (fun q => h43 ((lg_cmp_eq _ _).mpr q)))
        refine lv_iinc (v := 3 - nI (i + 1)) (k := 4) hx hb dM_trace_113 hl rfl (bm_dk (by omega)) (by decide) rfl (fun ls hl => ?_)
        have hl : lv_has ls 8 [(5, .int (3 - nI (i + 1))), (0, .ref m), (1, .int (nI p)), (2, .int (nI k)), (3, .long (bm_df g9 g10 p k))] := hl
        refine lv_goto (tgt := 30) hx hb dM_trace_116 rfl ?_
        have hl : lv_has ls 8 [(0, .ref m), (1, .int (nI p)), (2, .int (nI k)), (3, .long (bm_df g9 g10 p k)), (5, .int (3 - nI (i + 1)))] := lv_sub hl [1, 2, 3, 4, 0] rfl
        exact ih (i + 1) ls _ _ _ (by omega) hl hz hM hS (by rw [show bm_tv g9 g10 p k (bm_df g9 g10 p k) (i + 1) = _ from bm_tv_n ho]; exact hP) hF
      · have ho : bm_one (bm_df g9 g10 p k) (nI (3 - i)) = 1 := bm_one1 ((lg_cmp_eq _ _).mp h43)
        refine lv_aload_n hx hb dM_trace_46 rfl (lv_at hl 0 rfl) ?_
        refine bm_get (ci := 7) (v := .ref (m + 9)) (C := "BlindMintModel") (T := bt_M) (N := 22) hx hb hts bu_M hown hK hM hP.c0 rfl 12 (by decide) (hts _ bw_614) (fun _ h9 => h9) rfl dM_trace_47 ?_
        refine lv_bipush (v := 16) hx hb dM_trace_50 (by decide) ?_
        refine lv_iload_n hx hb dM_trace_52 rfl (lv_at hl 1 rfl) ?_
        refine lv_imul hx hb dM_trace_53 ?_
        refine lv_iconst (v := 4) hx hb dM_trace_54 (by decide) ?_
        refine lv_iadd hx hb dM_trace_55 ?_
        refine lv_iconst (v := 3) hx hb dM_trace_56 (by decide) ?_
        refine lv_iload hx hb dM_trace_57 (lv_at hl 4 rfl) ?_
        refine lv_imul hx hb dM_trace_59 ?_
        refine lv_iadd hx hb dM_trace_60 ?_
        refine lv_topi (fun t6 e_t6 => ?_)
        have e_t6 : t6 = nI (16 * p + (4 + 3 * (3 - i))) := by rw [e_t6]; show nI 16 * nI p + nI 4 + nI 3 * nI (3 - i) = _; rw [pk_mul, pk_mul, nI_add, nI_add, Nat.add_assoc]
        subst e_t6
        refine bm_lald hx hb hK hM 1 hP.c9 rfl (16 * p + (4 + 3 * (3 - i))) (bm_ix_nI (by omega)) (by omega) dM_trace_61 ?_
        refine lv_aload_n hx hb dM_trace_62 rfl (lv_at hl 0 rfl) ?_
        refine bm_get (ci := 7) (v := .ref (m + 10)) (C := "BlindMintModel") (T := bt_M) (N := 22) hx hb hts bu_M hown hK hM hP.c0 rfl 14 (by decide) (hts _ bw_616) (fun _ h9 => h9) rfl dM_trace_63 ?_
        refine lv_bipush (v := 10) hx hb dM_trace_66 (by decide) ?_
        refine lv_iload_n hx hb dM_trace_68 rfl (lv_at hl 2 rfl) ?_
        refine lv_imul hx hb dM_trace_69 ?_
        refine lv_bipush (v := 6) hx hb dM_trace_70 (by decide) ?_
        refine lv_iadd hx hb dM_trace_72 ?_
        refine lv_iload hx hb dM_trace_73 (lv_at hl 4 rfl) ?_
        refine lv_iadd hx hb dM_trace_75 ?_
        refine lv_topi (fun t7 e_t7 => ?_)
        have e_t7 : t7 = nI (10 * k + (6 + (3 - i))) := by rw [e_t7]; show nI 10 * nI k + nI 6 + nI (3 - i) = _; rw [pk_mul, nI_add, nI_add, Nat.add_assoc]
        subst e_t7
        refine bm_lald hx hb hK hM 1 hP.c10 rfl (10 * k + (6 + (3 - i))) (bm_ix_nI (by omega)) (by omega) dM_trace_76 ?_
        refine lv_lxor hx hb dM_trace_77 ?_
        refine lv_lstore hx hb dM_trace_78 hl (by decide) rfl (fun ls hl => ?_)
        have hl : lv_has ls 8 [(6, .long ((g9 (16 * p + (4 + 3 * (3 - i)))) ^^^ (g10 (10 * k + (6 + (3 - i)))))), (0, .ref m), (1, .int (nI p)), (2, .int (nI k)), (3, .long (bm_df g9 g10 p k)), (5, .int (nI (3 - i)))] := hl
        refine lv_aload_n hx hb dM_trace_80 rfl (lv_at hl 1 rfl) ?_
        refine lv_lload hx hb dM_trace_81 (lv_at hl 0 rfl) ?_
        refine lv_ldc2 hx hb hown (hts _ bw_708) dM_trace_83 ?_
        refine W.lcmp hx hb dM_trace_86 ?_
        refine lv_if_lt (tgt := 109) hx hb dM_trace_87 rfl (fun h87 => ?_) (fun h87 => ?_)
        · refine lv_iconst (v := (-1)) hx hb dM_trace_109 (by decide) ?_
          refine bm_put (ci := 7) (v := .int (-1)) (ty := .int) (C := "BlindMintModel") (T := bt_M) (N := 22) hx hb hts bu_M by_M bo_M bn_M hown hK hM hS hP.c0 rfl 3 (by decide) (hts _ bw_605) (fun _ h9 => h9) rfl (by decide +kernel) rfl rfl (Nat.le_of_ble_eq_true rfl) dM_trace_110 (fun H locs hz1 hM hS => ?_)
          have hz := hz1.trans hz
          obtain ⟨M8, hM, hP, hF⟩ : ∃ X, bm_M D base X H ∧ bm_MD ct m th (-1) bl np nd f1 f2 f3 f4 g5 g6 f7 g8 g9 g10 g11 g12 g13 g14 g15 f16 g17 X ∧ bm_fr m M X := ⟨_, hM, hP.s_tr _, hF.up0⟩
          refine lv_iinc (v := 3 - nI (i + 1)) (k := 5) hx hb dM_trace_113 hl rfl (bm_dk (by omega)) (by decide) rfl (fun ls hl => ?_)
          have hl : lv_has ls 8 [(5, .int (3 - nI (i + 1))), (6, .long ((g9 (16 * p + (4 + 3 * (3 - i)))) ^^^ (g10 (10 * k + (6 + (3 - i)))))), (0, .ref m), (1, .int (nI p)), (2, .int (nI k)), (3, .long (bm_df g9 g10 p k))] := hl
          refine lv_goto (tgt := 30) hx hb dM_trace_116 rfl ?_
          have hl : lv_has ls 8 [(0, .ref m), (1, .int (nI p)), (2, .int (nI k)), (3, .long (bm_df g9 g10 p k)), (5, .int (3 - nI (i + 1)))] := lv_sub hl [2, 3, 4, 5, 0] rfl
          exact ih (i + 1) ls _ _ _ (by omega) hl hz hM hS (by rw [show bm_tv g9 g10 p k (bm_df g9 g10 p k) (i + 1) = _ from bm_tv_1 ho ((lg_cmp_lt _ _).mp h87)]; exact hP) hF
        · refine lv_lload hx hb dM_trace_90 (lv_at hl 0 rfl) ?_
          refine lv_ldc2 hx hb hown (hts _ bw_804) dM_trace_92 ?_
          refine W.lcmp hx hb dM_trace_95 ?_
          refine lv_if_gt (tgt := 109) hx hb dM_trace_96 rfl (fun h96 => ?_) (fun h96 => ?_)
          · refine lv_iconst (v := (-1)) hx hb dM_trace_109 (by decide) ?_
            refine bm_put (ci := 7) (v := .int (-1)) (ty := .int) (C := "BlindMintModel") (T := bt_M) (N := 22) hx hb hts bu_M by_M bo_M bn_M hown hK hM hS hP.c0 rfl 3 (by decide) (hts _ bw_605) (fun _ h9 => h9) rfl (by decide +kernel) rfl rfl (Nat.le_of_ble_eq_true rfl) dM_trace_110 (fun H locs hz1 hM hS => ?_)
            have hz := hz1.trans hz
            obtain ⟨M9, hM, hP, hF⟩ : ∃ X, bm_M D base X H ∧ bm_MD ct m th (-1) bl np nd f1 f2 f3 f4 g5 g6 f7 g8 g9 g10 g11 g12 g13 g14 g15 f16 g17 X ∧ bm_fr m M X := ⟨_, hM, hP.s_tr _, hF.up0⟩
            refine lv_iinc (v := 3 - nI (i + 1)) (k := 5) hx hb dM_trace_113 hl rfl (bm_dk (by omega)) (by decide) rfl (fun ls hl => ?_)
            have hl : lv_has ls 8 [(5, .int (3 - nI (i + 1))), (6, .long ((g9 (16 * p + (4 + 3 * (3 - i)))) ^^^ (g10 (10 * k + (6 + (3 - i)))))), (0, .ref m), (1, .int (nI p)), (2, .int (nI k)), (3, .long (bm_df g9 g10 p k))] := hl
            refine lv_goto (tgt := 30) hx hb dM_trace_116 rfl ?_
            have hl : lv_has ls 8 [(0, .ref m), (1, .int (nI p)), (2, .int (nI k)), (3, .long (bm_df g9 g10 p k)), (5, .int (3 - nI (i + 1)))] := lv_sub hl [2, 3, 4, 5, 0] rfl
            exact ih (i + 1) ls _ _ _ (by omega) hl hz hM hS (by rw [show bm_tv g9 g10 p k (bm_df g9 g10 p k) (i + 1) = _ from bm_tv_2 ho ((lg_cmp_gt _ _).mp h96)]; exact hP) hF
          · refine lv_lload hx hb dM_trace_99 (lv_at hl 0 rfl) ?_
            refine lv_l2i hx hb dM_trace_101 rfl ?_
            refine lv_sipush (v := 1000) hx hb dM_trace_102 (by decide) ?_
            refine lv_isub hx hb dM_trace_105 ?_
            refine lv_goto (tgt := 110) hx hb dM_trace_106 rfl ?_
            refine bm_put (ci := 7) (v := .int ((((g9 (16 * p + (4 + 3 * (3 - i)))) ^^^ (g10 (10 * k + (6 + (3 - i))))).toInt32) - 1000)) (ty := .int) (C := "BlindMintModel") (T := bt_M) (N := 22) hx hb hts bu_M by_M bo_M bn_M hown hK hM hS hP.c0 rfl 3 (by decide) (hts _ bw_605) (fun _ h9 => h9) rfl (by decide +kernel) rfl rfl (Nat.le_of_ble_eq_true rfl) dM_trace_110 (fun H locs hz1 hM hS => ?_)
            have hz := hz1.trans hz
            obtain ⟨M10, hM, hP, hF⟩ : ∃ X, bm_M D base X H ∧ bm_MD ct m th ((((g9 (16 * p + (4 + 3 * (3 - i)))) ^^^ (g10 (10 * k + (6 + (3 - i))))).toInt32) - 1000) bl np nd f1 f2 f3 f4 g5 g6 f7 g8 g9 g10 g11 g12 g13 g14 g15 f16 g17 X ∧ bm_fr m M X := ⟨_, hM, hP.s_tr _, hF.up0⟩
            refine lv_iinc (v := 3 - nI (i + 1)) (k := 5) hx hb dM_trace_113 hl rfl (bm_dk (by omega)) (by decide) rfl (fun ls hl => ?_)
            have hl : lv_has ls 8 [(5, .int (3 - nI (i + 1))), (6, .long ((g9 (16 * p + (4 + 3 * (3 - i)))) ^^^ (g10 (10 * k + (6 + (3 - i)))))), (0, .ref m), (1, .int (nI p)), (2, .int (nI k)), (3, .long (bm_df g9 g10 p k))] := hl
            refine lv_goto (tgt := 30) hx hb dM_trace_116 rfl ?_
            have hl : lv_has ls 8 [(0, .ref m), (1, .int (nI p)), (2, .int (nI k)), (3, .long (bm_df g9 g10 p k)), (5, .int (3 - nI (i + 1)))] := lv_sub hl [2, 3, 4, 5, 0] rfl
            exact ih (i + 1) ls _ _ _ (by omega) hl hz hM hS (by rw [show bm_tv g9 g10 p k (bm_df g9 g10 p k) (i + 1) = _ from bm_tv_3 ho (fun q => h87 ((lg_cmp_lt _ _).mpr q)) (fun q => h96 ((lg_cmp_gt _ _).mpr q))]; exact hP) hF
  exact loop 4 0 ls _ _ _ rfl hl hz hM hS hP hF
