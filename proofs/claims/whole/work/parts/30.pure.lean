set_option maxHeartbeats 4000000 in
set_option maxRecDepth 100000 in
theorem bc_M_absorb (l : Launch) (D : va_G) (ct : Nat → ClassId) (base : Nat) (ad : Nat → Nat) (M : bm_Map) (sz : Nat) (h v : Int64) : Met l yM_absorb (bm_ws yM_absorb cM_absorb 6 (some .long)) { frames := 0, cells := 0, slots := 0, locals := 0 } (bm_Pre D ct base ad M sz [.long h, .long v]) (bm_Post D base (bm_Is (some (.long (bm_step h v))) M sz)) 0 0 (bm_A base) := by
  refine bm_ofB (cc := cM_absorb) (maxL := 6) (ret := (some .long)) (by decide +kernel) (Nat.le_of_ble_eq_true rfl) ?_
  intro vp ve s vm args below meth vc hx hb hr hlk hts hown hml hnm ls hl hz hM hG R Q hR hQ
  have hown : s.vm.findClass "BlindMintModel" = some vm.cls := hown
  have hK := hG.K
  have hS : va_S (bm_A base) s.heap s.heap [] := va_S.rf
  have hl : lv_has ls 6 [(0, .long h), (2, .long v)] := hl
  refine lv_lload_n hx hb dM_absorb_0 rfl (lv_at hl 0 rfl) ?_
  refine lv_lload_n hx hb dM_absorb_1 rfl (lv_at hl 1 rfl) ?_
  refine lv_lxor hx hb dM_absorb_2 ?_
  refine lv_ldc2 hx hb hown (hts _ bw_701) dM_absorb_3 ?_
  refine lv_lmul hx hb dM_absorb_6 ?_
  refine lv_ldc2 hx hb hown (hts _ bw_702) dM_absorb_7 ?_
  refine lv_ladd hx hb dM_absorb_10 ?_
  refine lv_lstore hx hb dM_absorb_11 hl (by decide) rfl (fun ls hl => ?_)
  have hl : lv_has ls 6 [(4, .long (((h ^^^ v) * 6364136223846793005) + 1442695040888963407)), (0, .long h), (2, .long v)] := hl
  refine lv_lload hx hb dM_absorb_13 (lv_at hl 0 rfl) ?_
  refine lv_lload hx hb dM_absorb_15 (lv_at hl 0 rfl) ?_
  refine lv_bipush (v := 29) hx hb dM_absorb_17 (by decide) ?_
  refine lv_lushr hx hb dM_absorb_19 rfl ?_
  refine lv_lxor hx hb dM_absorb_20 ?_
  exact bm_lret hQ hx hb hr hlk hM hS ⟨rfl, rfl, hz⟩ (Nat.le_refl _) (Nat.le_refl _) dM_absorb_21
set_option maxHeartbeats 4000000 in
set_option maxRecDepth 100000 in
theorem bc_M_low (l : Launch) (D : va_G) (ct : Nat → ClassId) (base : Nat) (ad : Nat → Nat) (M : bm_Map) (sz : Nat) (h : Int64) : Met l yM_low (bm_ws yM_low cM_low 2 (some .long)) { frames := 0, cells := 0, slots := 0, locals := 0 } (bm_Pre D ct base ad M sz [.long h]) (bm_Post D base (bm_Is (some (.long (bm_end h))) M sz)) 0 0 (bm_A base) := by
  refine bm_ofB (cc := cM_low) (maxL := 2) (ret := (some .long)) (by decide +kernel) (Nat.le_of_ble_eq_true rfl) ?_
  intro vp ve s vm args below meth vc hx hb hr hlk hts hown hml hnm ls hl hz hM hG R Q hR hQ
  have hown : s.vm.findClass "BlindMintModel" = some vm.cls := hown
  have hK := hG.K
  have hS : va_S (bm_A base) s.heap s.heap [] := va_S.rf
  have hl : lv_has ls 2 [(0, .long h)] := hl
  refine lv_lload_n hx hb dM_low_0 rfl (lv_at hl 0 rfl) ?_
  refine lv_ldc2 hx hb hown (hts _ bw_706) dM_low_1 ?_
  refine lv_land hx hb dM_low_4 ?_
  exact bm_lret hQ hx hb hr hlk hM hS ⟨rfl, rfl, hz⟩ (Nat.le_refl _) (Nat.le_refl _) dM_low_5
set_option maxHeartbeats 4000000 in
set_option maxRecDepth 100000 in
theorem bc_M_hash2 (l : Launch) (D : va_G) (ct : Nat → ClassId) (base : Nat) (ad : Nat → Nat) (M : bm_Map) (sz : Nat) (v w : Int64) : Met l yM_hash2 (bm_ws yM_hash2 cM_hash2 4 (some .long)) { frames := 1, cells := 0, slots := 0, locals := 25 } (bm_Pre D ct base ad M sz [.long v, .long w]) (bm_Post D base (bm_Is (some (.long (bm_h2 v w))) M sz)) 0 0 (bm_A base) := by
  refine bm_ofB (cc := cM_hash2) (maxL := 4) (ret := (some .long)) (by decide +kernel) (Nat.le_of_ble_eq_true rfl) ?_
  intro vp ve s vm args below meth vc hx hb hr hlk hts hown hml hnm ls hl hz hM hG R Q hR hQ
  have hown : s.vm.findClass "BlindMintModel" = some vm.cls := hown
  have hK := hG.K
  have hS : va_S (bm_A base) s.heap s.heap [] := va_S.rf
  have hl : lv_has ls 4 [(0, .long v), (2, .long w)] := hl
  refine lv_ldc2 hx hb hown (hts _ bw_697) dM_hash2_0 ?_
  refine lv_lload_n hx hb dM_hash2_3 rfl (lv_at hl 0 rfl) ?_
  refine bm_callE (va_runS (As := [.long 7, .long v]) (rest := []) ⟨hx, hb, hml, hown, hts⟩ (bc_M_absorb l D ct base ad M sz 7 v) (va_cwS 2 hts (bm_goodS bw_698 bw_699 bw_5 bw_700) rfl rfl rfl (by decide +kernel) (by rw [← hR]; exact ⟨Nat.le_of_ble_eq_true rfl, Nat.le_of_ble_eq_true rfl⟩)) (bm_preS hM hG hS hz) rfl rfl hl.1 rfl (lv_room (Nat.le_of_ble_eq_true rfl)) dM_hash2_4 (by rw [← hR]; exact ⟨Nat.le_of_ble_eq_true rfl, Nat.le_of_ble_eq_true rfl⟩)) hS (fun H locs hz hM hS => ?_)
  refine lv_lload_n hx hb dM_hash2_7 rfl (lv_at hl 1 rfl) ?_
  refine bm_callE (va_runS (As := [.long (bm_step 7 v), .long w]) (rest := []) ⟨hx, hb, hml, hown, hts⟩ (bc_M_absorb l D ct base ad M sz (bm_step 7 v) w) (va_cwS 2 hts (bm_goodS bw_698 bw_699 bw_5 bw_700) rfl rfl rfl (by decide +kernel) (by rw [← hR]; exact ⟨Nat.le_of_ble_eq_true rfl, Nat.le_of_ble_eq_true rfl⟩)) (bm_preS hM hG hS hz) rfl rfl hl.1 rfl (lv_room (Nat.le_of_ble_eq_true rfl)) dM_hash2_8 (by rw [← hR]; exact ⟨Nat.le_of_ble_eq_true rfl, Nat.le_of_ble_eq_true rfl⟩)) hS (fun H locs hz hM hS => ?_)
  refine bm_callE (va_runS (As := [.long (bm_step (bm_step 7 v) w)]) (rest := []) ⟨hx, hb, hml, hown, hts⟩ (bc_M_low l D ct base ad M sz (bm_step (bm_step 7 v) w)) (va_cwS 1 hts (bm_goodS bw_703 bw_704 bw_5 bw_705) rfl rfl rfl (by decide +kernel) (by rw [← hR]; exact ⟨Nat.le_of_ble_eq_true rfl, Nat.le_of_ble_eq_true rfl⟩)) (bm_preS hM hG hS hz) rfl rfl hl.1 rfl (lv_room (Nat.le_of_ble_eq_true rfl)) dM_hash2_11 (by rw [← hR]; exact ⟨Nat.le_of_ble_eq_true rfl, Nat.le_of_ble_eq_true rfl⟩)) hS (fun H locs hz hM hS => ?_)
  exact bm_lret hQ hx hb hr hlk hM hS ⟨rfl, rfl, hz⟩ (Nat.le_refl _) (Nat.le_refl _) dM_hash2_14
set_option maxHeartbeats 4000000 in
set_option maxRecDepth 100000 in
theorem bc_M_hash3 (l : Launch) (D : va_G) (ct : Nat → ClassId) (base : Nat) (ad : Nat → Nat) (M : bm_Map) (sz : Nat) (u v w : Int64) : Met l yM_hash3 (bm_ws yM_hash3 cM_hash3 6 (some .long)) { frames := 1, cells := 0, slots := 0, locals := 25 } (bm_Pre D ct base ad M sz [.long u, .long v, .long w]) (bm_Post D base (bm_Is (some (.long (bm_h3 u v w))) M sz)) 0 0 (bm_A base) := by
  refine bm_ofB (cc := cM_hash3) (maxL := 6) (ret := (some .long)) (by decide +kernel) (Nat.le_of_ble_eq_true rfl) ?_
  intro vp ve s vm args below meth vc hx hb hr hlk hts hown hml hnm ls hl hz hM hG R Q hR hQ
  have hown : s.vm.findClass "BlindMintModel" = some vm.cls := hown
  have hK := hG.K
  have hS : va_S (bm_A base) s.heap s.heap [] := va_S.rf
  have hl : lv_has ls 6 [(0, .long u), (2, .long v), (4, .long w)] := hl
  refine lv_ldc2 hx hb hown (hts _ bw_697) dM_hash3_0 ?_
  refine lv_lload_n hx hb dM_hash3_3 rfl (lv_at hl 0 rfl) ?_
  refine bm_callE (va_runS (As := [.long 7, .long u]) (rest := []) ⟨hx, hb, hml, hown, hts⟩ (bc_M_absorb l D ct base ad M sz 7 u) (va_cwS 2 hts (bm_goodS bw_698 bw_699 bw_5 bw_700) rfl rfl rfl (by decide +kernel) (by rw [← hR]; exact ⟨Nat.le_of_ble_eq_true rfl, Nat.le_of_ble_eq_true rfl⟩)) (bm_preS hM hG hS hz) rfl rfl hl.1 rfl (lv_room (Nat.le_of_ble_eq_true rfl)) dM_hash3_4 (by rw [← hR]; exact ⟨Nat.le_of_ble_eq_true rfl, Nat.le_of_ble_eq_true rfl⟩)) hS (fun H locs hz hM hS => ?_)
  refine lv_lload_n hx hb dM_hash3_7 rfl (lv_at hl 1 rfl) ?_
  refine bm_callE (va_runS (As := [.long (bm_step 7 u), .long v]) (rest := []) ⟨hx, hb, hml, hown, hts⟩ (bc_M_absorb l D ct base ad M sz (bm_step 7 u) v) (va_cwS 2 hts (bm_goodS bw_698 bw_699 bw_5 bw_700) rfl rfl rfl (by decide +kernel) (by rw [← hR]; exact ⟨Nat.le_of_ble_eq_true rfl, Nat.le_of_ble_eq_true rfl⟩)) (bm_preS hM hG hS hz) rfl rfl hl.1 rfl (lv_room (Nat.le_of_ble_eq_true rfl)) dM_hash3_8 (by rw [← hR]; exact ⟨Nat.le_of_ble_eq_true rfl, Nat.le_of_ble_eq_true rfl⟩)) hS (fun H locs hz hM hS => ?_)
  refine lv_lload hx hb dM_hash3_11 (lv_at hl 2 rfl) ?_
  refine bm_callE (va_runS (As := [.long (bm_step (bm_step 7 u) v), .long w]) (rest := []) ⟨hx, hb, hml, hown, hts⟩ (bc_M_absorb l D ct base ad M sz (bm_step (bm_step 7 u) v) w) (va_cwS 2 hts (bm_goodS bw_698 bw_699 bw_5 bw_700) rfl rfl rfl (by decide +kernel) (by rw [← hR]; exact ⟨Nat.le_of_ble_eq_true rfl, Nat.le_of_ble_eq_true rfl⟩)) (bm_preS hM hG hS hz) rfl rfl hl.1 rfl (lv_room (Nat.le_of_ble_eq_true rfl)) dM_hash3_13 (by rw [← hR]; exact ⟨Nat.le_of_ble_eq_true rfl, Nat.le_of_ble_eq_true rfl⟩)) hS (fun H locs hz hM hS => ?_)
  refine bm_callE (va_runS (As := [.long (bm_step (bm_step (bm_step 7 u) v) w)]) (rest := []) ⟨hx, hb, hml, hown, hts⟩ (bc_M_low l D ct base ad M sz (bm_step (bm_step (bm_step 7 u) v) w)) (va_cwS 1 hts (bm_goodS bw_703 bw_704 bw_5 bw_705) rfl rfl rfl (by decide +kernel) (by rw [← hR]; exact ⟨Nat.le_of_ble_eq_true rfl, Nat.le_of_ble_eq_true rfl⟩)) (bm_preS hM hG hS hz) rfl rfl hl.1 rfl (lv_room (Nat.le_of_ble_eq_true rfl)) dM_hash3_16 (by rw [← hR]; exact ⟨Nat.le_of_ble_eq_true rfl, Nat.le_of_ble_eq_true rfl⟩)) hS (fun H locs hz hM hS => ?_)
  exact bm_lret hQ hx hb hr hlk hM hS ⟨rfl, rfl, hz⟩ (Nat.le_refl _) (Nat.le_refl _) dM_hash3_19
set_option maxHeartbeats 4000000 in
set_option maxRecDepth 100000 in
theorem bc_H_step (l : Launch) (D : va_G) (ct : Nat → ClassId) (base : Nat) (ad : Nat → Nat) (M : bm_Map) (sz : Nat) (h v : Int64) : Met l yH_step (bm_ws yH_step cH_step 6 (some .long)) { frames := 0, cells := 0, slots := 0, locals := 0 } (bm_Pre D ct base ad M sz [.long h, .long v]) (bm_Post D base (bm_Is (some (.long (bm_step h v))) M sz)) 0 0 (bm_A base) := by
  refine bm_ofB (cc := cH_step) (maxL := 6) (ret := (some .long)) (by decide +kernel) (Nat.le_of_ble_eq_true rfl) ?_
  intro vp ve s vm args below meth vc hx hb hr hlk hts hown hml hnm ls hl hz hM hG R Q hR hQ
  have hown : s.vm.findClass "BlindMint$Hash" = some vm.cls := hown
  have hK := hG.K
  have hS : va_S (bm_A base) s.heap s.heap [] := va_S.rf
  have hl : lv_has ls 6 [(0, .long h), (2, .long v)] := hl
  refine lv_lload_n hx hb dH_step_0 rfl (lv_at hl 0 rfl) ?_
  refine lv_lload_n hx hb dH_step_1 rfl (lv_at hl 1 rfl) ?_
  refine lv_lxor hx hb dH_step_2 ?_
  refine lv_ldc2 hx hb hown (hts _ bw_179) dH_step_3 ?_
  refine lv_lmul hx hb dH_step_6 ?_
  refine lv_ldc2 hx hb hown (hts _ bw_180) dH_step_7 ?_
  refine lv_ladd hx hb dH_step_10 ?_
  refine lv_lstore hx hb dH_step_11 hl (by decide) rfl (fun ls hl => ?_)
  have hl : lv_has ls 6 [(4, .long (((h ^^^ v) * 6364136223846793005) + 1442695040888963407)), (0, .long h), (2, .long v)] := hl
  refine lv_lload hx hb dH_step_13 (lv_at hl 0 rfl) ?_
  refine lv_lload hx hb dH_step_15 (lv_at hl 0 rfl) ?_
  refine lv_bipush (v := 29) hx hb dH_step_17 (by decide) ?_
  refine lv_lushr hx hb dH_step_19 rfl ?_
  refine lv_lxor hx hb dH_step_20 ?_
  exact bm_lret hQ hx hb hr hlk hM hS ⟨rfl, rfl, hz⟩ (Nat.le_refl _) (Nat.le_refl _) dH_step_21
set_option maxHeartbeats 4000000 in
set_option maxRecDepth 100000 in
theorem bc_H_end (l : Launch) (D : va_G) (ct : Nat → ClassId) (base : Nat) (ad : Nat → Nat) (M : bm_Map) (sz : Nat) (h : Int64) : Met l yH_end (bm_ws yH_end cH_end 2 (some .long)) { frames := 0, cells := 0, slots := 0, locals := 0 } (bm_Pre D ct base ad M sz [.long h]) (bm_Post D base (bm_Is (some (.long (bm_end h))) M sz)) 0 0 (bm_A base) := by
  refine bm_ofB (cc := cH_end) (maxL := 2) (ret := (some .long)) (by decide +kernel) (Nat.le_of_ble_eq_true rfl) ?_
  intro vp ve s vm args below meth vc hx hb hr hlk hts hown hml hnm ls hl hz hM hG R Q hR hQ
  have hown : s.vm.findClass "BlindMint$Hash" = some vm.cls := hown
  have hK := hG.K
  have hS : va_S (bm_A base) s.heap s.heap [] := va_S.rf
  have hl : lv_has ls 2 [(0, .long h)] := hl
  refine lv_lload_n hx hb dH_end_0 rfl (lv_at hl 0 rfl) ?_
  refine lv_ldc2 hx hb hown (hts _ bw_184) dH_end_1 ?_
  refine lv_land hx hb dH_end_4 ?_
  exact bm_lret hQ hx hb hr hlk hM hS ⟨rfl, rfl, hz⟩ (Nat.le_refl _) (Nat.le_refl _) dH_end_5
set_option maxHeartbeats 4000000 in
set_option maxRecDepth 100000 in
theorem bc_H_of (l : Launch) (D : va_G) (ct : Nat → ClassId) (base : Nat) (ad : Nat → Nat) (M : bm_Map) (sz : Nat) (v w : Int64) : Met l yH_of (bm_ws yH_of cH_of 4 (some .long)) { frames := 1, cells := 0, slots := 0, locals := 25 } (bm_Pre D ct base ad M sz [.long v, .long w]) (bm_Post D base (bm_Is (some (.long (bm_h2 v w))) M sz)) 0 0 (bm_A base) := by
  refine bm_ofB (cc := cH_of) (maxL := 4) (ret := (some .long)) (by decide +kernel) (Nat.le_of_ble_eq_true rfl) ?_
  intro vp ve s vm args below meth vc hx hb hr hlk hts hown hml hnm ls hl hz hM hG R Q hR hQ
  have hown : s.vm.findClass "BlindMint$Hash" = some vm.cls := hown
  have hK := hG.K
  have hS : va_S (bm_A base) s.heap s.heap [] := va_S.rf
  have hl : lv_has ls 4 [(0, .long v), (2, .long w)] := hl
  refine lv_ldc2 hx hb hown (hts _ bw_191) dH_of_0 ?_
  refine lv_lload_n hx hb dH_of_3 rfl (lv_at hl 0 rfl) ?_
  refine bm_callE (va_runS (As := [.long 7, .long v]) (rest := []) ⟨hx, hb, hml, hown, hts⟩ (bc_H_step l D ct base ad M sz 7 v) (va_cwS 2 hts (bm_goodS bw_192 bw_177 bw_11 bw_178) rfl rfl rfl (by decide +kernel) (by rw [← hR]; exact ⟨Nat.le_of_ble_eq_true rfl, Nat.le_of_ble_eq_true rfl⟩)) (bm_preS hM hG hS hz) rfl rfl hl.1 rfl (lv_room (Nat.le_of_ble_eq_true rfl)) dH_of_4 (by rw [← hR]; exact ⟨Nat.le_of_ble_eq_true rfl, Nat.le_of_ble_eq_true rfl⟩)) hS (fun H locs hz hM hS => ?_)
  refine lv_lload_n hx hb dH_of_7 rfl (lv_at hl 1 rfl) ?_
  refine bm_callE (va_runS (As := [.long (bm_step 7 v), .long w]) (rest := []) ⟨hx, hb, hml, hown, hts⟩ (bc_H_step l D ct base ad M sz (bm_step 7 v) w) (va_cwS 2 hts (bm_goodS bw_192 bw_177 bw_11 bw_178) rfl rfl rfl (by decide +kernel) (by rw [← hR]; exact ⟨Nat.le_of_ble_eq_true rfl, Nat.le_of_ble_eq_true rfl⟩)) (bm_preS hM hG hS hz) rfl rfl hl.1 rfl (lv_room (Nat.le_of_ble_eq_true rfl)) dH_of_8 (by rw [← hR]; exact ⟨Nat.le_of_ble_eq_true rfl, Nat.le_of_ble_eq_true rfl⟩)) hS (fun H locs hz hM hS => ?_)
  refine bm_callE (va_runS (As := [.long (bm_step (bm_step 7 v) w)]) (rest := []) ⟨hx, hb, hml, hown, hts⟩ (bc_H_end l D ct base ad M sz (bm_step (bm_step 7 v) w)) (va_cwS 1 hts (bm_goodS bw_193 bw_182 bw_11 bw_183) rfl rfl rfl (by decide +kernel) (by rw [← hR]; exact ⟨Nat.le_of_ble_eq_true rfl, Nat.le_of_ble_eq_true rfl⟩)) (bm_preS hM hG hS hz) rfl rfl hl.1 rfl (lv_room (Nat.le_of_ble_eq_true rfl)) dH_of_11 (by rw [← hR]; exact ⟨Nat.le_of_ble_eq_true rfl, Nat.le_of_ble_eq_true rfl⟩)) hS (fun H locs hz hM hS => ?_)
  exact bm_lret hQ hx hb hr hlk hM hS ⟨rfl, rfl, hz⟩ (Nat.le_refl _) (Nat.le_refl _) dH_of_14
set_option maxHeartbeats 4000000 in
set_option maxRecDepth 100000 in
theorem bc_M_power (l : Launch) (D : va_G) (ct : Nat → ClassId) (base : Nat) (ad : Nat → Nat) (M : bm_Map) (sz : Nat) (b e q : Nat) (hb1 : b < 2 ^ 63) (he : e < 2 ^ 62) (hq1 : 1 < q) (hq2 : q < 2 ^ 31) : Met l yM_power (bm_ws yM_power cM_power 12 (some .long)) { frames := 0, cells := 0, slots := 0, locals := 0 } (bm_Pre D ct base ad M sz [.long (lN b), .long (lN e), .long (lN q)]) (bm_Post D base (bm_Is (some (.long (lN (b ^ e % q)))) M sz)) 0 0 (bm_A base) := by
  refine bm_ofB (cc := cM_power) (maxL := 12) (ret := (some .long)) (by decide +kernel) (Nat.le_of_ble_eq_true rfl) ?_
  intro vp ve s vm args below meth vc hx hb hr hlk hts hown hml hnm ls hl hz hM hG R Q hR hQ
  have hown : s.vm.findClass "BlindMintModel" = some vm.cls := hown
  have hK := hG.K
  have hS : va_S (bm_A base) s.heap s.heap [] := va_S.rf
  have hl : lv_has ls 12 [(0, .long (lN b)), (2, .long (lN e)), (4, .long (lN q))] := hl
  refine lv_lconst (v := 1) hx hb dM_power_0 (by decide) ?_
  refine lv_topl (fun t1 e_t1 => ?_)
  have e_t1 : t1 = lN (b ^ (e % 2 ^ 0) % q) := by rw [e_t1]; exact bm_pow_z hq1
  subst e_t1
  refine lv_lstore hx hb dM_power_1 hl (by decide) rfl (fun ls hl => ?_)
  have hl : lv_has ls 12 [(6, .long (lN (b ^ (e % 2 ^ 0) % q))), (0, .long (lN b)), (2, .long (lN e)), (4, .long (lN q))] := hl
  refine lv_lload_n hx hb dM_power_3 rfl (lv_at hl 1 rfl) ?_
  refine lv_lload hx hb dM_power_4 (lv_at hl 3 rfl) ?_
  refine lv_lrem hx hb dM_power_6 (bm_lN_ne (by omega) (by omega)) ?_
  refine lv_topl (fun t2 e_t2 => ?_)
  have e_t2 : t2 = lN (b ^ (2 ^ 0) % q) := by rw [e_t2]; rw [pk_lRem hb1 (by omega) (by omega), Nat.pow_zero, Nat.pow_one]
  subst e_t2
  refine lv_lstore hx hb dM_power_7 hl (by decide) rfl (fun ls hl => ?_)
  have hl : lv_has ls 12 [(8, .long (lN (b ^ (2 ^ 0) % q))), (6, .long (lN (b ^ (e % 2 ^ 0) % q))), (0, .long (lN b)), (2, .long (lN e)), (4, .long (lN q))] := hl
  refine lv_lload_n hx hb dM_power_9 rfl (lv_at hl 3 rfl) ?_
  refine lv_topl (fun t3 e_t3 => ?_)
  have e_t3 : t3 = lN (e / 2 ^ 0) := by rw [e_t3]; rw [Nat.pow_zero, Nat.div_one]
  subst e_t3
  refine lv_lstore hx hb dM_power_10 hl (by decide) rfl (fun ls hl => ?_)
  have hl : lv_has ls 12 [(10, .long (lN (e / 2 ^ 0))), (8, .long (lN (b ^ (2 ^ 0) % q))), (6, .long (lN (b ^ (e % 2 ^ 0) % q))), (0, .long (lN b)), (2, .long (lN e)), (4, .long (lN q))] := hl
  have hl : lv_has ls 12 [(6, .long (lN (b ^ (e % 2 ^ 0) % q))), (8, .long (lN (b ^ (2 ^ 0) % q))), (10, .long (lN (e / 2 ^ 0))), (4, .long (lN q))] := lv_sub hl [2, 1, 0, 5] rfl
  have loop : ∀ (n : Nat) (i : Nat) (ls : Array Slot) (H : Heap) (locs : List Loc), e < 2 ^ (i + n) → lv_has ls 12 [(6, .long (lN (b ^ (e % 2 ^ i) % q))), (8, .long (lN (b ^ (2 ^ i) % q))), (10, .long (lN (e / 2 ^ i))), (4, .long (lN q))] → H.size = sz → bm_M D base M H → va_S (bm_A base) s.heap H locs → W vp l ve R s vm args below meth vc H locs 0 0 Q (F0 vm 12 ls []) := by
    intro n
    induction n with
    | zero =>
      intro i ls H locs hi hl hz hM hS
      have hk0 : e / 2 ^ i = 0 := Nat.div_eq_of_lt (by simpa using hi)
      have hp1 : b ^ (e % 2 ^ i) % q < q := Nat.mod_lt _ (by omega)
      have hp2 : b ^ (2 ^ i) % q < q := Nat.mod_lt _ (by omega)
      have hdv : e / 2 ^ i ≤ e := Nat.div_le_self _ _
      refine lv_lload hx hb dM_power_12 (lv_at hl 2 rfl) ?_
      refine lv_lconst (v := 0) hx hb dM_power_14 (by decide) ?_
      refine W.lcmp hx hb dM_power_15 ?_
      refine lv_if_le (tgt := 62) hx hb dM_power_16 rfl (fun h16 => ?_) (fun h16 => absurd (by rw [lg_cmp_le, hk0]; decide) h16)
      have hk : e / 2 ^ i = 0 := bm_lN_le0 (by omega) ((lg_cmp_le _ _).mp h16)
      have hlt : e < 2 ^ i := (Nat.div_eq_zero_iff_lt (Nat.two_pow_pos i)).mp hk
      rw [Nat.mod_eq_of_lt hlt] at hl
      refine lv_lload hx hb dM_power_62 (lv_at hl 0 rfl) ?_
      exact bm_lret hQ hx hb hr hlk hM hS ⟨rfl, rfl, hz⟩ (Nat.le_refl _) (Nat.le_refl _) dM_power_64
    | succ n ih =>
      intro i ls H locs hi hl hz hM hS
      have hp1 : b ^ (e % 2 ^ i) % q < q := Nat.mod_lt _ (by omega)
      have hp2 : b ^ (2 ^ i) % q < q := Nat.mod_lt _ (by omega)
      have hdv : e / 2 ^ i ≤ e := Nat.div_le_self _ _
      refine lv_lload hx hb dM_power_12 (lv_at hl 2 rfl) ?_
      refine lv_lconst (v := 0) hx hb dM_power_14 (by decide) ?_
      refine W.lcmp hx hb dM_power_15 ?_
      refine lv_if_le (tgt := 62) hx hb dM_power_16 rfl (fun h16 => ?_) (fun h16 => ?_)
      · have hk : e / 2 ^ i = 0 := bm_lN_le0 (by omega) ((lg_cmp_le _ _).mp h16)
        have hlt : e < 2 ^ i := (Nat.div_eq_zero_iff_lt (Nat.two_pow_pos i)).mp hk
        rw [Nat.mod_eq_of_lt hlt] at hl
        refine lv_lload hx hb dM_power_62 (lv_at hl 0 rfl) ?_
        exact bm_lret hQ hx hb hr hlk hM hS ⟨rfl, rfl, hz⟩ (Nat.le_refl _) (Nat.le_refl _) dM_power_64
      · refine lv_lload hx hb dM_power_19 (lv_at hl 2 rfl) ?_
        refine lv_lconst (v := 1) hx hb dM_power_21 (by decide) ?_
        refine lv_land hx hb dM_power_22 ?_
        refine lv_topl (fun t4 e_t4 => ?_)
        have e_t4 : t4 = lN (e / 2 ^ i % 2) := by rw [e_t4]; exact wb_a1 (by omega)
        subst e_t4
        refine lv_lconst (v := 1) hx hb dM_power_23 (by decide) ?_
        refine W.lcmp hx hb dM_power_24 ?_
        refine lv_if_ne (tgt := 39) hx hb dM_power_25 rfl (fun h25 => ?_) (fun h25 => ?_)
        · rw [lg_cmp_eq] at h25
          refine lv_lload hx hb dM_power_39 (lv_at hl 0 rfl) ?_
          refine lv_topl (fun t5 e_t5 => ?_)
          have e_t5 : t5 = lN (b ^ (e % 2 ^ (i + 1)) % q) := by rw [e_t5]; rw [← bm_pow_0 (bm_lN_0 h25)]
          subst e_t5
          refine lv_lstore hx hb dM_power_41 hl (by decide) rfl (fun ls hl => ?_)
          have hl : lv_has ls 12 [(6, .long (lN (b ^ (e % 2 ^ (i + 1)) % q))), (8, .long (lN (b ^ (2 ^ i) % q))), (10, .long (lN (e / 2 ^ i))), (4, .long (lN q))] := hl
          refine lv_lload hx hb dM_power_43 (lv_at hl 1 rfl) ?_
          refine lv_lload hx hb dM_power_45 (lv_at hl 1 rfl) ?_
          refine lv_lmul hx hb dM_power_47 ?_
          refine lv_lload hx hb dM_power_48 (lv_at hl 3 rfl) ?_
          refine lv_lrem hx hb dM_power_50 (bm_lN_ne (by omega) (by omega)) ?_
          refine lv_topl (fun t6 e_t6 => ?_)
          have e_t6 : t6 = lN (b ^ (2 ^ (i + 1)) % q) := by rw [e_t6]; rw [lN_mul, pk_lRem (bm_mul_lt hp2 hp2 hq2) (by omega) (by omega), bm_pow_s]
          subst e_t6
          refine lv_lstore hx hb dM_power_51 hl (by decide) rfl (fun ls hl => ?_)
          have hl : lv_has ls 12 [(8, .long (lN (b ^ (2 ^ (i + 1)) % q))), (6, .long (lN (b ^ (e % 2 ^ (i + 1)) % q))), (10, .long (lN (e / 2 ^ i))), (4, .long (lN q))] := hl
          refine lv_lload hx hb dM_power_53 (lv_at hl 2 rfl) ?_
          refine lv_iconst (v := 1) hx hb dM_power_55 (by decide) ?_
          refine lv_lshr hx hb dM_power_56 rfl ?_
          refine lv_topl (fun t7 e_t7 => ?_)
          have e_t7 : t7 = lN (e / 2 ^ (i + 1)) := by rw [e_t7]; exact bm_half he
          subst e_t7
          refine lv_lstore hx hb dM_power_57 hl (by decide) rfl (fun ls hl => ?_)
          have hl : lv_has ls 12 [(10, .long (lN (e / 2 ^ (i + 1)))), (8, .long (lN (b ^ (2 ^ (i + 1)) % q))), (6, .long (lN (b ^ (e % 2 ^ (i + 1)) % q))), (4, .long (lN q))] := hl
          refine lv_goto (tgt := 12) hx hb dM_power_59 rfl ?_
          have hl : lv_has ls 12 [(6, .long (lN (b ^ (e % 2 ^ (i + 1)) % q))), (8, .long (lN (b ^ (2 ^ (i + 1)) % q))), (10, .long (lN (e / 2 ^ (i + 1)))), (4, .long (lN q))] := lv_sub hl [2, 1, 0, 3] rfl
          exact ih (i + 1) ls _ _ (by rw [show i + 1 + n = i + (n + 1) from by omega]; exact hi) hl hz hM hS
        · rw [lg_cmp_eq] at h25
          refine lv_lload hx hb dM_power_28 (lv_at hl 0 rfl) ?_
          refine lv_lload hx hb dM_power_30 (lv_at hl 1 rfl) ?_
          refine lv_lmul hx hb dM_power_32 ?_
          refine lv_lload hx hb dM_power_33 (lv_at hl 3 rfl) ?_
          refine lv_lrem hx hb dM_power_35 (bm_lN_ne (by omega) (by omega)) ?_
          refine lv_topl (fun t8 e_t8 => ?_)
          have e_t8 : t8 = lN (b ^ (e % 2 ^ (i + 1)) % q) := by rw [e_t8]; rw [lN_mul, pk_lRem (bm_mul_lt hp1 hp2 hq2) (by omega) (by omega), bm_pow_1 (bm_lN_1 (by omega) h25)]
          subst e_t8
          refine lv_goto (tgt := 41) hx hb dM_power_36 rfl ?_
          refine lv_lstore hx hb dM_power_41 hl (by decide) rfl (fun ls hl => ?_)
          have hl : lv_has ls 12 [(6, .long (lN (b ^ (e % 2 ^ (i + 1)) % q))), (8, .long (lN (b ^ (2 ^ i) % q))), (10, .long (lN (e / 2 ^ i))), (4, .long (lN q))] := hl
          refine lv_lload hx hb dM_power_43 (lv_at hl 1 rfl) ?_
          refine lv_lload hx hb dM_power_45 (lv_at hl 1 rfl) ?_
          refine lv_lmul hx hb dM_power_47 ?_
          refine lv_lload hx hb dM_power_48 (lv_at hl 3 rfl) ?_
          refine lv_lrem hx hb dM_power_50 (bm_lN_ne (by omega) (by omega)) ?_
          refine lv_topl (fun t9 e_t9 => ?_)
          have e_t9 : t9 = lN (b ^ (2 ^ (i + 1)) % q) := by rw [e_t9]; rw [lN_mul, pk_lRem (bm_mul_lt hp2 hp2 hq2) (by omega) (by omega), bm_pow_s]
          subst e_t9
          refine lv_lstore hx hb dM_power_51 hl (by decide) rfl (fun ls hl => ?_)
          have hl : lv_has ls 12 [(8, .long (lN (b ^ (2 ^ (i + 1)) % q))), (6, .long (lN (b ^ (e % 2 ^ (i + 1)) % q))), (10, .long (lN (e / 2 ^ i))), (4, .long (lN q))] := hl
          refine lv_lload hx hb dM_power_53 (lv_at hl 2 rfl) ?_
          refine lv_iconst (v := 1) hx hb dM_power_55 (by decide) ?_
          refine lv_lshr hx hb dM_power_56 rfl ?_
          refine lv_topl (fun t10 e_t10 => ?_)
          have e_t10 : t10 = lN (e / 2 ^ (i + 1)) := by rw [e_t10]; exact bm_half he
          subst e_t10
          refine lv_lstore hx hb dM_power_57 hl (by decide) rfl (fun ls hl => ?_)
          have hl : lv_has ls 12 [(10, .long (lN (e / 2 ^ (i + 1)))), (8, .long (lN (b ^ (2 ^ (i + 1)) % q))), (6, .long (lN (b ^ (e % 2 ^ (i + 1)) % q))), (4, .long (lN q))] := hl
          refine lv_goto (tgt := 12) hx hb dM_power_59 rfl ?_
          have hl : lv_has ls 12 [(6, .long (lN (b ^ (e % 2 ^ (i + 1)) % q))), (8, .long (lN (b ^ (2 ^ (i + 1)) % q))), (10, .long (lN (e / 2 ^ (i + 1)))), (4, .long (lN q))] := lv_sub hl [2, 1, 0, 3] rfl
          exact ih (i + 1) ls _ _ (by rw [show i + 1 + n = i + (n + 1) from by omega]; exact hi) hl hz hM hS
  exact loop 62 0 ls _ _ (by simpa using he) hl hz hM hS
