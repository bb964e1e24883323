set_option maxHeartbeats 4000000 in
set_option maxRecDepth 100000 in
theorem bc_M_factor_p0 (l : Launch) (D : va_G) (ct : Nat → ClassId) (base : Nat) (ad : Nat → Nat) (M : bm_Map) (sz : Nat)  : Met l yM_factor (bm_ws yM_factor cM_factor 2 (some .long)) { frames := 0, cells := 0, slots := 0, locals := 0 } (bm_Pre D ct base ad M sz [.int 0, .int 0]) (bm_Post D base (bm_Is (some (.long (lN (bm_p 0)))) M sz)) 0 0 (bm_A base) := by
  refine bm_ofB (cc := cM_factor) (maxL := 2) (ret := (some .long)) (by decide +kernel) (Nat.le_of_ble_eq_true rfl) ?_
  intro vp ve s vm args below meth vc hx hb hr hlk hts hown hml hnm ls hl hz hM hG R Q hR hQ
  have hown : s.vm.findClass "BlindMintModel" = some vm.cls := hown
  have hK := hG.K
  have hS : va_S (bm_A base) s.heap s.heap [] := va_S.rf
  have hl : lv_has ls 2 [(0, .int 0), (1, .int 0)] := hl
  refine lv_iload_n hx hb dM_factor_0 rfl (lv_at hl 0 rfl) ?_
  refine lv_if_ne (tgt := 18) hx hb dM_factor_1 rfl (fun h => absurd h (by decide)) (fun _ => ?_)
  refine lv_iload_n hx hb dM_factor_4 rfl (lv_at hl 1 rfl) ?_
  refine lv_if_eq (tgt := 14) hx hb dM_factor_5 rfl (fun _ => ?_) (fun h => absurd h (by decide))
  refine lv_ldc2 hx hb hown (hts _ bw_730) dM_factor_14 ?_
  exact bm_lret hQ hx hb hr hlk hM hS ⟨rfl, rfl, hz⟩ (Nat.le_refl _) (Nat.le_refl _) dM_factor_17
set_option maxHeartbeats 4000000 in
set_option maxRecDepth 100000 in
theorem bc_M_factor_p1 (l : Launch) (D : va_G) (ct : Nat → ClassId) (base : Nat) (ad : Nat → Nat) (M : bm_Map) (sz : Nat)  : Met l yM_factor (bm_ws yM_factor cM_factor 2 (some .long)) { frames := 0, cells := 0, slots := 0, locals := 0 } (bm_Pre D ct base ad M sz [.int 1, .int 0]) (bm_Post D base (bm_Is (some (.long (lN (bm_p 1)))) M sz)) 0 0 (bm_A base) := by
  refine bm_ofB (cc := cM_factor) (maxL := 2) (ret := (some .long)) (by decide +kernel) (Nat.le_of_ble_eq_true rfl) ?_
  intro vp ve s vm args below meth vc hx hb hr hlk hts hown hml hnm ls hl hz hM hG R Q hR hQ
  have hown : s.vm.findClass "BlindMintModel" = some vm.cls := hown
  have hK := hG.K
  have hS : va_S (bm_A base) s.heap s.heap [] := va_S.rf
  have hl : lv_has ls 2 [(0, .int 1), (1, .int 0)] := hl
  refine lv_iload_n hx hb dM_factor_0 rfl (lv_at hl 0 rfl) ?_
  refine lv_if_ne (tgt := 18) hx hb dM_factor_1 rfl (fun _ => ?_) (fun h => absurd h (by decide))
  refine lv_iload_n hx hb dM_factor_18 rfl (lv_at hl 0 rfl) ?_
  refine lv_iconst (v := 1) hx hb dM_factor_19 (by decide) ?_
  refine lv_icmp_ne (tgt := 37) hx hb dM_factor_20 rfl (fun h => absurd h (by decide)) (fun _ => ?_)
  refine lv_iload_n hx hb dM_factor_23 rfl (lv_at hl 1 rfl) ?_
  refine lv_if_eq (tgt := 33) hx hb dM_factor_24 rfl (fun _ => ?_) (fun h => absurd h (by decide))
  refine lv_ldc2 hx hb hown (hts _ bw_732) dM_factor_33 ?_
  exact bm_lret hQ hx hb hr hlk hM hS ⟨rfl, rfl, hz⟩ (Nat.le_refl _) (Nat.le_refl _) dM_factor_36
set_option maxHeartbeats 4000000 in
set_option maxRecDepth 100000 in
theorem bc_M_factor_p2 (l : Launch) (D : va_G) (ct : Nat → ClassId) (base : Nat) (ad : Nat → Nat) (M : bm_Map) (sz : Nat)  : Met l yM_factor (bm_ws yM_factor cM_factor 2 (some .long)) { frames := 0, cells := 0, slots := 0, locals := 0 } (bm_Pre D ct base ad M sz [.int 2, .int 0]) (bm_Post D base (bm_Is (some (.long (lN (bm_p 2)))) M sz)) 0 0 (bm_A base) := by
  refine bm_ofB (cc := cM_factor) (maxL := 2) (ret := (some .long)) (by decide +kernel) (Nat.le_of_ble_eq_true rfl) ?_
  intro vp ve s vm args below meth vc hx hb hr hlk hts hown hml hnm ls hl hz hM hG R Q hR hQ
  have hown : s.vm.findClass "BlindMintModel" = some vm.cls := hown
  have hK := hG.K
  have hS : va_S (bm_A base) s.heap s.heap [] := va_S.rf
  have hl : lv_has ls 2 [(0, .int 2), (1, .int 0)] := hl
  refine lv_iload_n hx hb dM_factor_0 rfl (lv_at hl 0 rfl) ?_
  refine lv_if_ne (tgt := 18) hx hb dM_factor_1 rfl (fun _ => ?_) (fun h => absurd h (by decide))
  refine lv_iload_n hx hb dM_factor_18 rfl (lv_at hl 0 rfl) ?_
  refine lv_iconst (v := 1) hx hb dM_factor_19 (by decide) ?_
  refine lv_icmp_ne (tgt := 37) hx hb dM_factor_20 rfl (fun _ => ?_) (fun h => absurd h (by decide))
  refine lv_iload_n hx hb dM_factor_37 rfl (lv_at hl 1 rfl) ?_
  refine lv_if_eq (tgt := 47) hx hb dM_factor_38 rfl (fun _ => ?_) (fun h => absurd h (by decide))
  refine lv_ldc2 hx hb hown (hts _ bw_734) dM_factor_47 ?_
  exact bm_lret hQ hx hb hr hlk hM hS ⟨rfl, rfl, hz⟩ (Nat.le_refl _) (Nat.le_refl _) dM_factor_50
theorem bc_M_factor_p (l : Launch) (D : va_G) (ct : Nat → ClassId) (base : Nat) (ad : Nat → Nat) (M : bm_Map) (sz : Nat) (d : Nat) (hd : d < 3) : Met l yM_factor (bm_ws yM_factor cM_factor 2 (some .long)) { frames := 0, cells := 0, slots := 0, locals := 0 } (bm_Pre D ct base ad M sz [.int (nI d), .int 0]) (bm_Post D base (bm_Is (some (.long (lN (bm_p d)))) M sz)) 0 0 (bm_A base) := by
  match d, hd with
  | 0, _ => exact bc_M_factor_p0 l D ct base ad M sz
  | 1, _ => exact bc_M_factor_p1 l D ct base ad M sz
  | 2, _ => exact bc_M_factor_p2 l D ct base ad M sz
set_option maxHeartbeats 4000000 in
set_option maxRecDepth 100000 in
theorem bc_M_factor_q0 (l : Launch) (D : va_G) (ct : Nat → ClassId) (base : Nat) (ad : Nat → Nat) (M : bm_Map) (sz : Nat)  : Met l yM_factor (bm_ws yM_factor cM_factor 2 (some .long)) { frames := 0, cells := 0, slots := 0, locals := 0 } (bm_Pre D ct base ad M sz [.int 0, .int 1]) (bm_Post D base (bm_Is (some (.long (lN (bm_q 0)))) M sz)) 0 0 (bm_A base) := by
  refine bm_ofB (cc := cM_factor) (maxL := 2) (ret := (some .long)) (by decide +kernel) (Nat.le_of_ble_eq_true rfl) ?_
  intro vp ve s vm args below meth vc hx hb hr hlk hts hown hml hnm ls hl hz hM hG R Q hR hQ
  have hown : s.vm.findClass "BlindMintModel" = some vm.cls := hown
  have hK := hG.K
  have hS : va_S (bm_A base) s.heap s.heap [] := va_S.rf
  have hl : lv_has ls 2 [(0, .int 0), (1, .int 1)] := hl
  refine lv_iload_n hx hb dM_factor_0 rfl (lv_at hl 0 rfl) ?_
  refine lv_if_ne (tgt := 18) hx hb dM_factor_1 rfl (fun h => absurd h (by decide)) (fun _ => ?_)
  refine lv_iload_n hx hb dM_factor_4 rfl (lv_at hl 1 rfl) ?_
  refine lv_if_eq (tgt := 14) hx hb dM_factor_5 rfl (fun h => absurd h (by decide)) (fun _ => ?_)
  refine lv_ldc2 hx hb hown (hts _ bw_729) dM_factor_8 ?_
  refine lv_goto (tgt := 17) hx hb dM_factor_11 rfl ?_
  exact bm_lret hQ hx hb hr hlk hM hS ⟨rfl, rfl, hz⟩ (Nat.le_refl _) (Nat.le_refl _) dM_factor_17
set_option maxHeartbeats 4000000 in
set_option maxRecDepth 100000 in
theorem bc_M_factor_q1 (l : Launch) (D : va_G) (ct : Nat → ClassId) (base : Nat) (ad : Nat → Nat) (M : bm_Map) (sz : Nat)  : Met l yM_factor (bm_ws yM_factor cM_factor 2 (some .long)) { frames := 0, cells := 0, slots := 0, locals := 0 } (bm_Pre D ct base ad M sz [.int 1, .int 1]) (bm_Post D base (bm_Is (some (.long (lN (bm_q 1)))) M sz)) 0 0 (bm_A base) := by
  refine bm_ofB (cc := cM_factor) (maxL := 2) (ret := (some .long)) (by decide +kernel) (Nat.le_of_ble_eq_true rfl) ?_
  intro vp ve s vm args below meth vc hx hb hr hlk hts hown hml hnm ls hl hz hM hG R Q hR hQ
  have hown : s.vm.findClass "BlindMintModel" = some vm.cls := hown
  have hK := hG.K
  have hS : va_S (bm_A base) s.heap s.heap [] := va_S.rf
  have hl : lv_has ls 2 [(0, .int 1), (1, .int 1)] := hl
  refine lv_iload_n hx hb dM_factor_0 rfl (lv_at hl 0 rfl) ?_
  refine lv_if_ne (tgt := 18) hx hb dM_factor_1 rfl (fun _ => ?_) (fun h => absurd h (by decide))
  refine lv_iload_n hx hb dM_factor_18 rfl (lv_at hl 0 rfl) ?_
  refine lv_iconst (v := 1) hx hb dM_factor_19 (by decide) ?_
  refine lv_icmp_ne (tgt := 37) hx hb dM_factor_20 rfl (fun h => absurd h (by decide)) (fun _ => ?_)
  refine lv_iload_n hx hb dM_factor_23 rfl (lv_at hl 1 rfl) ?_
  refine lv_if_eq (tgt := 33) hx hb dM_factor_24 rfl (fun h => absurd h (by decide)) (fun _ => ?_)
  refine lv_ldc2 hx hb hown (hts _ bw_731) dM_factor_27 ?_
  refine lv_goto (tgt := 36) hx hb dM_factor_30 rfl ?_
  exact bm_lret hQ hx hb hr hlk hM hS ⟨rfl, rfl, hz⟩ (Nat.le_refl _) (Nat.le_refl _) dM_factor_36
set_option maxHeartbeats 4000000 in
set_option maxRecDepth 100000 in
theorem bc_M_factor_q2 (l : Launch) (D : va_G) (ct : Nat → ClassId) (base : Nat) (ad : Nat → Nat) (M : bm_Map) (sz : Nat)  : Met l yM_factor (bm_ws yM_factor cM_factor 2 (some .long)) { frames := 0, cells := 0, slots := 0, locals := 0 } (bm_Pre D ct base ad M sz [.int 2, .int 1]) (bm_Post D base (bm_Is (some (.long (lN (bm_q 2)))) M sz)) 0 0 (bm_A base) := by
  refine bm_ofB (cc := cM_factor) (maxL := 2) (ret := (some .long)) (by decide +kernel) (Nat.le_of_ble_eq_true rfl) ?_
  intro vp ve s vm args below meth vc hx hb hr hlk hts hown hml hnm ls hl hz hM hG R Q hR hQ
  have hown : s.vm.findClass "BlindMintModel" = some vm.cls := hown
  have hK := hG.K
  have hS : va_S (bm_A base) s.heap s.heap [] := va_S.rf
  have hl : lv_has ls 2 [(0, .int 2), (1, .int 1)] := hl
  refine lv_iload_n hx hb dM_factor_0 rfl (lv_at hl 0 rfl) ?_
  refine lv_if_ne (tgt := 18) hx hb dM_factor_1 rfl (fun _ => ?_) (fun h => absurd h (by decide))
  refine lv_iload_n hx hb dM_factor_18 rfl (lv_at hl 0 rfl) ?_
  refine lv_iconst (v := 1) hx hb dM_factor_19 (by decide) ?_
  refine lv_icmp_ne (tgt := 37) hx hb dM_factor_20 rfl (fun _ => ?_) (fun h => absurd h (by decide))
  refine lv_iload_n hx hb dM_factor_37 rfl (lv_at hl 1 rfl) ?_
  refine lv_if_eq (tgt := 47) hx hb dM_factor_38 rfl (fun h => absurd h (by decide)) (fun _ => ?_)
  refine lv_ldc2 hx hb hown (hts _ bw_733) dM_factor_41 ?_
  refine lv_goto (tgt := 50) hx hb dM_factor_44 rfl ?_
  exact bm_lret hQ hx hb hr hlk hM hS ⟨rfl, rfl, hz⟩ (Nat.le_refl _) (Nat.le_refl _) dM_factor_50
theorem bc_M_factor_q (l : Launch) (D : va_G) (ct : Nat → ClassId) (base : Nat) (ad : Nat → Nat) (M : bm_Map) (sz : Nat) (d : Nat) (hd : d < 3) : Met l yM_factor (bm_ws yM_factor cM_factor 2 (some .long)) { frames := 0, cells := 0, slots := 0, locals := 0 } (bm_Pre D ct base ad M sz [.int (nI d), .int 1]) (bm_Post D base (bm_Is (some (.long (lN (bm_q d)))) M sz)) 0 0 (bm_A base) := by
  match d, hd with
  | 0, _ => exact bc_M_factor_q0 l D ct base ad M sz
  | 1, _ => exact bc_M_factor_q1 l D ct base ad M sz
  | 2, _ => exact bc_M_factor_q2 l D ct base ad M sz
set_option maxHeartbeats 4000000 in
set_option maxRecDepth 100000 in
theorem bc_M_worth0 (l : Launch) (D : va_G) (ct : Nat → ClassId) (base : Nat) (ad : Nat → Nat) (M : bm_Map) (sz : Nat)  : Met l yM_worth (bm_ws yM_worth cM_worth 1 (some .int)) { frames := 0, cells := 0, slots := 0, locals := 0 } (bm_Pre D ct base ad M sz [.int 0]) (bm_Post D base (bm_Is (some (.int (bm_w 0))) M sz)) 0 0 (bm_A base) := by
  refine bm_ofB (cc := cM_worth) (maxL := 1) (ret := (some .int)) (by decide +kernel) (Nat.le_of_ble_eq_true rfl) ?_
  intro vp ve s vm args below meth vc hx hb hr hlk hts hown hml hnm ls hl hz hM hG R Q hR hQ
  have hown : s.vm.findClass "BlindMintModel" = some vm.cls := hown
  have hK := hG.K
  have hS : va_S (bm_A base) s.heap s.heap [] := va_S.rf
  have hl : lv_has ls 1 [(0, .int 0)] := hl
  refine lv_iload_n hx hb dM_worth_0 rfl (lv_at hl 0 rfl) ?_
  refine lv_if_ne (tgt := 8) hx hb dM_worth_1 rfl (fun h => absurd h (by decide)) (fun _ => ?_)
  refine lv_iconst (v := 1) hx hb dM_worth_4 (by decide) ?_
  refine lv_goto (tgt := 19) hx hb dM_worth_5 rfl ?_
  exact bm_iret hQ hx hb hr hlk hM hS ⟨rfl, rfl, hz⟩ (Nat.le_refl _) (Nat.le_refl _) dM_worth_19
set_option maxHeartbeats 4000000 in
set_option maxRecDepth 100000 in
theorem bc_M_worth1 (l : Launch) (D : va_G) (ct : Nat → ClassId) (base : Nat) (ad : Nat → Nat) (M : bm_Map) (sz : Nat)  : Met l yM_worth (bm_ws yM_worth cM_worth 1 (some .int)) { frames := 0, cells := 0, slots := 0, locals := 0 } (bm_Pre D ct base ad M sz [.int 1]) (bm_Post D base (bm_Is (some (.int (bm_w 1))) M sz)) 0 0 (bm_A base) := by
  refine bm_ofB (cc := cM_worth) (maxL := 1) (ret := (some .int)) (by decide +kernel) (Nat.le_of_ble_eq_true rfl) ?_
  intro vp ve s vm args below meth vc hx hb hr hlk hts hown hml hnm ls hl hz hM hG R Q hR hQ
  have hown : s.vm.findClass "BlindMintModel" = some vm.cls := hown
  have hK := hG.K
  have hS : va_S (bm_A base) s.heap s.heap [] := va_S.rf
  have hl : lv_has ls 1 [(0, .int 1)] := hl
  refine lv_iload_n hx hb dM_worth_0 rfl (lv_at hl 0 rfl) ?_
  refine lv_if_ne (tgt := 8) hx hb dM_worth_1 rfl (fun _ => ?_) (fun h => absurd h (by decide))
  refine lv_iload_n hx hb dM_worth_8 rfl (lv_at hl 0 rfl) ?_
  refine lv_iconst (v := 1) hx hb dM_worth_9 (by decide) ?_
  refine lv_icmp_ne (tgt := 17) hx hb dM_worth_10 rfl (fun h => absurd h (by decide)) (fun _ => ?_)
  refine lv_iconst (v := 5) hx hb dM_worth_13 (by decide) ?_
  refine lv_goto (tgt := 19) hx hb dM_worth_14 rfl ?_
  exact bm_iret hQ hx hb hr hlk hM hS ⟨rfl, rfl, hz⟩ (Nat.le_refl _) (Nat.le_refl _) dM_worth_19
set_option maxHeartbeats 4000000 in
set_option maxRecDepth 100000 in
theorem bc_M_worth2 (l : Launch) (D : va_G) (ct : Nat → ClassId) (base : Nat) (ad : Nat → Nat) (M : bm_Map) (sz : Nat)  : Met l yM_worth (bm_ws yM_worth cM_worth 1 (some .int)) { frames := 0, cells := 0, slots := 0, locals := 0 } (bm_Pre D ct base ad M sz [.int 2]) (bm_Post D base (bm_Is (some (.int (bm_w 2))) M sz)) 0 0 (bm_A base) := by
  refine bm_ofB (cc := cM_worth) (maxL := 1) (ret := (some .int)) (by decide +kernel) (Nat.le_of_ble_eq_true rfl) ?_
  intro vp ve s vm args below meth vc hx hb hr hlk hts hown hml hnm ls hl hz hM hG R Q hR hQ
  have hown : s.vm.findClass "BlindMintModel" = some vm.cls := hown
  have hK := hG.K
  have hS : va_S (bm_A base) s.heap s.heap [] := va_S.rf
  have hl : lv_has ls 1 [(0, .int 2)] := hl
  refine lv_iload_n hx hb dM_worth_0 rfl (lv_at hl 0 rfl) ?_
  refine lv_if_ne (tgt := 8) hx hb dM_worth_1 rfl (fun _ => ?_) (fun h => absurd h (by decide))
  refine lv_iload_n hx hb dM_worth_8 rfl (lv_at hl 0 rfl) ?_
  refine lv_iconst (v := 1) hx hb dM_worth_9 (by decide) ?_
  refine lv_icmp_ne (tgt := 17) hx hb dM_worth_10 rfl (fun _ => ?_) (fun h => absurd h (by decide))
  refine lv_bipush (v := 20) hx hb dM_worth_17 (by decide) ?_
  exact bm_iret hQ hx hb hr hlk hM hS ⟨rfl, rfl, hz⟩ (Nat.le_refl _) (Nat.le_refl _) dM_worth_19
theorem bc_M_worth (l : Launch) (D : va_G) (ct : Nat → ClassId) (base : Nat) (ad : Nat → Nat) (M : bm_Map) (sz : Nat) (d : Nat) (hd : d < 3) : Met l yM_worth (bm_ws yM_worth cM_worth 1 (some .int)) { frames := 0, cells := 0, slots := 0, locals := 0 } (bm_Pre D ct base ad M sz [.int (nI d)]) (bm_Post D base (bm_Is (some (.int (bm_w d))) M sz)) 0 0 (bm_A base) := by
  match d, hd with
  | 0, _ => exact bc_M_worth0 l D ct base ad M sz
  | 1, _ => exact bc_M_worth1 l D ct base ad M sz
  | 2, _ => exact bc_M_worth2 l D ct base ad M sz
set_option maxHeartbeats 4000000 in
set_option maxRecDepth 100000 in
theorem bc_M_join (l : Launch) (D : va_G) (ct : Nat → ClassId) (base : Nat) (ad : Nat → Nat) (M : bm_Map) (sz : Nat) (d x y : Nat) (hd : d < 3) (hx1 : x < 2 ^ 30) (hy1 : y < 2 ^ 30) : Met l yM_join (bm_ws yM_join cM_join 13 (some .long)) { frames := 1, cells := 0, slots := 0, locals := 31 } (bm_Pre D ct base ad M sz [.long (lN x), .long (lN y), .int (nI d)]) (bm_Post D base (bm_Is (some (.long (lN (bm_jd d x y)))) M sz)) 0 0 (bm_A base) := by
  refine bm_ofB (cc := cM_join) (maxL := 13) (ret := (some .long)) (by decide +kernel) (Nat.le_of_ble_eq_true rfl) ?_
  intro vp ve s vm args below meth vc hx hb hr hlk hts hown hml hnm ls hl hz hM hG R Q hR hQ
  have hown : s.vm.findClass "BlindMintModel" = some vm.cls := hown
  have hK := hG.K
  have hS : va_S (bm_A base) s.heap s.heap [] := va_S.rf
  have hl : lv_has ls 13 [(0, .long (lN x)), (2, .long (lN y)), (4, .int (nI d))] := hl
  have hpb := bm_pb d
  have hqb := bm_qb d
  refine lv_iload hx hb dM_join_0 (lv_at hl 2 rfl) ?_
  refine lv_iconst (v := 0) hx hb dM_join_2 (by decide) ?_
  refine bm_callE (va_runS (As := [.int (nI d), .int 0]) (rest := []) ⟨hx, hb, hml, hown, hts⟩ (bc_M_factor_p l D ct base ad M sz d hd) (va_cwS 2 hts (bm_goodS bw_726 bw_727 bw_5 bw_728) rfl rfl rfl (by decide +kernel) (by rw [← hR]; exact ⟨Nat.le_of_ble_eq_true rfl, Nat.le_of_ble_eq_true rfl⟩)) (bm_preS hM hG hS hz) rfl rfl hl.1 rfl (lv_room (Nat.le_of_ble_eq_true rfl)) dM_join_3 (by rw [← hR]; exact ⟨Nat.le_of_ble_eq_true rfl, Nat.le_of_ble_eq_true rfl⟩)) hS (fun H locs hz hM hS => ?_)
  refine lv_lstore hx hb dM_join_6 hl (by decide) rfl (fun ls hl => ?_)
  have hl : lv_has ls 13 [(5, .long (lN (bm_p d))), (0, .long (lN x)), (2, .long (lN y)), (4, .int (nI d))] := hl
  refine lv_iload hx hb dM_join_8 (lv_at hl 3 rfl) ?_
  refine lv_iconst (v := 1) hx hb dM_join_10 (by decide) ?_
  refine bm_callE (va_runS (As := [.int (nI d), .int 1]) (rest := []) ⟨hx, hb, hml, hown, hts⟩ (bc_M_factor_q l D ct base ad M sz d hd) (va_cwS 2 hts (bm_goodS bw_726 bw_727 bw_5 bw_728) rfl rfl rfl (by decide +kernel) (by rw [← hR]; exact ⟨Nat.le_of_ble_eq_true rfl, Nat.le_of_ble_eq_true rfl⟩)) (bm_preS hM hG hS hz) rfl rfl hl.1 rfl (lv_room (Nat.le_of_ble_eq_true rfl)) dM_join_11 (by rw [← hR]; exact ⟨Nat.le_of_ble_eq_true rfl, Nat.le_of_ble_eq_true rfl⟩)) hS (fun H locs hz hM hS => ?_)
  refine lv_lstore hx hb dM_join_14 hl (by decide) rfl (fun ls hl => ?_)
  have hl : lv_has ls 13 [(7, .long (lN (bm_q d))), (5, .long (lN (bm_p d))), (0, .long (lN x)), (2, .long (lN y)), (4, .int (nI d))] := hl
  refine lv_lload hx hb dM_join_16 (lv_at hl 1 rfl) ?_
  refine lv_lload hx hb dM_join_18 (lv_at hl 0 rfl) ?_
  refine lv_ldc2 hx hb hown (hts _ bw_707) dM_join_20 ?_
  refine lv_lsub hx hb dM_join_23 ?_
  refine lv_topl (fun t1 e_t1 => ?_)
  have e_t1 : t1 = lN (bm_q d - 2) := by rw [e_t1]; exact lN_sub (b := 2) (by omega)
  subst e_t1
  refine lv_lload hx hb dM_join_24 (lv_at hl 0 rfl) ?_
  refine bm_callE (va_runS (As := [.long (lN (bm_p d)), .long (lN (bm_q d - 2)), .long (lN (bm_q d))]) (rest := []) ⟨hx, hb, hml, hown, hts⟩ (bc_M_power l D ct base ad M sz (bm_p d) (bm_q d - 2) (bm_q d) (by omega) (by omega) (by omega) (by omega)) (va_cwS 3 hts (bm_goodS bw_739 bw_740 bw_5 bw_741) rfl rfl rfl (by decide +kernel) (by rw [← hR]; exact ⟨Nat.le_of_ble_eq_true rfl, Nat.le_of_ble_eq_true rfl⟩)) (bm_preS hM hG hS hz) rfl rfl hl.1 rfl (lv_room (Nat.le_of_ble_eq_true rfl)) dM_join_26 (by rw [← hR]; exact ⟨Nat.le_of_ble_eq_true rfl, Nat.le_of_ble_eq_true rfl⟩)) hS (fun H locs hz hM hS => ?_)
  refine lv_lstore hx hb dM_join_29 hl (by decide) rfl (fun ls hl => ?_)
  have hl : lv_has ls 13 [(9, .long (lN (bm_p d ^ (bm_q d - 2) % bm_q d))), (7, .long (lN (bm_q d))), (5, .long (lN (bm_p d))), (0, .long (lN x)), (2, .long (lN y)), (4, .int (nI d))] := hl
  refine lv_lload_n hx hb dM_join_31 rfl (lv_at hl 4 rfl) ?_
  refine lv_lload_n hx hb dM_join_32 rfl (lv_at hl 3 rfl) ?_
  refine lv_lsub hx hb dM_join_33 ?_
  refine lv_lload hx hb dM_join_34 (lv_at hl 1 rfl) ?_
  refine lv_lrem hx hb dM_join_36 (bm_lN_ne (by omega) (by omega)) ?_
  refine lv_lload hx hb dM_join_37 (lv_at hl 1 rfl) ?_
  refine lv_ladd hx hb dM_join_39 ?_
  refine lv_lload hx hb dM_join_40 (lv_at hl 1 rfl) ?_
  refine lv_lrem hx hb dM_join_42 (bm_lN_ne (by omega) (by omega)) ?_
  refine lv_topl (fun t2 e_t2 => ?_)
  have e_t2 : t2 = lN (bm_fm (bm_q d) x y) := by rw [e_t2]; exact bm_fm_model (by omega) (by omega) (by omega) (by omega)
  subst e_t2
  refine lv_lload hx hb dM_join_43 (lv_at hl 0 rfl) ?_
  refine lv_lmul hx hb dM_join_45 ?_
  refine lv_lload hx hb dM_join_46 (lv_at hl 1 rfl) ?_
  refine lv_lrem hx hb dM_join_48 (bm_lN_ne (by omega) (by omega)) ?_
  have hfm : bm_fm (bm_q d) x y < bm_q d := bm_fm_lt (by omega)
  have hiv : bm_p d ^ (bm_q d - 2) % bm_q d < bm_q d := Nat.mod_lt _ (by omega)
  refine lv_topl (fun t3 e_t3 => ?_)
  have e_t3 : t3 = lN (bm_fm (bm_q d) x y * (bm_p d ^ (bm_q d - 2) % bm_q d) % bm_q d) := by rw [e_t3]; rw [lN_mul, pk_lRem (bm_mul_lt hfm hiv (by omega)) (by omega) (by omega)]
  subst e_t3
  refine lv_lstore hx hb dM_join_49 hl (by decide) rfl (fun ls hl => ?_)
  have hl : lv_has ls 13 [(11, .long (lN (bm_fm (bm_q d) x y * (bm_p d ^ (bm_q d - 2) % bm_q d) % bm_q d))), (9, .long (lN (bm_p d ^ (bm_q d - 2) % bm_q d))), (7, .long (lN (bm_q d))), (5, .long (lN (bm_p d))), (0, .long (lN x)), (2, .long (lN y)), (4, .int (nI d))] := hl
  refine lv_lload_n hx hb dM_join_51 rfl (lv_at hl 4 rfl) ?_
  refine lv_lload hx hb dM_join_52 (lv_at hl 3 rfl) ?_
  refine lv_lload hx hb dM_join_54 (lv_at hl 0 rfl) ?_
  refine lv_lmul hx hb dM_join_56 ?_
  refine lv_ladd hx hb dM_join_57 ?_
  refine lv_topl (fun t4 e_t4 => ?_)
  have e_t4 : t4 = lN (bm_jd d x y) := by rw [e_t4]; rw [lN_mul, lN_add]; rfl
  subst e_t4
  exact bm_lret hQ hx hb hr hlk hM hS ⟨rfl, rfl, hz⟩ (Nat.le_refl _) (Nat.le_refl _) dM_join_58
set_option maxHeartbeats 4000000 in
set_option maxRecDepth 100000 in
theorem bc_M_undo (l : Launch) (D : va_G) (ct : Nat → ClassId) (base : Nat) (ad : Nat → Nat) (M : bm_Map) (sz : Nat) (q k0 : Nat) (hk1 : k0 < 17) (hz0 : (1 + k0 * (q - 1)) % 17 = 0) (hlo : ∀ k, k < k0 → (1 + k * (q - 1)) % 17 ≠ 0) (hq1 : 1 < q) (hq2 : q < 2 ^ 30) : Met l yM_undo (bm_ws yM_undo cM_undo 4 (some .long)) { frames := 0, cells := 0, slots := 0, locals := 0 } (bm_Pre D ct base ad M sz [.long (lN q)]) (bm_Post D base (bm_Is (some (.long (lN (bm_u k0 q)))) M sz)) 0 0 (bm_A base) := by
  refine bm_ofB (cc := cM_undo) (maxL := 4) (ret := (some .long)) (by decide +kernel) (Nat.le_of_ble_eq_true rfl) ?_
  intro vp ve s vm args below meth vc hx hb hr hlk hts hown hml hnm ls hl hz hM hG R Q hR hQ
  have hown : s.vm.findClass "BlindMintModel" = some vm.cls := hown
  have hK := hG.K
  have hS : va_S (bm_A base) s.heap s.heap [] := va_S.rf
  have hl : lv_has ls 4 [(0, .long (lN q))] := hl
  refine lv_lconst (v := 0) hx hb dM_undo_0 (by decide) ?_
  refine lv_topl (fun t1 e_t1 => ?_)
  have e_t1 : t1 = lN 0 := by rw [e_t1]; rfl
  subst e_t1
  refine lv_lstore_n hx hb dM_undo_1 rfl hl (by decide) rfl (fun ls hl => ?_)
  have hl : lv_has ls 4 [(2, .long (lN 0)), (0, .long (lN q))] := hl
  have hl : lv_has ls 4 [(0, .long (lN q)), (2, .long (lN 0))] := lv_sub hl [1, 0] rfl
  have loop : ∀ (n : Nat) (k : Nat) (ls : Array Slot) (H : Heap) (locs : List Loc), k + n = k0 → lv_has ls 4 [(0, .long (lN q)), (2, .long (lN k))] → H.size = sz → bm_M D base M H → va_S (bm_A base) s.heap H locs → W vp l ve R s vm args below meth vc H locs 0 0 Q (F0 vm 2 ls []) := by
    intro n
    induction n with
    | zero =>
      intro k ls H locs hk hl hz hM hS
      obtain rfl : k = k0 := by omega
      have hkq : k * (q - 1) ≤ 16 * 2 ^ 30 := Nat.mul_le_mul (by omega) (by omega)
      refine lv_lconst (v := 1) hx hb dM_undo_2 (by decide) ?_
      refine lv_lload_n hx hb dM_undo_3 rfl (lv_at hl 1 rfl) ?_
      refine lv_lload_n hx hb dM_undo_4 rfl (lv_at hl 0 rfl) ?_
      refine lv_lconst (v := 1) hx hb dM_undo_5 (by decide) ?_
      refine lv_lsub hx hb dM_undo_6 ?_
      refine lv_lmul hx hb dM_undo_7 ?_
      refine lv_ladd hx hb dM_undo_8 ?_
      refine lv_topl (fun t2 e_t2 => ?_)
      have e_t2 : t2 = lN (1 + k * (q - 1)) := by rw [e_t2]; rw [show (lN q - 1 : Int64) = lN (q - 1) from lN_sub (b := 1) (by omega), lN_mul]; exact lN_add 1 _
      subst e_t2
      refine lv_ldc2 hx hb hown (hts _ bw_738) dM_undo_9 ?_
      refine lv_lrem hx hb dM_undo_12 (by decide) ?_
      refine lv_topl (fun t3 e_t3 => ?_)
      have e_t3 : t3 = lN ((1 + k * (q - 1)) % 17) := by rw [e_t3]; exact pk_lRem (b := 17) (by omega) (by decide) (by decide)
      subst e_t3
      refine lv_lconst (v := 0) hx hb dM_undo_13 (by decide) ?_
      refine W.lcmp hx hb dM_undo_14 ?_
      refine lv_if_eq (tgt := 25) hx hb dM_undo_15 rfl (fun h15 => ?_) (fun h15 => absurd (by rw [hz0]; decide) h15)
      refine lv_lconst (v := 1) hx hb dM_undo_25 (by decide) ?_
      refine lv_lload_n hx hb dM_undo_26 rfl (lv_at hl 1 rfl) ?_
      refine lv_lload_n hx hb dM_undo_27 rfl (lv_at hl 0 rfl) ?_
      refine lv_lconst (v := 1) hx hb dM_undo_28 (by decide) ?_
      refine lv_lsub hx hb dM_undo_29 ?_
      refine lv_lmul hx hb dM_undo_30 ?_
      refine lv_ladd hx hb dM_undo_31 ?_
      refine lv_topl (fun t4 e_t4 => ?_)
      have e_t4 : t4 = lN (1 + k * (q - 1)) := by rw [e_t4]; rw [show (lN q - 1 : Int64) = lN (q - 1) from lN_sub (b := 1) (by omega), lN_mul]; exact lN_add 1 _
      subst e_t4
      refine lv_ldc2 hx hb hown (hts _ bw_738) dM_undo_32 ?_
      refine lv_ldiv hx hb dM_undo_35 (by decide) ?_
      refine lv_topl (fun t5 e_t5 => ?_)
      have e_t5 : t5 = lN (bm_u k q) := by rw [e_t5]; exact pk_lDiv (b := 17) (by omega) (by decide) (by decide)
      subst e_t5
      exact bm_lret hQ hx hb hr hlk hM hS ⟨rfl, rfl, hz⟩ (Nat.le_refl _) (Nat.le_refl _) dM_undo_36
    | succ n ih =>
      intro k ls H locs hk hl hz hM hS
      have hkq : k * (q - 1) ≤ 16 * 2 ^ 30 := Nat.mul_le_mul (by omega) (by omega)
      refine lv_lconst (v := 1) hx hb dM_undo_2 (by decide) ?_
      refine lv_lload_n hx hb dM_undo_3 rfl (lv_at hl 1 rfl) ?_
      refine lv_lload_n hx hb dM_undo_4 rfl (lv_at hl 0 rfl) ?_
      refine lv_lconst (v := 1) hx hb dM_undo_5 (by decide) ?_
      refine lv_lsub hx hb dM_undo_6 ?_
      refine lv_lmul hx hb dM_undo_7 ?_
      refine lv_ladd hx hb dM_undo_8 ?_
      refine lv_topl (fun t6 e_t6 => ?_)
      have e_t6 : t6 = lN (1 + k * (q - 1)) := by rw [e_t6]; rw [show (lN q - 1 : Int64) = lN (q - 1) from lN_sub (b := 1) (by omega), lN_mul]; exact lN_add 1 _
      subst e_t6
      refine lv_ldc2 hx hb hown (hts _ bw_738) dM_undo_9 ?_
      refine lv_lrem hx hb dM_undo_12 (by decide) ?_
      refine lv_topl (fun t7 e_t7 => ?_)
      have e_t7 : t7 = lN ((1 + k * (q - 1)) % 17) := by rw [e_t7]; exact pk_lRem (b := 17) (by omega) (by decide) (by decide)
      subst e_t7
      refine lv_lconst (v := 0) hx hb dM_undo_13 (by decide) ?_
      refine W.lcmp hx hb dM_undo_14 ?_
      refine lv_if_eq (tgt := 25) hx hb dM_undo_15 rfl (fun h15 => absurd ((lg_cmp_eq _ _).mp h15) (bm_lN_ne (by have := hlo k (by omega); omega) (by omega))) (fun h15 => ?_)
      refine lv_lload_n hx hb dM_undo_18 rfl (lv_at hl 1 rfl) ?_
      refine lv_lconst (v := 1) hx hb dM_undo_19 (by decide) ?_
      refine lv_ladd hx hb dM_undo_20 ?_
      refine lv_topl (fun t8 e_t8 => ?_)
      have e_t8 : t8 = lN (k + 1) := by rw [e_t8]; exact lN_1 k
      subst e_t8
      refine lv_lstore_n hx hb dM_undo_21 rfl hl (by decide) rfl (fun ls hl => ?_)
      have hl : lv_has ls 4 [(2, .long (lN (k + 1))), (0, .long (lN q))] := hl
      refine lv_goto (tgt := 2) hx hb dM_undo_22 rfl ?_
      have hl : lv_has ls 4 [(0, .long (lN q)), (2, .long (lN (k + 1)))] := lv_sub hl [1, 0] rfl
      exact ih (k + 1) ls _ _ (by omega) hl hz hM hS
  exact loop k0 0 ls _ _ (by omega) hl hz hM hS
set_option maxHeartbeats 4000000 in
set_option maxRecDepth 100000 in
theorem bc_M_signed (l : Launch) (D : va_G) (ct : Nat → ClassId) (base : Nat) (ad : Nat → Nat) (M : bm_Map) (sz : Nat) (d k : Nat) (hd : d < 3) (hk1 : k < 2 ^ 62) : Met l yM_signed (bm_ws yM_signed cM_signed 7 (some .long)) { frames := 2, cells := 0, slots := 0, locals := 63 } (bm_Pre D ct base ad M sz [.long (lN k), .int (nI d)]) (bm_Post D base (bm_Is (some (.long (lN (bm_sg d k)))) M sz)) 0 0 (bm_A base) := by
  refine bm_ofB (cc := cM_signed) (maxL := 7) (ret := (some .long)) (by decide +kernel) (Nat.le_of_ble_eq_true rfl) ?_
  intro vp ve s vm args below meth vc hx hb hr hlk hts hown hml hnm ls hl hz hM hG R Q hR hQ
  have hown : s.vm.findClass "BlindMintModel" = some vm.cls := hown
  have hK := hG.K
  have hS : va_S (bm_A base) s.heap s.heap [] := va_S.rf
  have hl : lv_has ls 7 [(0, .long (lN k)), (2, .int (nI d))] := hl
  have hpb := bm_pb d
  have hqb := bm_qb d
  refine lv_iload_n hx hb dM_signed_0 rfl (lv_at hl 1 rfl) ?_
  refine lv_iconst (v := 0) hx hb dM_signed_1 (by decide) ?_
  refine bm_callE (va_runS (As := [.int (nI d), .int 0]) (rest := []) ⟨hx, hb, hml, hown, hts⟩ (bc_M_factor_p l D ct base ad M sz d hd) (va_cwS 2 hts (bm_goodS bw_726 bw_727 bw_5 bw_728) rfl rfl rfl (by decide +kernel) (by rw [← hR]; exact ⟨Nat.le_of_ble_eq_true rfl, Nat.le_of_ble_eq_true rfl⟩)) (bm_preS hM hG hS hz) rfl rfl hl.1 rfl (lv_room (Nat.le_of_ble_eq_true rfl)) dM_signed_2 (by rw [← hR]; exact ⟨Nat.le_of_ble_eq_true rfl, Nat.le_of_ble_eq_true rfl⟩)) hS (fun H locs hz hM hS => ?_)
  refine lv_lstore_n hx hb dM_signed_5 rfl hl (by decide) rfl (fun ls hl => ?_)
  have hl : lv_has ls 7 [(3, .long (lN (bm_p d))), (0, .long (lN k)), (2, .int (nI d))] := hl
  refine lv_iload_n hx hb dM_signed_6 rfl (lv_at hl 2 rfl) ?_
  refine lv_iconst (v := 1) hx hb dM_signed_7 (by decide) ?_
  refine bm_callE (va_runS (As := [.int (nI d), .int 1]) (rest := []) ⟨hx, hb, hml, hown, hts⟩ (bc_M_factor_q l D ct base ad M sz d hd) (va_cwS 2 hts (bm_goodS bw_726 bw_727 bw_5 bw_728) rfl rfl rfl (by decide +kernel) (by rw [← hR]; exact ⟨Nat.le_of_ble_eq_true rfl, Nat.le_of_ble_eq_true rfl⟩)) (bm_preS hM hG hS hz) rfl rfl hl.1 rfl (lv_room (Nat.le_of_ble_eq_true rfl)) dM_signed_8 (by rw [← hR]; exact ⟨Nat.le_of_ble_eq_true rfl, Nat.le_of_ble_eq_true rfl⟩)) hS (fun H locs hz hM hS => ?_)
  refine lv_lstore hx hb dM_signed_11 hl (by decide) rfl (fun ls hl => ?_)
  have hl : lv_has ls 7 [(5, .long (lN (bm_q d))), (3, .long (lN (bm_p d))), (0, .long (lN k)), (2, .int (nI d))] := hl
  refine lv_lload_n hx hb dM_signed_13 rfl (lv_at hl 2 rfl) ?_
  refine lv_lload_n hx hb dM_signed_14 rfl (lv_at hl 1 rfl) ?_
  refine bm_callE (va_runS (As := [.long (lN (bm_p d))]) (rest := [.long (lN k)]) ⟨hx, hb, hml, hown, hts⟩ (bc_M_undo l D ct base ad M sz (bm_p d) (bm_kp d) (bm_up_ok d).2.2.1 (bm_up_ok d).2.2.2.2.1 (bm_up_ok d).2.2.2.2.2 (by omega) (by omega)) (va_cwS 1 hts (bm_goodS bw_735 bw_736 bw_5 bw_737) rfl rfl rfl (by decide +kernel) (by rw [← hR]; exact ⟨Nat.le_of_ble_eq_true rfl, Nat.le_of_ble_eq_true rfl⟩)) (bm_preS hM hG hS hz) rfl rfl hl.1 rfl (lv_room (Nat.le_of_ble_eq_true rfl)) dM_signed_15 (by rw [← hR]; exact ⟨Nat.le_of_ble_eq_true rfl, Nat.le_of_ble_eq_true rfl⟩)) hS (fun H locs hz hM hS => ?_)
  refine lv_lload_n hx hb dM_signed_18 rfl (lv_at hl 1 rfl) ?_
  have hu_bm_p := (bm_up_ok d).2.2.2.1
  refine bm_callE (va_runS (As := [.long (lN k), .long (lN (bm_u (bm_kp d) (bm_p d))), .long (lN (bm_p d))]) (rest := []) ⟨hx, hb, hml, hown, hts⟩ (bc_M_power l D ct base ad M sz k (bm_u (bm_kp d) (bm_p d)) (bm_p d) (by omega) (by omega) (by omega) (by omega)) (va_cwS 3 hts (bm_goodS bw_739 bw_740 bw_5 bw_741) rfl rfl rfl (by decide +kernel) (by rw [← hR]; exact ⟨Nat.le_of_ble_eq_true rfl, Nat.le_of_ble_eq_true rfl⟩)) (bm_preS hM hG hS hz) rfl rfl hl.1 rfl (lv_room (Nat.le_of_ble_eq_true rfl)) dM_signed_19 (by rw [← hR]; exact ⟨Nat.le_of_ble_eq_true rfl, Nat.le_of_ble_eq_true rfl⟩)) hS (fun H locs hz hM hS => ?_)
  refine lv_lload_n hx hb dM_signed_22 rfl (lv_at hl 2 rfl) ?_
  refine lv_lload hx hb dM_signed_23 (lv_at hl 0 rfl) ?_
  refine bm_callE (va_runS (As := [.long (lN (bm_q d))]) (rest := [.long (lN k), .long (lN (k ^ bm_u (bm_kp d) (bm_p d) % bm_p d))]) ⟨hx, hb, hml, hown, hts⟩ (bc_M_undo l D ct base ad M sz (bm_q d) (bm_kq d) (bm_uq_ok d).2.2.1 (bm_uq_ok d).2.2.2.2.1 (bm_uq_ok d).2.2.2.2.2 (by omega) (by omega)) (va_cwS 1 hts (bm_goodS bw_735 bw_736 bw_5 bw_737) rfl rfl rfl (by decide +kernel) (by rw [← hR]; exact ⟨Nat.le_of_ble_eq_true rfl, Nat.le_of_ble_eq_true rfl⟩)) (bm_preS hM hG hS hz) rfl rfl hl.1 rfl (lv_room (Nat.le_of_ble_eq_true rfl)) dM_signed_25 (by rw [← hR]; exact ⟨Nat.le_of_ble_eq_true rfl, Nat.le_of_ble_eq_true rfl⟩)) hS (fun H locs hz hM hS => ?_)
  refine lv_lload hx hb dM_signed_28 (lv_at hl 0 rfl) ?_
  have hu_bm_q := (bm_uq_ok d).2.2.2.1
  refine bm_callE (va_runS (As := [.long (lN k), .long (lN (bm_u (bm_kq d) (bm_q d))), .long (lN (bm_q d))]) (rest := [.long (lN (k ^ bm_u (bm_kp d) (bm_p d) % bm_p d))]) ⟨hx, hb, hml, hown, hts⟩ (bc_M_power l D ct base ad M sz k (bm_u (bm_kq d) (bm_q d)) (bm_q d) (by omega) (by omega) (by omega) (by omega)) (va_cwS 3 hts (bm_goodS bw_739 bw_740 bw_5 bw_741) rfl rfl rfl (by decide +kernel) (by rw [← hR]; exact ⟨Nat.le_of_ble_eq_true rfl, Nat.le_of_ble_eq_true rfl⟩)) (bm_preS hM hG hS hz) rfl rfl hl.1 rfl (lv_room (Nat.le_of_ble_eq_true rfl)) dM_signed_30 (by rw [← hR]; exact ⟨Nat.le_of_ble_eq_true rfl, Nat.le_of_ble_eq_true rfl⟩)) hS (fun H locs hz hM hS => ?_)
  refine lv_iload_n hx hb dM_signed_33 rfl (lv_at hl 3 rfl) ?_
  have hm1 : k ^ bm_u (bm_kp d) (bm_p d) % bm_p d < bm_p d := Nat.mod_lt _ (by omega)
  have hm2 : k ^ bm_u (bm_kq d) (bm_q d) % bm_q d < bm_q d := Nat.mod_lt _ (by omega)
  refine bm_callE (va_runS (As := [.long (lN (k ^ bm_u (bm_kp d) (bm_p d) % bm_p d)), .long (lN (k ^ bm_u (bm_kq d) (bm_q d) % bm_q d)), .int (nI d)]) (rest := []) ⟨hx, hb, hml, hown, hts⟩ (bc_M_join l D ct base ad M sz d (k ^ bm_u (bm_kp d) (bm_p d) % bm_p d) (k ^ bm_u (bm_kq d) (bm_q d) % bm_q d) hd (by omega) (by omega)) (va_cwS 3 hts (bm_goodS bw_742 bw_743 bw_5 bw_744) rfl rfl rfl (by decide +kernel) (by rw [← hR]; exact ⟨Nat.le_of_ble_eq_true rfl, Nat.le_of_ble_eq_true rfl⟩)) (bm_preS hM hG hS hz) rfl rfl hl.1 rfl (lv_room (Nat.le_of_ble_eq_true rfl)) dM_signed_34 (by rw [← hR]; exact ⟨Nat.le_of_ble_eq_true rfl, Nat.le_of_ble_eq_true rfl⟩)) hS (fun H locs hz hM hS => ?_)
  exact bm_lret hQ hx hb hr hlk hM hS ⟨rfl, rfl, hz⟩ (Nat.le_refl _) (Nat.le_refl _) dM_signed_37
set_option maxHeartbeats 4000000 in
set_option maxRecDepth 100000 in
theorem bc_M_isSignature (l : Launch) (D : va_G) (ct : Nat → ClassId) (base : Nat) (ad : Nat → Nat) (M : bm_Map) (sz : Nat) (d : Nat) (x : Int64) (k : Nat) (hd : d < 3) (hk1 : k < 2 ^ 62) : Met l yM_isSignature (bm_ws yM_isSignature cM_isSignature 9 (some .boolean)) { frames := 1, cells := 0, slots := 0, locals := 31 } (bm_Pre D ct base ad M sz [.long x, .long (lN k), .int (nI d)]) (bm_Post D base (bm_Is (some (.int (bm_is d x k))) M sz)) 0 0 (bm_A base) := by
  refine bm_ofB (cc := cM_isSignature) (maxL := 9) (ret := (some .boolean)) (by decide +kernel) (Nat.le_of_ble_eq_true rfl) ?_
  intro vp ve s vm args below meth vc hx hb hr hlk hts hown hml hnm ls hl hz hM hG R Q hR hQ
  have hown : s.vm.findClass "BlindMintModel" = some vm.cls := hown
  have hK := hG.K
  have hS : va_S (bm_A base) s.heap s.heap [] := va_S.rf
  have hl : lv_has ls 9 [(0, .long x), (2, .long (lN k)), (4, .int (nI d))] := hl
  have hpb := bm_pb d
  have hqb := bm_qb d
  refine lv_iload hx hb dM_isSignature_0 (lv_at hl 2 rfl) ?_
  refine lv_iconst (v := 0) hx hb dM_isSignature_2 (by decide) ?_
  refine bm_callE (va_runS (As := [.int (nI d), .int 0]) (rest := []) ⟨hx, hb, hml, hown, hts⟩ (bc_M_factor_p l D ct base ad M sz d hd) (va_cwS 2 hts (bm_goodS bw_726 bw_727 bw_5 bw_728) rfl rfl rfl (by decide +kernel) (by rw [← hR]; exact ⟨Nat.le_of_ble_eq_true rfl, Nat.le_of_ble_eq_true rfl⟩)) (bm_preS hM hG hS hz) rfl rfl hl.1 rfl (lv_room (Nat.le_of_ble_eq_true rfl)) dM_isSignature_3 (by rw [← hR]; exact ⟨Nat.le_of_ble_eq_true rfl, Nat.le_of_ble_eq_true rfl⟩)) hS (fun H locs hz hM hS => ?_)
  refine lv_lstore hx hb dM_isSignature_6 hl (by decide) rfl (fun ls hl => ?_)
  have hl : lv_has ls 9 [(5, .long (lN (bm_p d))), (0, .long x), (2, .long (lN k)), (4, .int (nI d))] := hl
  refine lv_iload hx hb dM_isSignature_8 (lv_at hl 3 rfl) ?_
  refine lv_iconst (v := 1) hx hb dM_isSignature_10 (by decide) ?_
  refine bm_callE (va_runS (As := [.int (nI d), .int 1]) (rest := []) ⟨hx, hb, hml, hown, hts⟩ (bc_M_factor_q l D ct base ad M sz d hd) (va_cwS 2 hts (bm_goodS bw_726 bw_727 bw_5 bw_728) rfl rfl rfl (by decide +kernel) (by rw [← hR]; exact ⟨Nat.le_of_ble_eq_true rfl, Nat.le_of_ble_eq_true rfl⟩)) (bm_preS hM hG hS hz) rfl rfl hl.1 rfl (lv_room (Nat.le_of_ble_eq_true rfl)) dM_isSignature_11 (by rw [← hR]; exact ⟨Nat.le_of_ble_eq_true rfl, Nat.le_of_ble_eq_true rfl⟩)) hS (fun H locs hz hM hS => ?_)
  refine lv_lstore hx hb dM_isSignature_14 hl (by decide) rfl (fun ls hl => ?_)
  have hl : lv_has ls 9 [(7, .long (lN (bm_q d))), (5, .long (lN (bm_p d))), (0, .long x), (2, .long (lN k)), (4, .int (nI d))] := hl
  refine lv_lload_n hx hb dM_isSignature_16 rfl (lv_at hl 2 rfl) ?_
  refine lv_lconst (v := 0) hx hb dM_isSignature_17 (by decide) ?_
  refine W.lcmp hx hb dM_isSignature_18 ?_
  refine lv_if_lt (tgt := 70) hx hb dM_isSignature_19 rfl (fun h19 => ?_) (fun h19 => ?_)
  · rw [lg_cmp_lt] at h19
    refine lv_iconst (v := 0) hx hb dM_isSignature_70 (by decide) ?_
    exact bm_zret hQ hx hb hr hlk (by decide) hM hS ⟨by first | exact congrArg (fun z => some (Value.int z)) (if_pos (Or.inl h19) : bm_is d x k = 0).symm | exact congrArg (fun z => some (Value.int z)) (if_pos (Or.inr (Or.inl h29)) : bm_is d x k = 0).symm | exact congrArg (fun z => some (Value.int z)) (if_pos (Or.inr (Or.inr (Or.inl (bm_cmpNE h46)))) : bm_is d x k = 0).symm | exact congrArg (fun z => some (Value.int z)) (if_pos (Or.inr (Or.inr (Or.inr (bm_cmpNE h63)))) : bm_is d x k = 0).symm, rfl, hz⟩ (Nat.le_refl _) (Nat.le_refl _) dM_isSignature_71
  · rw [lg_cmp_lt] at h19
    obtain ⟨hn1, hn2⟩ := bm_is_n h19
    refine lv_lload_n hx hb dM_isSignature_22 rfl (lv_at hl 2 rfl) ?_
    refine lv_lload hx hb dM_isSignature_23 (lv_at hl 1 rfl) ?_
    refine lv_lload hx hb dM_isSignature_25 (lv_at hl 0 rfl) ?_
    refine lv_lmul hx hb dM_isSignature_27 ?_
    refine lv_topl (fun t1 e_t1 => ?_)
    have e_t1 : t1 = lN (bm_p d * bm_q d) := by rw [e_t1]; rw [lN_mul]
    subst e_t1
    refine W.lcmp hx hb dM_isSignature_28 ?_
    refine lv_if_ge (tgt := 70) hx hb dM_isSignature_29 rfl (fun h29 => ?_) (fun h29 => ?_)
    · rw [lg_cmp_ge] at h29
      refine lv_iconst (v := 0) hx hb dM_isSignature_70 (by decide) ?_
      exact bm_zret hQ hx hb hr hlk (by decide) hM hS ⟨by first | exact congrArg (fun z => some (Value.int z)) (if_pos (Or.inl h19) : bm_is d x k = 0).symm | exact congrArg (fun z => some (Value.int z)) (if_pos (Or.inr (Or.inl h29)) : bm_is d x k = 0).symm | exact congrArg (fun z => some (Value.int z)) (if_pos (Or.inr (Or.inr (Or.inl (bm_cmpNE h46)))) : bm_is d x k = 0).symm | exact congrArg (fun z => some (Value.int z)) (if_pos (Or.inr (Or.inr (Or.inr (bm_cmpNE h63)))) : bm_is d x k = 0).symm, rfl, hz⟩ (Nat.le_refl _) (Nat.le_refl _) dM_isSignature_71
    · rw [lg_cmp_ge] at h29
      refine lv_lload_n hx hb dM_isSignature_32 rfl (lv_at hl 2 rfl) ?_
      refine lv_topl (fun t2 e_t2 => ?_)
      have e_t2 : t2 = lN x.toBitVec.toNat := by rw [e_t2]; exact hn2
      subst e_t2
      refine lv_ldc2 hx hb hown (hts _ bw_738) dM_isSignature_33 ?_
      refine lv_lload hx hb dM_isSignature_36 (lv_at hl 1 rfl) ?_
      have hpwp : x.toBitVec.toNat ^ 17 % bm_p d < 2 ^ 63 := bm_mod63 (by omega) (by omega)
      refine bm_callE (va_runS (As := [.long (lN x.toBitVec.toNat), .long 17, .long (lN (bm_p d))]) (rest := []) ⟨hx, hb, hml, hown, hts⟩ (bc_M_power l D ct base ad M sz x.toBitVec.toNat 17 (bm_p d) hn1 (by decide) (by omega) (by omega)) (va_cwS 3 hts (bm_goodS bw_739 bw_740 bw_5 bw_741) rfl rfl rfl (by decide +kernel) (by rw [← hR]; exact ⟨Nat.le_of_ble_eq_true rfl, Nat.le_of_ble_eq_true rfl⟩)) (bm_preS hM hG hS hz) rfl rfl hl.1 rfl (lv_room (Nat.le_of_ble_eq_true rfl)) dM_isSignature_38 (by rw [← hR]; exact ⟨Nat.le_of_ble_eq_true rfl, Nat.le_of_ble_eq_true rfl⟩)) hS (fun H locs hz hM hS => ?_)
      refine lv_lload_n hx hb dM_isSignature_41 rfl (lv_at hl 3 rfl) ?_
      refine lv_lload hx hb dM_isSignature_42 (lv_at hl 1 rfl) ?_
      refine lv_lrem hx hb dM_isSignature_44 (bm_lN_ne (by omega) (by omega)) ?_
      refine lv_topl (fun t3 e_t3 => ?_)
      have e_t3 : t3 = lN (k % bm_p d) := by rw [e_t3]; rw [pk_lRem (by omega) (by omega) (by omega)]
      subst e_t3
      refine W.lcmp hx hb dM_isSignature_45 ?_
      refine lv_if_ne (tgt := 70) hx hb dM_isSignature_46 rfl (fun h46 => ?_) (fun h46 => ?_)
      · refine lv_iconst (v := 0) hx hb dM_isSignature_70 (by decide) ?_
        exact bm_zret hQ hx hb hr hlk (by decide) hM hS ⟨by first | exact congrArg (fun z => some (Value.int z)) (if_pos (Or.inl h19) : bm_is d x k = 0).symm | exact congrArg (fun z => some (Value.int z)) (if_pos (Or.inr (Or.inl h29)) : bm_is d x k = 0).symm | exact congrArg (fun z => some (Value.int z)) (if_pos (Or.inr (Or.inr (Or.inl (bm_cmpNE h46)))) : bm_is d x k = 0).symm | exact congrArg (fun z => some (Value.int z)) (if_pos (Or.inr (Or.inr (Or.inr (bm_cmpNE h63)))) : bm_is d x k = 0).symm, rfl, hz⟩ (Nat.le_refl _) (Nat.le_refl _) dM_isSignature_71
      · refine lv_lload_n hx hb dM_isSignature_49 rfl (lv_at hl 2 rfl) ?_
        refine lv_topl (fun t4 e_t4 => ?_)
        have e_t4 : t4 = lN x.toBitVec.toNat := by rw [e_t4]; exact hn2
        subst e_t4
        refine lv_ldc2 hx hb hown (hts _ bw_738) dM_isSignature_50 ?_
        refine lv_lload hx hb dM_isSignature_53 (lv_at hl 0 rfl) ?_
        have hpwq : x.toBitVec.toNat ^ 17 % bm_q d < 2 ^ 63 := bm_mod63 (by omega) (by omega)
        refine bm_callE (va_runS (As := [.long (lN x.toBitVec.toNat), .long 17, .long (lN (bm_q d))]) (rest := []) ⟨hx, hb, hml, hown, hts⟩ (bc_M_power l D ct base ad M sz x.toBitVec.toNat 17 (bm_q d) hn1 (by decide) (by omega) (by omega)) (va_cwS 3 hts (bm_goodS bw_739 bw_740 bw_5 bw_741) rfl rfl rfl (by decide +kernel) (by rw [← hR]; exact ⟨Nat.le_of_ble_eq_true rfl, Nat.le_of_ble_eq_true rfl⟩)) (bm_preS hM hG hS hz) rfl rfl hl.1 rfl (lv_room (Nat.le_of_ble_eq_true rfl)) dM_isSignature_55 (by rw [← hR]; exact ⟨Nat.le_of_ble_eq_true rfl, Nat.le_of_ble_eq_true rfl⟩)) hS (fun H locs hz hM hS => ?_)
        refine lv_lload_n hx hb dM_isSignature_58 rfl (lv_at hl 3 rfl) ?_
        refine lv_lload hx hb dM_isSignature_59 (lv_at hl 0 rfl) ?_
        refine lv_lrem hx hb dM_isSignature_61 (bm_lN_ne (by omega) (by omega)) ?_
        refine lv_topl (fun t5 e_t5 => ?_)
        have e_t5 : t5 = lN (k % bm_q d) := by rw [e_t5]; rw [pk_lRem (by omega) (by omega) (by omega)]
        subst e_t5
        refine W.lcmp hx hb dM_isSignature_62 ?_
        refine lv_if_ne (tgt := 70) hx hb dM_isSignature_63 rfl (fun h63 => ?_) (fun h63 => ?_)
        · refine lv_iconst (v := 0) hx hb dM_isSignature_70 (by decide) ?_
          exact bm_zret hQ hx hb hr hlk (by decide) hM hS ⟨by first | exact congrArg (fun z => some (Value.int z)) (if_pos (Or.inl h19) : bm_is d x k = 0).symm | exact congrArg (fun z => some (Value.int z)) (if_pos (Or.inr (Or.inl h29)) : bm_is d x k = 0).symm | exact congrArg (fun z => some (Value.int z)) (if_pos (Or.inr (Or.inr (Or.inl (bm_cmpNE h46)))) : bm_is d x k = 0).symm | exact congrArg (fun z => some (Value.int z)) (if_pos (Or.inr (Or.inr (Or.inr (bm_cmpNE h63)))) : bm_is d x k = 0).symm, rfl, hz⟩ (Nat.le_refl _) (Nat.le_refl _) dM_isSignature_71
        · refine lv_iconst (v := 1) hx hb dM_isSignature_66 (by decide) ?_
          refine lv_goto (tgt := 71) hx hb dM_isSignature_67 rfl ?_
          exact bm_zret hQ hx hb hr hlk (by decide) hM hS ⟨by first | exact congrArg (fun z => some (Value.int z)) (if_neg (fun q => q.elim h19 (fun q => q.elim h29 (fun q => q.elim (fun q => q (bm_cmpE hpwp (bm_mod63 (by omega) (by omega)) h46)) (fun q => q (bm_cmpE hpwq (bm_mod63 (by omega) (by omega)) h63))))) : bm_is d x k = 1).symm, rfl, hz⟩ (Nat.le_refl _) (Nat.le_refl _) dM_isSignature_71
