set_option maxHeartbeats 4000000 in
set_option maxRecDepth 100000 in
theorem bc_D_join_le (l : Launch) (D : va_G) (ct : Nat → ClassId) (base : Nat) (ad : Nat → Nat) (M : bm_Map) (sz : Nat) (d x y : Nat) (hd : d < 3) (hxy : x ≤ y) (hx1 : x < 2 ^ 30) (hy1 : y < 2 ^ 30) : bm_MG l yD_join (bm_ws yD_join cD_join 7 (some .long)) { frames := 3, cells := 0, slots := 0, locals := 77 } (bm_Pre D ct base ad M sz [.ref (ad d), .long (lN x), .long (lN y)]) (bm_Post D base (bm_Is (some (.long (lN (bm_jd d x y)))) M sz)) 0 0 (bm_A base) := by
  refine bm_ofG (cc := cD_join) (maxL := 7) (ret := (some .long)) (by decide +kernel) (Nat.le_of_ble_eq_true rfl) ?_
  intro vp ve s vm args below meth vc hx hb hr hlk hts hown hml hnm ls hl hz hM hG R Q hR hQ
  have hown : s.vm.findClass "BlindMint$Denomination" = some vm.cls := hown
  have hK := hG.K
  have hS : va_S (bm_A base) s.heap s.heap [] := va_S.rf
  have hl : lv_has ls 7 [(0, .ref (ad d)), (1, .long (lN x)), (3, .long (lN y))] := hl
  have hpb := bm_pb d
  have hqb := bm_qb d
  refine lv_lload_n hx hb dD_join_0 rfl (lv_at hl 2 rfl) ?_
  refine lv_lload_n hx hb dD_join_1 rfl (lv_at hl 1 rfl) ?_
  refine lv_lsub hx hb dD_join_2 ?_
  refine lv_topl (fun t1 e_t1 => ?_)
  have e_t1 : t1 = lN (y - x) := by rw [e_t1]; exact lN_sub hxy
  subst e_t1
  refine lv_aload_n hx hb dD_join_3 rfl (lv_at hl 0 rfl) ?_
  refine va_getX (i := d) hx hb hG.2.2.2.2.2.2.2.2.1 (by omega) hS hown (hts _ bw_837) (fun _ h9 => h9) dD_join_4 ?_
  refine bm_callE (va_runS (As := [.long (lN (y - x)), .long (lN (bm_q d))]) (rest := []) ⟨hx, hb, hml, hown, hts⟩ (bc_J_floorMod_le l D ct base ad M sz (y - x) (bm_q d) (by omega) (by omega) (by omega)) (va_cwS 2 hts (bm_goodS bw_383 bw_384 bw_13 bw_385) rfl rfl rfl (by decide +kernel) (by rw [← hR]; exact ⟨Nat.le_of_ble_eq_true rfl, Nat.le_of_ble_eq_true rfl⟩)) (bm_preS hM hG hS hz) rfl rfl hl.1 rfl (lv_room (Nat.le_of_ble_eq_true rfl)) dD_join_7 (by rw [← hR]; exact ⟨Nat.le_of_ble_eq_true rfl, Nat.le_of_ble_eq_true rfl⟩)) hS (fun H locs hz hM hS => ?_)
  refine lv_topl (fun t2 e_t2 => ?_)
  have e_t2 : t2 = lN (bm_fm (bm_q d) x y) := by rw [e_t2]; rw [bm_fm_le (by omega) hxy]
  subst e_t2
  refine lv_aload_n hx hb dD_join_10 rfl (lv_at hl 0 rfl) ?_
  refine va_getX (i := d) hx hb hG.2.2.2.2.2.2.2.1 (by omega) hS hown (hts _ bw_836) (fun _ h9 => h9) dD_join_11 ?_
  refine lv_aload_n hx hb dD_join_14 rfl (lv_at hl 0 rfl) ?_
  refine va_getX (i := d) hx hb hG.2.2.2.2.2.2.2.2.1 (by omega) hS hown (hts _ bw_837) (fun _ h9 => h9) dD_join_15 ?_
  have hfm : bm_fm (bm_q d) x y < bm_q d := bm_fm_lt (by omega)
  refine bm_callE (va_runS (As := [.long (lN (bm_fm (bm_q d) x y)), .long (lN (bm_p d)), .long (lN (bm_q d))]) (rest := []) ⟨hx, hb, hml, hown, hts⟩ (bc_F_divide l D ct base ad M sz (bm_fm (bm_q d) x y) (bm_p d) (bm_q d) (by omega) (by omega) (by omega) (by omega)) (va_cwS 3 hts (bm_goodS bw_386 bw_387 bw_12 bw_388) rfl rfl rfl (by decide +kernel) (by rw [← hR]; exact ⟨Nat.le_of_ble_eq_true rfl, Nat.le_of_ble_eq_true rfl⟩)) (bm_preS hM hG hS hz) rfl rfl hl.1 rfl (lv_room (Nat.le_of_ble_eq_true rfl)) dD_join_18 (by rw [← hR]; exact ⟨Nat.le_of_ble_eq_true rfl, Nat.le_of_ble_eq_true rfl⟩)) hS (fun H locs hz hM hS => ?_)
  refine lv_topl (fun t3 e_t3 => ?_)
  have e_t3 : t3 = lN (bm_fm (bm_q d) x y * (bm_p d ^ (bm_q d - 2) % bm_q d) % bm_q d) := by rw [e_t3]; rw [bm_fm_steps]
  subst e_t3
  refine lv_lstore hx hb dD_join_21 hl (by decide) rfl (fun ls hl => ?_)
  have hl : lv_has ls 7 [(5, .long (lN (bm_fm (bm_q d) x y * (bm_p d ^ (bm_q d - 2) % bm_q d) % bm_q d))), (0, .ref (ad d)), (1, .long (lN x)), (3, .long (lN y))] := hl
  refine lv_lload_n hx hb dD_join_23 rfl (lv_at hl 2 rfl) ?_
  refine lv_aload_n hx hb dD_join_24 rfl (lv_at hl 1 rfl) ?_
  refine va_getX (i := d) hx hb hG.2.2.2.2.2.2.2.1 (by omega) hS hown (hts _ bw_836) (fun _ h9 => h9) dD_join_25 ?_
  refine lv_lload hx hb dD_join_28 (lv_at hl 0 rfl) ?_
  refine lv_lmul hx hb dD_join_30 ?_
  refine lv_ladd hx hb dD_join_31 ?_
  refine lv_topl (fun t4 e_t4 => ?_)
  have e_t4 : t4 = lN (bm_jd d x y) := by rw [e_t4]; rw [lN_mul, lN_add]; rfl
  subst e_t4
  exact bm_lret hQ hx hb hr hlk hM hS ⟨rfl, rfl, hz⟩ (Nat.le_refl _) (Nat.le_refl _) dD_join_32
set_option maxHeartbeats 4000000 in
set_option maxRecDepth 100000 in
theorem bc_D_join_gt (l : Launch) (D : va_G) (ct : Nat → ClassId) (base : Nat) (ad : Nat → Nat) (M : bm_Map) (sz : Nat) (d x y : Nat) (hd : d < 3) (hxy : y < x) (hx1 : x < 2 ^ 30) (hy1 : y < 2 ^ 30) : bm_MG l yD_join (bm_ws yD_join cD_join 7 (some .long)) { frames := 3, cells := 0, slots := 0, locals := 77 } (bm_Pre D ct base ad M sz [.ref (ad d), .long (lN x), .long (lN y)]) (bm_Post D base (bm_Is (some (.long (lN (bm_jd d x y)))) M sz)) 0 0 (bm_A base) := by
  refine bm_ofG (cc := cD_join) (maxL := 7) (ret := (some .long)) (by decide +kernel) (Nat.le_of_ble_eq_true rfl) ?_
  intro vp ve s vm args below meth vc hx hb hr hlk hts hown hml hnm ls hl hz hM hG R Q hR hQ
  have hown : s.vm.findClass "BlindMint$Denomination" = some vm.cls := hown
  have hK := hG.K
  have hS : va_S (bm_A base) s.heap s.heap [] := va_S.rf
  have hl : lv_has ls 7 [(0, .ref (ad d)), (1, .long (lN x)), (3, .long (lN y))] := hl
  have hpb := bm_pb d
  have hqb := bm_qb d
  refine lv_lload_n hx hb dD_join_0 rfl (lv_at hl 2 rfl) ?_
  refine lv_lload_n hx hb dD_join_1 rfl (lv_at hl 1 rfl) ?_
  refine lv_lsub hx hb dD_join_2 ?_
  refine lv_topl (fun t1 e_t1 => ?_)
  have e_t1 : t1 = -(lN (x - y)) := by rw [e_t1]; exact bm_sub_neg hxy
  subst e_t1
  refine lv_aload_n hx hb dD_join_3 rfl (lv_at hl 0 rfl) ?_
  refine va_getX (i := d) hx hb hG.2.2.2.2.2.2.2.2.1 (by omega) hS hown (hts _ bw_837) (fun _ h9 => h9) dD_join_4 ?_
  refine bm_callE (va_runS (As := [.long (-(lN (x - y))), .long (lN (bm_q d))]) (rest := []) ⟨hx, hb, hml, hown, hts⟩ (bc_J_floorMod_gt l D ct base ad M sz (x - y) (bm_q d) (by omega) (by omega) (by omega) (by omega)) (va_cwS 2 hts (bm_goodS bw_383 bw_384 bw_13 bw_385) rfl rfl rfl (by decide +kernel) (by rw [← hR]; exact ⟨Nat.le_of_ble_eq_true rfl, Nat.le_of_ble_eq_true rfl⟩)) (bm_preS hM hG hS hz) rfl rfl hl.1 rfl (lv_room (Nat.le_of_ble_eq_true rfl)) dD_join_7 (by rw [← hR]; exact ⟨Nat.le_of_ble_eq_true rfl, Nat.le_of_ble_eq_true rfl⟩)) hS (fun H locs hz hM hS => ?_)
  refine lv_topl (fun t2 e_t2 => ?_)
  have e_t2 : t2 = lN (bm_fm (bm_q d) x y) := by rw [e_t2]; rw [bm_fm_gt (by omega) hxy]
  subst e_t2
  refine lv_aload_n hx hb dD_join_10 rfl (lv_at hl 0 rfl) ?_
  refine va_getX (i := d) hx hb hG.2.2.2.2.2.2.2.1 (by omega) hS hown (hts _ bw_836) (fun _ h9 => h9) dD_join_11 ?_
  refine lv_aload_n hx hb dD_join_14 rfl (lv_at hl 0 rfl) ?_
  refine va_getX (i := d) hx hb hG.2.2.2.2.2.2.2.2.1 (by omega) hS hown (hts _ bw_837) (fun _ h9 => h9) dD_join_15 ?_
  have hfm : bm_fm (bm_q d) x y < bm_q d := bm_fm_lt (by omega)
  refine bm_callE (va_runS (As := [.long (lN (bm_fm (bm_q d) x y)), .long (lN (bm_p d)), .long (lN (bm_q d))]) (rest := []) ⟨hx, hb, hml, hown, hts⟩ (bc_F_divide l D ct base ad M sz (bm_fm (bm_q d) x y) (bm_p d) (bm_q d) (by omega) (by omega) (by omega) (by omega)) (va_cwS 3 hts (bm_goodS bw_386 bw_387 bw_12 bw_388) rfl rfl rfl (by decide +kernel) (by rw [← hR]; exact ⟨Nat.le_of_ble_eq_true rfl, Nat.le_of_ble_eq_true rfl⟩)) (bm_preS hM hG hS hz) rfl rfl hl.1 rfl (lv_room (Nat.le_of_ble_eq_true rfl)) dD_join_18 (by rw [← hR]; exact ⟨Nat.le_of_ble_eq_true rfl, Nat.le_of_ble_eq_true rfl⟩)) hS (fun H locs hz hM hS => ?_)
  refine lv_topl (fun t3 e_t3 => ?_)
  have e_t3 : t3 = lN (bm_fm (bm_q d) x y * (bm_p d ^ (bm_q d - 2) % bm_q d) % bm_q d) := by rw [e_t3]; rw [bm_fm_steps]
  subst e_t3
  refine lv_lstore hx hb dD_join_21 hl (by decide) rfl (fun ls hl => ?_)
  have hl : lv_has ls 7 [(5, .long (lN (bm_fm (bm_q d) x y * (bm_p d ^ (bm_q d - 2) % bm_q d) % bm_q d))), (0, .ref (ad d)), (1, .long (lN x)), (3, .long (lN y))] := hl
  refine lv_lload_n hx hb dD_join_23 rfl (lv_at hl 2 rfl) ?_
  refine lv_aload_n hx hb dD_join_24 rfl (lv_at hl 1 rfl) ?_
  refine va_getX (i := d) hx hb hG.2.2.2.2.2.2.2.1 (by omega) hS hown (hts _ bw_836) (fun _ h9 => h9) dD_join_25 ?_
  refine lv_lload hx hb dD_join_28 (lv_at hl 0 rfl) ?_
  refine lv_lmul hx hb dD_join_30 ?_
  refine lv_ladd hx hb dD_join_31 ?_
  refine lv_topl (fun t4 e_t4 => ?_)
  have e_t4 : t4 = lN (bm_jd d x y) := by rw [e_t4]; rw [lN_mul, lN_add]; rfl
  subst e_t4
  exact bm_lret hQ hx hb hr hlk hM hS ⟨rfl, rfl, hz⟩ (Nat.le_refl _) (Nat.le_refl _) dD_join_32
theorem bc_D_join (l : Launch) (D : va_G) (ct : Nat → ClassId) (base : Nat) (ad : Nat → Nat) (M : bm_Map) (sz : Nat) (d x y : Nat) (hd : d < 3) (hx1 : x < 2 ^ 30) (hy1 : y < 2 ^ 30) : bm_MG l yD_join (bm_ws yD_join cD_join 7 (some .long)) { frames := 3, cells := 0, slots := 0, locals := 77 } (bm_Pre D ct base ad M sz [.ref (ad d), .long (lN x), .long (lN y)]) (bm_Post D base (bm_Is (some (.long (lN (bm_jd d x y)))) M sz)) 0 0 (bm_A base) := by
  by_cases h : x ≤ y
  · exact bc_D_join_le l D ct base ad M sz d x y hd h hx1 hy1
  · exact bc_D_join_gt l D ct base ad M sz d x y hd (Nat.lt_of_not_le h) hx1 hy1
set_option maxHeartbeats 4000000 in
set_option maxRecDepth 100000 in
theorem bc_D_blindingFactor (l : Launch) (D : va_G) (ct : Nat → ClassId) (base : Nat) (ad : Nat → Nat) (M : bm_Map) (sz : Nat) (d r : Nat) (hd : d < 3) (hr1 : r < 2 ^ 60) : bm_MG l yD_blindingFactor (bm_ws yD_blindingFactor cD_blindingFactor 6 (some .long)) { frames := 0, cells := 0, slots := 0, locals := 0 } (bm_Pre D ct base ad M sz [.ref (ad d), .long (lN r)]) (bm_Post D base (bm_Is (some (.long (lN (bm_bf d r)))) M sz)) 0 0 (bm_A base) := by
  refine bm_ofG (cc := cD_blindingFactor) (maxL := 6) (ret := (some .long)) (by decide +kernel) (Nat.le_of_ble_eq_true rfl) ?_
  intro vp ve s vm args below meth vc hx hb hr hlk hts hown hml hnm ls hl hz hM hG R Q hR hQ
  have hown : s.vm.findClass "BlindMint$Denomination" = some vm.cls := hown
  have hK := hG.K
  have hS : va_S (bm_A base) s.heap s.heap [] := va_S.rf
  have hl : lv_has ls 6 [(0, .ref (ad d)), (1, .long (lN r))] := hl
  have hpb := bm_pb d
  have hqb := bm_qb d
  refine lv_lload_n hx hb dD_blindingFactor_0 rfl (lv_at hl 1 rfl) ?_
  refine lv_lstore_n hx hb dD_blindingFactor_1 rfl hl (by decide) rfl (fun ls hl => ?_)
  have hl : lv_has ls 6 [(3, .long (lN r)), (0, .ref (ad d)), (1, .long (lN r))] := hl
  refine lv_iconst (v := 0) hx hb dD_blindingFactor_2 (by decide) ?_
  refine lv_istore hx hb dD_blindingFactor_3 hl (by decide) rfl (fun ls hl => ?_)
  have hl : lv_has ls 6 [(5, .int 0), (3, .long (lN r)), (0, .ref (ad d)), (1, .long (lN r))] := hl
  refine lv_iload hx hb dD_blindingFactor_5 (lv_at hl 0 rfl) ?_
  refine lv_iconst (v := 2) hx hb dD_blindingFactor_7 (by decide) ?_
  refine lv_icmp_ge (tgt := 43) hx hb dD_blindingFactor_8 rfl (fun h => absurd h (by decide)) (fun _ => ?_)
  refine lv_lload_n hx hb dD_blindingFactor_11 rfl (lv_at hl 1 rfl) ?_
  refine lv_aload_n hx hb dD_blindingFactor_12 rfl (lv_at hl 2 rfl) ?_
  refine va_getX (i := d) hx hb hG.2.2.2.2.2.2.2.1 (by omega) hS hown (hts _ bw_836) (fun _ h9 => h9) dD_blindingFactor_13 ?_
  refine lv_lrem hx hb dD_blindingFactor_16 (bm_lN_ne (by omega) (by omega)) ?_
  refine lv_topl (fun t1 e_t1 => ?_)
  have e_t1 : t1 = lN ((r) % bm_p d) := by rw [e_t1]; rw [pk_lRem (by omega) (by omega) (by omega)]
  subst e_t1
  refine lv_lconst (v := 0) hx hb dD_blindingFactor_17 (by decide) ?_
  refine W.lcmp hx hb dD_blindingFactor_18 ?_
  refine lv_if_eq (tgt := 33) hx hb dD_blindingFactor_19 rfl (fun h19 => ?_) (fun h19 => ?_)
  · have a0 : (r) % bm_p d = 0 ∨ (r) % bm_q d = 0 := Or.inl (bm_cmp0 (bm_mod63 (by omega) (by omega)) h19)
    refine lv_lload_n hx hb dD_blindingFactor_33 rfl (lv_at hl 1 rfl) ?_
    refine lv_lconst (v := 1) hx hb dD_blindingFactor_34 (by decide) ?_
    refine lv_ladd hx hb dD_blindingFactor_35 ?_
    refine lv_topl (fun t2 e_t2 => ?_)
    have e_t2 : t2 = lN (r + 1) := by rw [e_t2]; exact lN_1 _
    subst e_t2
    refine lv_lstore_n hx hb dD_blindingFactor_36 rfl hl (by decide) rfl (fun ls hl => ?_)
    have hl : lv_has ls 6 [(3, .long (lN (r + 1))), (5, .int 0), (0, .ref (ad d)), (1, .long (lN r))] := hl
    refine lv_iinc (v := 1) (k := 1) hx hb dD_blindingFactor_37 hl rfl (by decide) (by decide) rfl (fun ls hl => ?_)
    have hl : lv_has ls 6 [(5, .int 1), (3, .long (lN (r + 1))), (0, .ref (ad d)), (1, .long (lN r))] := hl
    refine lv_goto (tgt := 5) hx hb dD_blindingFactor_40 rfl ?_
    refine lv_iload hx hb dD_blindingFactor_5 (lv_at hl 0 rfl) ?_
    refine lv_iconst (v := 2) hx hb dD_blindingFactor_7 (by decide) ?_
    refine lv_icmp_ge (tgt := 43) hx hb dD_blindingFactor_8 rfl (fun h => absurd h (by decide)) (fun _ => ?_)
    refine lv_lload_n hx hb dD_blindingFactor_11 rfl (lv_at hl 1 rfl) ?_
    refine lv_aload_n hx hb dD_blindingFactor_12 rfl (lv_at hl 2 rfl) ?_
    refine va_getX (i := d) hx hb hG.2.2.2.2.2.2.2.1 (by omega) hS hown (hts _ bw_836) (fun _ h9 => h9) dD_blindingFactor_13 ?_
    refine lv_lrem hx hb dD_blindingFactor_16 (bm_lN_ne (by omega) (by omega)) ?_
    refine lv_topl (fun t3 e_t3 => ?_)
    have e_t3 : t3 = lN ((r + 1) % bm_p d) := by rw [e_t3]; rw [pk_lRem (by omega) (by omega) (by omega)]
    subst e_t3
    refine lv_lconst (v := 0) hx hb dD_blindingFactor_17 (by decide) ?_
    refine W.lcmp hx hb dD_blindingFactor_18 ?_
    refine lv_if_eq (tgt := 33) hx hb dD_blindingFactor_19 rfl (fun h19 => ?_) (fun h19 => ?_)
    · have a1 : (r + 1) % bm_p d = 0 ∨ (r + 1) % bm_q d = 0 := Or.inl (bm_cmp0 (bm_mod63 (by omega) (by omega)) h19)
      refine lv_lload_n hx hb dD_blindingFactor_33 rfl (lv_at hl 1 rfl) ?_
      refine lv_lconst (v := 1) hx hb dD_blindingFactor_34 (by decide) ?_
      refine lv_ladd hx hb dD_blindingFactor_35 ?_
      refine lv_topl (fun t4 e_t4 => ?_)
      have e_t4 : t4 = lN (r + 1 + 1) := by rw [e_t4]; exact lN_1 _
      subst e_t4
      refine lv_lstore_n hx hb dD_blindingFactor_36 rfl hl (by decide) rfl (fun ls hl => ?_)
      have hl : lv_has ls 6 [(3, .long (lN (r + 1 + 1))), (5, .int 1), (0, .ref (ad d)), (1, .long (lN r))] := hl
      refine lv_iinc (v := 2) (k := 1) hx hb dD_blindingFactor_37 hl rfl (by decide) (by decide) rfl (fun ls hl => ?_)
      have hl : lv_has ls 6 [(5, .int 2), (3, .long (lN (r + 1 + 1))), (0, .ref (ad d)), (1, .long (lN r))] := hl
      refine lv_goto (tgt := 5) hx hb dD_blindingFactor_40 rfl ?_
      refine lv_iload hx hb dD_blindingFactor_5 (lv_at hl 0 rfl) ?_
      refine lv_iconst (v := 2) hx hb dD_blindingFactor_7 (by decide) ?_
      refine lv_icmp_ge (tgt := 43) hx hb dD_blindingFactor_8 rfl (fun _ => ?_) (fun h => absurd h (by decide))
      refine lv_lload_n hx hb dD_blindingFactor_43 rfl (lv_at hl 1 rfl) ?_
      exact bm_lret hQ hx hb hr hlk hM hS ⟨congrArg (fun z => some (Value.long (lN z))) (bm_bf_2 a0 a1), rfl, hz⟩ (Nat.le_refl _) (Nat.le_refl _) dD_blindingFactor_44
    · have b1 := bm_cmpn h19
      refine lv_lload_n hx hb dD_blindingFactor_22 rfl (lv_at hl 1 rfl) ?_
      refine lv_aload_n hx hb dD_blindingFactor_23 rfl (lv_at hl 2 rfl) ?_
      refine va_getX (i := d) hx hb hG.2.2.2.2.2.2.2.2.1 (by omega) hS hown (hts _ bw_837) (fun _ h9 => h9) dD_blindingFactor_24 ?_
      refine lv_lrem hx hb dD_blindingFactor_27 (bm_lN_ne (by omega) (by omega)) ?_
      refine lv_topl (fun t5 e_t5 => ?_)
      have e_t5 : t5 = lN ((r + 1) % bm_q d) := by rw [e_t5]; rw [pk_lRem (by omega) (by omega) (by omega)]
      subst e_t5
      refine lv_lconst (v := 0) hx hb dD_blindingFactor_28 (by decide) ?_
      refine W.lcmp hx hb dD_blindingFactor_29 ?_
      refine lv_if_ne (tgt := 43) hx hb dD_blindingFactor_30 rfl (fun h30 => ?_) (fun h30 => ?_)
      · have c1 := bm_cmpn h30
        refine lv_lload_n hx hb dD_blindingFactor_43 rfl (lv_at hl 1 rfl) ?_
        exact bm_lret hQ hx hb hr hlk hM hS ⟨congrArg (fun z => some (Value.long (lN z))) (bm_bf_1 a0 b1 c1), rfl, hz⟩ (Nat.le_refl _) (Nat.le_refl _) dD_blindingFactor_44
      · have a1 : (r + 1) % bm_p d = 0 ∨ (r + 1) % bm_q d = 0 := Or.inr (bm_cmp0 (bm_mod63 (by omega) (by omega)) h30)
        refine lv_lload_n hx hb dD_blindingFactor_33 rfl (lv_at hl 1 rfl) ?_
        refine lv_lconst (v := 1) hx hb dD_blindingFactor_34 (by decide) ?_
        refine lv_ladd hx hb dD_blindingFactor_35 ?_
        refine lv_topl (fun t6 e_t6 => ?_)
        have e_t6 : t6 = lN (r + 1 + 1) := by rw [e_t6]; exact lN_1 _
        subst e_t6
        refine lv_lstore_n hx hb dD_blindingFactor_36 rfl hl (by decide) rfl (fun ls hl => ?_)
        have hl : lv_has ls 6 [(3, .long (lN (r + 1 + 1))), (5, .int 1), (0, .ref (ad d)), (1, .long (lN r))] := hl
        refine lv_iinc (v := 2) (k := 1) hx hb dD_blindingFactor_37 hl rfl (by decide) (by decide) rfl (fun ls hl => ?_)
        have hl : lv_has ls 6 [(5, .int 2), (3, .long (lN (r + 1 + 1))), (0, .ref (ad d)), (1, .long (lN r))] := hl
        refine lv_goto (tgt := 5) hx hb dD_blindingFactor_40 rfl ?_
        refine lv_iload hx hb dD_blindingFactor_5 (lv_at hl 0 rfl) ?_
        refine lv_iconst (v := 2) hx hb dD_blindingFactor_7 (by decide) ?_
        refine lv_icmp_ge (tgt := 43) hx hb dD_blindingFactor_8 rfl (fun _ => ?_) (fun h => absurd h (by decide))
        refine lv_lload_n hx hb dD_blindingFactor_43 rfl (lv_at hl 1 rfl) ?_
        exact bm_lret hQ hx hb hr hlk hM hS ⟨congrArg (fun z => some (Value.long (lN z))) (bm_bf_2 a0 a1), rfl, hz⟩ (Nat.le_refl _) (Nat.le_refl _) dD_blindingFactor_44
  · have b0 := bm_cmpn h19
    refine lv_lload_n hx hb dD_blindingFactor_22 rfl (lv_at hl 1 rfl) ?_
    refine lv_aload_n hx hb dD_blindingFactor_23 rfl (lv_at hl 2 rfl) ?_
    refine va_getX (i := d) hx hb hG.2.2.2.2.2.2.2.2.1 (by omega) hS hown (hts _ bw_837) (fun _ h9 => h9) dD_blindingFactor_24 ?_
    refine lv_lrem hx hb dD_blindingFactor_27 (bm_lN_ne (by omega) (by omega)) ?_
    refine lv_topl (fun t7 e_t7 => ?_)
    have e_t7 : t7 = lN ((r) % bm_q d) := by rw [e_t7]; rw [pk_lRem (by omega) (by omega) (by omega)]
    subst e_t7
    refine lv_lconst (v := 0) hx hb dD_blindingFactor_28 (by decide) ?_
    refine W.lcmp hx hb dD_blindingFactor_29 ?_
    refine lv_if_ne (tgt := 43) hx hb dD_blindingFactor_30 rfl (fun h30 => ?_) (fun h30 => ?_)
    · have c0 := bm_cmpn h30
      refine lv_lload_n hx hb dD_blindingFactor_43 rfl (lv_at hl 1 rfl) ?_
      exact bm_lret hQ hx hb hr hlk hM hS ⟨congrArg (fun z => some (Value.long (lN z))) (bm_bf_0 b0 c0), rfl, hz⟩ (Nat.le_refl _) (Nat.le_refl _) dD_blindingFactor_44
    · have a0 : (r) % bm_p d = 0 ∨ (r) % bm_q d = 0 := Or.inr (bm_cmp0 (bm_mod63 (by omega) (by omega)) h30)
      refine lv_lload_n hx hb dD_blindingFactor_33 rfl (lv_at hl 1 rfl) ?_
      refine lv_lconst (v := 1) hx hb dD_blindingFactor_34 (by decide) ?_
      refine lv_ladd hx hb dD_blindingFactor_35 ?_
      refine lv_topl (fun t8 e_t8 => ?_)
      have e_t8 : t8 = lN (r + 1) := by rw [e_t8]; exact lN_1 _
      subst e_t8
      refine lv_lstore_n hx hb dD_blindingFactor_36 rfl hl (by decide) rfl (fun ls hl => ?_)
      have hl : lv_has ls 6 [(3, .long (lN (r + 1))), (5, .int 0), (0, .ref (ad d)), (1, .long (lN r))] := hl
      refine lv_iinc (v := 1) (k := 1) hx hb dD_blindingFactor_37 hl rfl (by decide) (by decide) rfl (fun ls hl => ?_)
      have hl : lv_has ls 6 [(5, .int 1), (3, .long (lN (r + 1))), (0, .ref (ad d)), (1, .long (lN r))] := hl
      refine lv_goto (tgt := 5) hx hb dD_blindingFactor_40 rfl ?_
      refine lv_iload hx hb dD_blindingFactor_5 (lv_at hl 0 rfl) ?_
      refine lv_iconst (v := 2) hx hb dD_blindingFactor_7 (by decide) ?_
      refine lv_icmp_ge (tgt := 43) hx hb dD_blindingFactor_8 rfl (fun h => absurd h (by decide)) (fun _ => ?_)
      refine lv_lload_n hx hb dD_blindingFactor_11 rfl (lv_at hl 1 rfl) ?_
      refine lv_aload_n hx hb dD_blindingFactor_12 rfl (lv_at hl 2 rfl) ?_
      refine va_getX (i := d) hx hb hG.2.2.2.2.2.2.2.1 (by omega) hS hown (hts _ bw_836) (fun _ h9 => h9) dD_blindingFactor_13 ?_
      refine lv_lrem hx hb dD_blindingFactor_16 (bm_lN_ne (by omega) (by omega)) ?_
      refine lv_topl (fun t9 e_t9 => ?_)
      have e_t9 : t9 = lN ((r + 1) % bm_p d) := by rw [e_t9]; rw [pk_lRem (by omega) (by omega) (by omega)]
      subst e_t9
      refine lv_lconst (v := 0) hx hb dD_blindingFactor_17 (by decide) ?_
      refine W.lcmp hx hb dD_blindingFactor_18 ?_
      refine lv_if_eq (tgt := 33) hx hb dD_blindingFactor_19 rfl (fun h19 => ?_) (fun h19 => ?_)
      · have a1 : (r + 1) % bm_p d = 0 ∨ (r + 1) % bm_q d = 0 := Or.inl (bm_cmp0 (bm_mod63 (by omega) (by omega)) h19)
        refine lv_lload_n hx hb dD_blindingFactor_33 rfl (lv_at hl 1 rfl) ?_
        refine lv_lconst (v := 1) hx hb dD_blindingFactor_34 (by decide) ?_
        refine lv_ladd hx hb dD_blindingFactor_35 ?_
        refine lv_topl (fun t10 e_t10 => ?_)
        have e_t10 : t10 = lN (r + 1 + 1) := by rw [e_t10]; exact lN_1 _
        subst e_t10
        refine lv_lstore_n hx hb dD_blindingFactor_36 rfl hl (by decide) rfl (fun ls hl => ?_)
        have hl : lv_has ls 6 [(3, .long (lN (r + 1 + 1))), (5, .int 1), (0, .ref (ad d)), (1, .long (lN r))] := hl
        refine lv_iinc (v := 2) (k := 1) hx hb dD_blindingFactor_37 hl rfl (by decide) (by decide) rfl (fun ls hl => ?_)
        have hl : lv_has ls 6 [(5, .int 2), (3, .long (lN (r + 1 + 1))), (0, .ref (ad d)), (1, .long (lN r))] := hl
        refine lv_goto (tgt := 5) hx hb dD_blindingFactor_40 rfl ?_
        refine lv_iload hx hb dD_blindingFactor_5 (lv_at hl 0 rfl) ?_
        refine lv_iconst (v := 2) hx hb dD_blindingFactor_7 (by decide) ?_
        refine lv_icmp_ge (tgt := 43) hx hb dD_blindingFactor_8 rfl (fun _ => ?_) (fun h => absurd h (by decide))
        refine lv_lload_n hx hb dD_blindingFactor_43 rfl (lv_at hl 1 rfl) ?_
        exact bm_lret hQ hx hb hr hlk hM hS ⟨congrArg (fun z => some (Value.long (lN z))) (bm_bf_2 a0 a1), rfl, hz⟩ (Nat.le_refl _) (Nat.le_refl _) dD_blindingFactor_44
      · have b1 := bm_cmpn h19
        refine lv_lload_n hx hb dD_blindingFactor_22 rfl (lv_at hl 1 rfl) ?_
        refine lv_aload_n hx hb dD_blindingFactor_23 rfl (lv_at hl 2 rfl) ?_
        refine va_getX (i := d) hx hb hG.2.2.2.2.2.2.2.2.1 (by omega) hS hown (hts _ bw_837) (fun _ h9 => h9) dD_blindingFactor_24 ?_
        refine lv_lrem hx hb dD_blindingFactor_27 (bm_lN_ne (by omega) (by omega)) ?_
        refine lv_topl (fun t11 e_t11 => ?_)
        have e_t11 : t11 = lN ((r + 1) % bm_q d) := by rw [e_t11]; rw [pk_lRem (by omega) (by omega) (by omega)]
        subst e_t11
        refine lv_lconst (v := 0) hx hb dD_blindingFactor_28 (by decide) ?_
        refine W.lcmp hx hb dD_blindingFactor_29 ?_
        refine lv_if_ne (tgt := 43) hx hb dD_blindingFactor_30 rfl (fun h30 => ?_) (fun h30 => ?_)
        · have c1 := bm_cmpn h30
          refine lv_lload_n hx hb dD_blindingFactor_43 rfl (lv_at hl 1 rfl) ?_
          exact bm_lret hQ hx hb hr hlk hM hS ⟨congrArg (fun z => some (Value.long (lN z))) (bm_bf_1 a0 b1 c1), rfl, hz⟩ (Nat.le_refl _) (Nat.le_refl _) dD_blindingFactor_44
        · have a1 : (r + 1) % bm_p d = 0 ∨ (r + 1) % bm_q d = 0 := Or.inr (bm_cmp0 (bm_mod63 (by omega) (by omega)) h30)
          refine lv_lload_n hx hb dD_blindingFactor_33 rfl (lv_at hl 1 rfl) ?_
          refine lv_lconst (v := 1) hx hb dD_blindingFactor_34 (by decide) ?_
          refine lv_ladd hx hb dD_blindingFactor_35 ?_
          refine lv_topl (fun t12 e_t12 => ?_)
          have e_t12 : t12 = lN (r + 1 + 1) := by rw [e_t12]; exact lN_1 _
          subst e_t12
          refine lv_lstore_n hx hb dD_blindingFactor_36 rfl hl (by decide) rfl (fun ls hl => ?_)
          have hl : lv_has ls 6 [(3, .long (lN (r + 1 + 1))), (5, .int 1), (0, .ref (ad d)), (1, .long (lN r))] := hl
          refine lv_iinc (v := 2) (k := 1) hx hb dD_blindingFactor_37 hl rfl (by decide) (by decide) rfl (fun ls hl => ?_)
          have hl : lv_has ls 6 [(5, .int 2), (3, .long (lN (r + 1 + 1))), (0, .ref (ad d)), (1, .long (lN r))] := hl
          refine lv_goto (tgt := 5) hx hb dD_blindingFactor_40 rfl ?_
          refine lv_iload hx hb dD_blindingFactor_5 (lv_at hl 0 rfl) ?_
          refine lv_iconst (v := 2) hx hb dD_blindingFactor_7 (by decide) ?_
          refine lv_icmp_ge (tgt := 43) hx hb dD_blindingFactor_8 rfl (fun _ => ?_) (fun h => absurd h (by decide))
          refine lv_lload_n hx hb dD_blindingFactor_43 rfl (lv_at hl 1 rfl) ?_
          exact bm_lret hQ hx hb hr hlk hM hS ⟨congrArg (fun z => some (Value.long (lN z))) (bm_bf_2 a0 a1), rfl, hz⟩ (Nat.le_refl _) (Nat.le_refl _) dD_blindingFactor_44
set_option maxHeartbeats 4000000 in
set_option maxRecDepth 100000 in
theorem bc_D_blind (l : Launch) (D : va_G) (ct : Nat → ClassId) (base : Nat) (ad : Nat → Nat) (M : bm_Map) (sz : Nat) (d k r : Nat) (hd : d < 3) (hk1 : k < 2 ^ 62) (hr1 : r < 2 ^ 62) : bm_MG l yD_blind (bm_ws yD_blind cD_blind 5 (some .long)) { frames := 4, cells := 0, slots := 0, locals := 103 } (bm_Pre D ct base ad M sz [.ref (ad d), .long (lN k), .long (lN r)]) (bm_Post D base (bm_Is (some (.long (lN (bm_bn d k r)))) M sz)) 0 0 (bm_A base) := by
  refine bm_ofG (cc := cD_blind) (maxL := 5) (ret := (some .long)) (by decide +kernel) (Nat.le_of_ble_eq_true rfl) ?_
  intro vp ve s vm args below meth vc hx hb hr hlk hts hown hml hnm ls hl hz hM hG R Q hR hQ
  have hown : s.vm.findClass "BlindMint$Denomination" = some vm.cls := hown
  have hK := hG.K
  have hS : va_S (bm_A base) s.heap s.heap [] := va_S.rf
  have hl : lv_has ls 5 [(0, .ref (ad d)), (1, .long (lN k)), (3, .long (lN r))] := hl
  have hpb := bm_pb d
  have hqb := bm_qb d
  refine lv_aload_n hx hb dD_blind_0 rfl (lv_at hl 0 rfl) ?_
  refine lv_lload_n hx hb dD_blind_1 rfl (lv_at hl 1 rfl) ?_
  refine lv_lload_n hx hb dD_blind_2 rfl (lv_at hl 2 rfl) ?_
  refine lv_ldc2 hx hb hown (hts _ bw_208) dD_blind_3 ?_
  refine lv_aload_n hx hb dD_blind_6 rfl (lv_at hl 0 rfl) ?_
  refine va_getX (i := d) hx hb hG.2.2.2.2.2.2.2.1 (by omega) hS hown (hts _ bw_836) (fun _ h9 => h9) dD_blind_7 ?_
  refine bm_callE (va_runS (As := [.long (lN r), .long 17, .long (lN (bm_p d))]) (rest := [.long (lN k), .ref (ad d)]) ⟨hx, hb, hml, hown, hts⟩ (bc_F_power l D ct base ad M sz r 17 (bm_p d) (by omega) (by decide) (by omega) (by omega)) (va_cwS 3 hts (bm_goodS bw_209 bw_210 bw_12 bw_211) rfl rfl rfl (by decide +kernel) (by rw [← hR]; exact ⟨Nat.le_of_ble_eq_true rfl, Nat.le_of_ble_eq_true rfl⟩)) (bm_preS hM hG hS hz) rfl rfl hl.1 rfl (lv_room (Nat.le_of_ble_eq_true rfl)) dD_blind_10 (by rw [← hR]; exact ⟨Nat.le_of_ble_eq_true rfl, Nat.le_of_ble_eq_true rfl⟩)) hS (fun H locs hz hM hS => ?_)
  refine lv_aload_n hx hb dD_blind_13 rfl (lv_at hl 0 rfl) ?_
  refine va_getX (i := d) hx hb hG.2.2.2.2.2.2.2.1 (by omega) hS hown (hts _ bw_836) (fun _ h9 => h9) dD_blind_14 ?_
  refine bm_callE (va_runS (As := [.long (lN k), .long (lN (r ^ 17 % bm_p d)), .long (lN (bm_p d))]) (rest := [.ref (ad d)]) ⟨hx, hb, hml, hown, hts⟩ (bc_F_multiply l D ct base ad M sz k (r ^ 17 % bm_p d) (bm_p d) (by omega) (bm_mod63 (by omega) (by omega)) (by omega) (by omega)) (va_cwS 3 hts (bm_goodS bw_375 bw_376 bw_12 bw_377) rfl rfl rfl (by decide +kernel) (by rw [← hR]; exact ⟨Nat.le_of_ble_eq_true rfl, Nat.le_of_ble_eq_true rfl⟩)) (bm_preS hM hG hS hz) rfl rfl hl.1 rfl (lv_room (Nat.le_of_ble_eq_true rfl)) dD_blind_17 (by rw [← hR]; exact ⟨Nat.le_of_ble_eq_true rfl, Nat.le_of_ble_eq_true rfl⟩)) hS (fun H locs hz hM hS => ?_)
  refine lv_topl (fun t1 e_t1 => ?_)
  have e_t1 : t1 = lN (k * r ^ 17 % bm_p d) := by rw [e_t1]; rw [bm_mm2]
  subst e_t1
  refine lv_lload_n hx hb dD_blind_20 rfl (lv_at hl 1 rfl) ?_
  refine lv_lload_n hx hb dD_blind_21 rfl (lv_at hl 2 rfl) ?_
  refine lv_ldc2 hx hb hown (hts _ bw_208) dD_blind_22 ?_
  refine lv_aload_n hx hb dD_blind_25 rfl (lv_at hl 0 rfl) ?_
  refine va_getX (i := d) hx hb hG.2.2.2.2.2.2.2.2.1 (by omega) hS hown (hts _ bw_837) (fun _ h9 => h9) dD_blind_26 ?_
  refine bm_callE (va_runS (As := [.long (lN r), .long 17, .long (lN (bm_q d))]) (rest := [.long (lN k), .long (lN (k * r ^ 17 % bm_p d)), .ref (ad d)]) ⟨hx, hb, hml, hown, hts⟩ (bc_F_power l D ct base ad M sz r 17 (bm_q d) (by omega) (by decide) (by omega) (by omega)) (va_cwS 3 hts (bm_goodS bw_209 bw_210 bw_12 bw_211) rfl rfl rfl (by decide +kernel) (by rw [← hR]; exact ⟨Nat.le_of_ble_eq_true rfl, Nat.le_of_ble_eq_true rfl⟩)) (bm_preS hM hG hS hz) rfl rfl hl.1 rfl (lv_room (Nat.le_of_ble_eq_true rfl)) dD_blind_29 (by rw [← hR]; exact ⟨Nat.le_of_ble_eq_true rfl, Nat.le_of_ble_eq_true rfl⟩)) hS (fun H locs hz hM hS => ?_)
  refine lv_aload_n hx hb dD_blind_32 rfl (lv_at hl 0 rfl) ?_
  refine va_getX (i := d) hx hb hG.2.2.2.2.2.2.2.2.1 (by omega) hS hown (hts _ bw_837) (fun _ h9 => h9) dD_blind_33 ?_
  refine bm_callE (va_runS (As := [.long (lN k), .long (lN (r ^ 17 % bm_q d)), .long (lN (bm_q d))]) (rest := [.long (lN (k * r ^ 17 % bm_p d)), .ref (ad d)]) ⟨hx, hb, hml, hown, hts⟩ (bc_F_multiply l D ct base ad M sz k (r ^ 17 % bm_q d) (bm_q d) (by omega) (bm_mod63 (by omega) (by omega)) (by omega) (by omega)) (va_cwS 3 hts (bm_goodS bw_375 bw_376 bw_12 bw_377) rfl rfl rfl (by decide +kernel) (by rw [← hR]; exact ⟨Nat.le_of_ble_eq_true rfl, Nat.le_of_ble_eq_true rfl⟩)) (bm_preS hM hG hS hz) rfl rfl hl.1 rfl (lv_room (Nat.le_of_ble_eq_true rfl)) dD_blind_36 (by rw [← hR]; exact ⟨Nat.le_of_ble_eq_true rfl, Nat.le_of_ble_eq_true rfl⟩)) hS (fun H locs hz hM hS => ?_)
  refine lv_topl (fun t2 e_t2 => ?_)
  have e_t2 : t2 = lN (k * r ^ 17 % bm_q d) := by rw [e_t2]; rw [bm_mm2]
  subst e_t2
  have hm1 : k * r ^ 17 % bm_p d < bm_p d := Nat.mod_lt _ (by omega)
  have hm2 : k * r ^ 17 % bm_q d < bm_q d := Nat.mod_lt _ (by omega)
  refine bm_callE (bm_runVG (C := "BlindMint$Denomination") (n := 2) (As := [.long (lN (k * r ^ 17 % bm_p d)), .long (lN (k * r ^ 17 % bm_q d))]) (rest := []) ⟨hx, hb, hml, hown, hts⟩ (bc_D_join l D ct base ad M sz d (k * r ^ 17 % bm_p d) (k * r ^ 17 % bm_q d) hd (by omega) (by omega)) bm_Post.ret bw_378 bw_380 bs_7 bw_382 rfl rfl (by decide +kernel) (by rw [← hR]; exact ⟨Nat.le_of_ble_eq_true rfl, Nat.le_of_ble_eq_true rfl⟩) (bm_preE hM hG hS hz hd) rfl rfl hl.1 rfl (lv_room (Nat.le_of_ble_eq_true rfl)) dD_blind_39 (by rw [← hR]; exact ⟨Nat.le_of_ble_eq_true rfl, Nat.le_of_ble_eq_true rfl⟩)) hS (fun H locs hz hM hS => ?_)
  exact bm_lret hQ hx hb hr hlk hM hS ⟨rfl, rfl, hz⟩ (Nat.le_refl _) (Nat.le_refl _) dD_blind_42
set_option maxHeartbeats 4000000 in
set_option maxRecDepth 100000 in
theorem bc_D_sign (l : Launch) (D : va_G) (ct : Nat → ClassId) (base : Nat) (ad : Nat → Nat) (M : bm_Map) (sz : Nat) (d k : Nat) (hd : d < 3) (hk1 : k < 2 ^ 62) : bm_MG l yD_sign (bm_ws yD_sign cD_sign 3 (some .long)) { frames := 4, cells := 0, slots := 0, locals := 103 } (bm_Pre D ct base ad M sz [.ref (ad d), .long (lN k)]) (bm_Post D base (bm_Is (some (.long (lN (bm_sg d k)))) M sz)) 0 0 (bm_A base) := by
  refine bm_ofG (cc := cD_sign) (maxL := 3) (ret := (some .long)) (by decide +kernel) (Nat.le_of_ble_eq_true rfl) ?_
  intro vp ve s vm args below meth vc hx hb hr hlk hts hown hml hnm ls hl hz hM hG R Q hR hQ
  have hown : s.vm.findClass "BlindMint$Denomination" = some vm.cls := hown
  have hK := hG.K
  have hS : va_S (bm_A base) s.heap s.heap [] := va_S.rf
  have hl : lv_has ls 3 [(0, .ref (ad d)), (1, .long (lN k))] := hl
  have hpb := bm_pb d
  have hqb := bm_qb d
  refine lv_aload_n hx hb dD_sign_0 rfl (lv_at hl 0 rfl) ?_
  refine lv_lload_n hx hb dD_sign_1 rfl (lv_at hl 1 rfl) ?_
  refine lv_ldc2 hx hb hown (hts _ bw_208) dD_sign_2 ?_
  refine lv_aload_n hx hb dD_sign_5 rfl (lv_at hl 0 rfl) ?_
  refine va_getX (i := d) hx hb hG.2.2.2.2.2.2.2.1 (by omega) hS hown (hts _ bw_836) (fun _ h9 => h9) dD_sign_6 ?_
  refine bm_callE (va_runS (As := [.long (lN k), .long 17, .long (lN (bm_p d))]) (rest := [.ref (ad d)]) ⟨hx, hb, hml, hown, hts⟩ (bc_F_root l D ct base ad M sz k (bm_p d) (bm_kp d) (by omega) (bm_up_ok d).2.2.2.1 (bm_up_ok d).2.1 (bm_up_ok d).2.2.1 (bm_up_ok d).2.2.2.2.1 (bm_up_ok d).2.2.2.2.2 (by omega) (by omega)) (va_cwS 3 hts (bm_goodS bw_396 bw_397 bw_12 bw_398) rfl rfl rfl (by decide +kernel) (by rw [← hR]; exact ⟨Nat.le_of_ble_eq_true rfl, Nat.le_of_ble_eq_true rfl⟩)) (bm_preS hM hG hS hz) rfl rfl hl.1 rfl (lv_room (Nat.le_of_ble_eq_true rfl)) dD_sign_9 (by rw [← hR]; exact ⟨Nat.le_of_ble_eq_true rfl, Nat.le_of_ble_eq_true rfl⟩)) hS (fun H locs hz hM hS => ?_)
  refine lv_lload_n hx hb dD_sign_12 rfl (lv_at hl 1 rfl) ?_
  refine lv_ldc2 hx hb hown (hts _ bw_208) dD_sign_13 ?_
  refine lv_aload_n hx hb dD_sign_16 rfl (lv_at hl 0 rfl) ?_
  refine va_getX (i := d) hx hb hG.2.2.2.2.2.2.2.2.1 (by omega) hS hown (hts _ bw_837) (fun _ h9 => h9) dD_sign_17 ?_
  refine bm_callE (va_runS (As := [.long (lN k), .long 17, .long (lN (bm_q d))]) (rest := [.long (lN (k ^ bm_u (bm_kp d) (bm_p d) % bm_p d)), .ref (ad d)]) ⟨hx, hb, hml, hown, hts⟩ (bc_F_root l D ct base ad M sz k (bm_q d) (bm_kq d) (by omega) (bm_uq_ok d).2.2.2.1 (bm_uq_ok d).2.1 (bm_uq_ok d).2.2.1 (bm_uq_ok d).2.2.2.2.1 (bm_uq_ok d).2.2.2.2.2 (by omega) (by omega)) (va_cwS 3 hts (bm_goodS bw_396 bw_397 bw_12 bw_398) rfl rfl rfl (by decide +kernel) (by rw [← hR]; exact ⟨Nat.le_of_ble_eq_true rfl, Nat.le_of_ble_eq_true rfl⟩)) (bm_preS hM hG hS hz) rfl rfl hl.1 rfl (lv_room (Nat.le_of_ble_eq_true rfl)) dD_sign_20 (by rw [← hR]; exact ⟨Nat.le_of_ble_eq_true rfl, Nat.le_of_ble_eq_true rfl⟩)) hS (fun H locs hz hM hS => ?_)
  have hm1 : k ^ bm_u (bm_kp d) (bm_p d) % bm_p d < bm_p d := Nat.mod_lt _ (by omega)
  have hm2 : k ^ bm_u (bm_kq d) (bm_q d) % bm_q d < bm_q d := Nat.mod_lt _ (by omega)
  refine bm_callE (bm_runVG (C := "BlindMint$Denomination") (n := 2) (As := [.long (lN (k ^ bm_u (bm_kp d) (bm_p d) % bm_p d)), .long (lN (k ^ bm_u (bm_kq d) (bm_q d) % bm_q d))]) (rest := []) ⟨hx, hb, hml, hown, hts⟩ (bc_D_join l D ct base ad M sz d (k ^ bm_u (bm_kp d) (bm_p d) % bm_p d) (k ^ bm_u (bm_kq d) (bm_q d) % bm_q d) hd (by omega) (by omega)) bm_Post.ret bw_378 bw_380 bs_7 bw_382 rfl rfl (by decide +kernel) (by rw [← hR]; exact ⟨Nat.le_of_ble_eq_true rfl, Nat.le_of_ble_eq_true rfl⟩) (bm_preE hM hG hS hz hd) rfl rfl hl.1 rfl (lv_room (Nat.le_of_ble_eq_true rfl)) dD_sign_23 (by rw [← hR]; exact ⟨Nat.le_of_ble_eq_true rfl, Nat.le_of_ble_eq_true rfl⟩)) hS (fun H locs hz hM hS => ?_)
  exact bm_lret hQ hx hb hr hlk hM hS ⟨rfl, rfl, hz⟩ (Nat.le_refl _) (Nat.le_refl _) dD_sign_26
set_option maxHeartbeats 4000000 in
set_option maxRecDepth 100000 in
theorem bc_D_unblind (l : Launch) (D : va_G) (ct : Nat → ClassId) (base : Nat) (ad : Nat → Nat) (M : bm_Map) (sz : Nat) (d k r : Nat) (hd : d < 3) (hk1 : k < 2 ^ 62) (hr1 : r < 2 ^ 62) : bm_MG l yD_unblind (bm_ws yD_unblind cD_unblind 5 (some .long)) { frames := 4, cells := 0, slots := 0, locals := 103 } (bm_Pre D ct base ad M sz [.ref (ad d), .long (lN k), .long (lN r)]) (bm_Post D base (bm_Is (some (.long (lN (bm_jd d (k % bm_p d * (r ^ (bm_p d - 2) % bm_p d) % bm_p d) (k % bm_q d * (r ^ (bm_q d - 2) % bm_q d) % bm_q d))))) M sz)) 0 0 (bm_A base) := by
  refine bm_ofG (cc := cD_unblind) (maxL := 5) (ret := (some .long)) (by decide +kernel) (Nat.le_of_ble_eq_true rfl) ?_
  intro vp ve s vm args below meth vc hx hb hr hlk hts hown hml hnm ls hl hz hM hG R Q hR hQ
  have hown : s.vm.findClass "BlindMint$Denomination" = some vm.cls := hown
  have hK := hG.K
  have hS : va_S (bm_A base) s.heap s.heap [] := va_S.rf
  have hl : lv_has ls 5 [(0, .ref (ad d)), (1, .long (lN k)), (3, .long (lN r))] := hl
  have hpb := bm_pb d
  have hqb := bm_qb d
  refine lv_aload_n hx hb dD_unblind_0 rfl (lv_at hl 0 rfl) ?_
  refine lv_lload_n hx hb dD_unblind_1 rfl (lv_at hl 1 rfl) ?_
  refine lv_lload_n hx hb dD_unblind_2 rfl (lv_at hl 2 rfl) ?_
  refine lv_aload_n hx hb dD_unblind_3 rfl (lv_at hl 0 rfl) ?_
  refine va_getX (i := d) hx hb hG.2.2.2.2.2.2.2.1 (by omega) hS hown (hts _ bw_836) (fun _ h9 => h9) dD_unblind_4 ?_
  refine bm_callE (va_runS (As := [.long (lN k), .long (lN r), .long (lN (bm_p d))]) (rest := [.ref (ad d)]) ⟨hx, hb, hml, hown, hts⟩ (bc_F_divide l D ct base ad M sz k r (bm_p d) (by omega) (by omega) (by omega) (by omega)) (va_cwS 3 hts (bm_goodS bw_386 bw_387 bw_12 bw_388) rfl rfl rfl (by decide +kernel) (by rw [← hR]; exact ⟨Nat.le_of_ble_eq_true rfl, Nat.le_of_ble_eq_true rfl⟩)) (bm_preS hM hG hS hz) rfl rfl hl.1 rfl (lv_room (Nat.le_of_ble_eq_true rfl)) dD_unblind_7 (by rw [← hR]; exact ⟨Nat.le_of_ble_eq_true rfl, Nat.le_of_ble_eq_true rfl⟩)) hS (fun H locs hz hM hS => ?_)
  refine lv_lload_n hx hb dD_unblind_10 rfl (lv_at hl 1 rfl) ?_
  refine lv_lload_n hx hb dD_unblind_11 rfl (lv_at hl 2 rfl) ?_
  refine lv_aload_n hx hb dD_unblind_12 rfl (lv_at hl 0 rfl) ?_
  refine va_getX (i := d) hx hb hG.2.2.2.2.2.2.2.2.1 (by omega) hS hown (hts _ bw_837) (fun _ h9 => h9) dD_unblind_13 ?_
  refine bm_callE (va_runS (As := [.long (lN k), .long (lN r), .long (lN (bm_q d))]) (rest := [.long (lN (k % bm_p d * (r ^ (bm_p d - 2) % bm_p d) % bm_p d)), .ref (ad d)]) ⟨hx, hb, hml, hown, hts⟩ (bc_F_divide l D ct base ad M sz k r (bm_q d) (by omega) (by omega) (by omega) (by omega)) (va_cwS 3 hts (bm_goodS bw_386 bw_387 bw_12 bw_388) rfl rfl rfl (by decide +kernel) (by rw [← hR]; exact ⟨Nat.le_of_ble_eq_true rfl, Nat.le_of_ble_eq_true rfl⟩)) (bm_preS hM hG hS hz) rfl rfl hl.1 rfl (lv_room (Nat.le_of_ble_eq_true rfl)) dD_unblind_16 (by rw [← hR]; exact ⟨Nat.le_of_ble_eq_true rfl, Nat.le_of_ble_eq_true rfl⟩)) hS (fun H locs hz hM hS => ?_)
  have hm1 : k % bm_p d * (r ^ (bm_p d - 2) % bm_p d) % bm_p d < bm_p d := Nat.mod_lt _ (by omega)
  have hm2 : k % bm_q d * (r ^ (bm_q d - 2) % bm_q d) % bm_q d < bm_q d := Nat.mod_lt _ (by omega)
  refine bm_callE (bm_runVG (C := "BlindMint$Denomination") (n := 2) (As := [.long (lN (k % bm_p d * (r ^ (bm_p d - 2) % bm_p d) % bm_p d)), .long (lN (k % bm_q d * (r ^ (bm_q d - 2) % bm_q d) % bm_q d))]) (rest := []) ⟨hx, hb, hml, hown, hts⟩ (bc_D_join l D ct base ad M sz d (k % bm_p d * (r ^ (bm_p d - 2) % bm_p d) % bm_p d) (k % bm_q d * (r ^ (bm_q d - 2) % bm_q d) % bm_q d) hd (by omega) (by omega)) bm_Post.ret bw_378 bw_380 bs_7 bw_382 rfl rfl (by decide +kernel) (by rw [← hR]; exact ⟨Nat.le_of_ble_eq_true rfl, Nat.le_of_ble_eq_true rfl⟩) (bm_preE hM hG hS hz hd) rfl rfl hl.1 rfl (lv_room (Nat.le_of_ble_eq_true rfl)) dD_unblind_19 (by rw [← hR]; exact ⟨Nat.le_of_ble_eq_true rfl, Nat.le_of_ble_eq_true rfl⟩)) hS (fun H locs hz hM hS => ?_)
  exact bm_lret hQ hx hb hr hlk hM hS ⟨rfl, rfl, hz⟩ (Nat.le_refl _) (Nat.le_refl _) dD_unblind_22
set_option maxHeartbeats 4000000 in
set_option maxRecDepth 100000 in
theorem bc_D_isSignature (l : Launch) (D : va_G) (ct : Nat → ClassId) (base : Nat) (ad : Nat → Nat) (M : bm_Map) (sz : Nat) (d : Nat) (x : Int64) (k : Nat) (hd : d < 3) (hk1 : k < 2 ^ 62) : bm_MG l yD_isSignature (bm_ws yD_isSignature cD_isSignature 5 (some .boolean)) { frames := 2, cells := 0, slots := 0, locals := 52 } (bm_Pre D ct base ad M sz [.ref (ad d), .long x, .long (lN k)]) (bm_Post D base (bm_Is (some (.int (bm_is d x k))) M sz)) 0 0 (bm_A base) := by
  refine bm_ofG (cc := cD_isSignature) (maxL := 5) (ret := (some .boolean)) (by decide +kernel) (Nat.le_of_ble_eq_true rfl) ?_
  intro vp ve s vm args below meth vc hx hb hr hlk hts hown hml hnm ls hl hz hM hG R Q hR hQ
  have hown : s.vm.findClass "BlindMint$Denomination" = some vm.cls := hown
  have hK := hG.K
  have hS : va_S (bm_A base) s.heap s.heap [] := va_S.rf
  have hl : lv_has ls 5 [(0, .ref (ad d)), (1, .long x), (3, .long (lN k))] := hl
  have hpb := bm_pb d
  have hqb := bm_qb d
  refine lv_lload_n hx hb dD_isSignature_0 rfl (lv_at hl 1 rfl) ?_
  refine lv_lconst (v := 0) hx hb dD_isSignature_1 (by decide) ?_
  refine W.lcmp hx hb dD_isSignature_2 ?_
  refine lv_if_lt (tgt := 66) hx hb dD_isSignature_3 rfl (fun h3 => ?_) (fun h3 => ?_)
  · rw [lg_cmp_lt] at h3
    refine lv_iconst (v := 0) hx hb dD_isSignature_66 (by decide) ?_
    exact bm_zret hQ hx hb hr hlk (by decide) hM hS ⟨by first | exact congrArg (fun z => some (Value.int z)) (if_pos (Or.inl h3) : bm_is d x k = 0).symm | exact congrArg (fun z => some (Value.int z)) (if_pos (Or.inr (Or.inl h17)) : bm_is d x k = 0).symm | exact congrArg (fun z => some (Value.int z)) (if_pos (Or.inr (Or.inr (Or.inl (bm_cmpNE h38)))) : bm_is d x k = 0).symm | exact congrArg (fun z => some (Value.int z)) (if_pos (Or.inr (Or.inr (Or.inr (bm_cmpNE h59)))) : bm_is d x k = 0).symm, rfl, hz⟩ (Nat.le_refl _) (Nat.le_refl _) dD_isSignature_67
  · rw [lg_cmp_lt] at h3
    obtain ⟨hn1, hn2⟩ := bm_is_n h3
    refine lv_lload_n hx hb dD_isSignature_6 rfl (lv_at hl 1 rfl) ?_
    refine lv_aload_n hx hb dD_isSignature_7 rfl (lv_at hl 0 rfl) ?_
    refine va_getX (i := d) hx hb hG.2.2.2.2.2.2.2.1 (by omega) hS hown (hts _ bw_836) (fun _ h9 => h9) dD_isSignature_8 ?_
    refine lv_aload_n hx hb dD_isSignature_11 rfl (lv_at hl 0 rfl) ?_
    refine va_getX (i := d) hx hb hG.2.2.2.2.2.2.2.2.1 (by omega) hS hown (hts _ bw_837) (fun _ h9 => h9) dD_isSignature_12 ?_
    refine lv_lmul hx hb dD_isSignature_15 ?_
    refine lv_topl (fun t1 e_t1 => ?_)
    have e_t1 : t1 = lN (bm_p d * bm_q d) := by rw [e_t1]; rw [lN_mul]
    subst e_t1
    refine W.lcmp hx hb dD_isSignature_16 ?_
    refine lv_if_ge (tgt := 66) hx hb dD_isSignature_17 rfl (fun h17 => ?_) (fun h17 => ?_)
    · rw [lg_cmp_ge] at h17
      refine lv_iconst (v := 0) hx hb dD_isSignature_66 (by decide) ?_
      exact bm_zret hQ hx hb hr hlk (by decide) hM hS ⟨by first | exact congrArg (fun z => some (Value.int z)) (if_pos (Or.inl h3) : bm_is d x k = 0).symm | exact congrArg (fun z => some (Value.int z)) (if_pos (Or.inr (Or.inl h17)) : bm_is d x k = 0).symm | exact congrArg (fun z => some (Value.int z)) (if_pos (Or.inr (Or.inr (Or.inl (bm_cmpNE h38)))) : bm_is d x k = 0).symm | exact congrArg (fun z => some (Value.int z)) (if_pos (Or.inr (Or.inr (Or.inr (bm_cmpNE h59)))) : bm_is d x k = 0).symm, rfl, hz⟩ (Nat.le_refl _) (Nat.le_refl _) dD_isSignature_67
    · rw [lg_cmp_ge] at h17
      refine lv_lload_n hx hb dD_isSignature_20 rfl (lv_at hl 1 rfl) ?_
      refine lv_topl (fun t2 e_t2 => ?_)
      have e_t2 : t2 = lN x.toBitVec.toNat := by rw [e_t2]; exact hn2
      subst e_t2
      refine lv_ldc2 hx hb hown (hts _ bw_208) dD_isSignature_21 ?_
      refine lv_aload_n hx hb dD_isSignature_24 rfl (lv_at hl 0 rfl) ?_
      refine va_getX (i := d) hx hb hG.2.2.2.2.2.2.2.1 (by omega) hS hown (hts _ bw_836) (fun _ h9 => h9) dD_isSignature_25 ?_
      have hpwp : x.toBitVec.toNat ^ 17 % bm_p d < 2 ^ 63 := bm_mod63 (by omega) (by omega)
      refine bm_callE (va_runS (As := [.long (lN x.toBitVec.toNat), .long 17, .long (lN (bm_p d))]) (rest := []) ⟨hx, hb, hml, hown, hts⟩ (bc_F_power l D ct base ad M sz x.toBitVec.toNat 17 (bm_p d) hn1 (by decide) (by omega) (by omega)) (va_cwS 3 hts (bm_goodS bw_209 bw_210 bw_12 bw_211) rfl rfl rfl (by decide +kernel) (by rw [← hR]; exact ⟨Nat.le_of_ble_eq_true rfl, Nat.le_of_ble_eq_true rfl⟩)) (bm_preS hM hG hS hz) rfl rfl hl.1 rfl (lv_room (Nat.le_of_ble_eq_true rfl)) dD_isSignature_28 (by rw [← hR]; exact ⟨Nat.le_of_ble_eq_true rfl, Nat.le_of_ble_eq_true rfl⟩)) hS (fun H locs hz hM hS => ?_)
      refine lv_lload_n hx hb dD_isSignature_31 rfl (lv_at hl 2 rfl) ?_
      refine lv_aload_n hx hb dD_isSignature_32 rfl (lv_at hl 0 rfl) ?_
      refine va_getX (i := d) hx hb hG.2.2.2.2.2.2.2.1 (by omega) hS hown (hts _ bw_836) (fun _ h9 => h9) dD_isSignature_33 ?_
      refine lv_lrem hx hb dD_isSignature_36 (bm_lN_ne (by omega) (by omega)) ?_
      refine lv_topl (fun t3 e_t3 => ?_)
      have e_t3 : t3 = lN (k % bm_p d) := by rw [e_t3]; rw [pk_lRem (by omega) (by omega) (by omega)]
      subst e_t3
      refine W.lcmp hx hb dD_isSignature_37 ?_
      refine lv_if_ne (tgt := 66) hx hb dD_isSignature_38 rfl (fun h38 => ?_) (fun h38 => ?_)
      · refine lv_iconst (v := 0) hx hb dD_isSignature_66 (by decide) ?_
        exact bm_zret hQ hx hb hr hlk (by decide) hM hS ⟨by first | exact congrArg (fun z => some (Value.int z)) (if_pos (Or.inl h3) : bm_is d x k = 0).symm | exact congrArg (fun z => some (Value.int z)) (if_pos (Or.inr (Or.inl h17)) : bm_is d x k = 0).symm | exact congrArg (fun z => some (Value.int z)) (if_pos (Or.inr (Or.inr (Or.inl (bm_cmpNE h38)))) : bm_is d x k = 0).symm | exact congrArg (fun z => some (Value.int z)) (if_pos (Or.inr (Or.inr (Or.inr (bm_cmpNE h59)))) : bm_is d x k = 0).symm, rfl, hz⟩ (Nat.le_refl _) (Nat.le_refl _) dD_isSignature_67
      · refine lv_lload_n hx hb dD_isSignature_41 rfl (lv_at hl 1 rfl) ?_
        refine lv_topl (fun t4 e_t4 => ?_)
        have e_t4 : t4 = lN x.toBitVec.toNat := by rw [e_t4]; exact hn2
        subst e_t4
        refine lv_ldc2 hx hb hown (hts _ bw_208) dD_isSignature_42 ?_
        refine lv_aload_n hx hb dD_isSignature_45 rfl (lv_at hl 0 rfl) ?_
        refine va_getX (i := d) hx hb hG.2.2.2.2.2.2.2.2.1 (by omega) hS hown (hts _ bw_837) (fun _ h9 => h9) dD_isSignature_46 ?_
        have hpwq : x.toBitVec.toNat ^ 17 % bm_q d < 2 ^ 63 := bm_mod63 (by omega) (by omega)
        refine bm_callE (va_runS (As := [.long (lN x.toBitVec.toNat), .long 17, .long (lN (bm_q d))]) (rest := []) ⟨hx, hb, hml, hown, hts⟩ (bc_F_power l D ct base ad M sz x.toBitVec.toNat 17 (bm_q d) hn1 (by decide) (by omega) (by omega)) (va_cwS 3 hts (bm_goodS bw_209 bw_210 bw_12 bw_211) rfl rfl rfl (by decide +kernel) (by rw [← hR]; exact ⟨Nat.le_of_ble_eq_true rfl, Nat.le_of_ble_eq_true rfl⟩)) (bm_preS hM hG hS hz) rfl rfl hl.1 rfl (lv_room (Nat.le_of_ble_eq_true rfl)) dD_isSignature_49 (by rw [← hR]; exact ⟨Nat.le_of_ble_eq_true rfl, Nat.le_of_ble_eq_true rfl⟩)) hS (fun H locs hz hM hS => ?_)
        refine lv_lload_n hx hb dD_isSignature_52 rfl (lv_at hl 2 rfl) ?_
        refine lv_aload_n hx hb dD_isSignature_53 rfl (lv_at hl 0 rfl) ?_
        refine va_getX (i := d) hx hb hG.2.2.2.2.2.2.2.2.1 (by omega) hS hown (hts _ bw_837) (fun _ h9 => h9) dD_isSignature_54 ?_
        refine lv_lrem hx hb dD_isSignature_57 (bm_lN_ne (by omega) (by omega)) ?_
        refine lv_topl (fun t5 e_t5 => ?_)
        have e_t5 : t5 = lN (k % bm_q d) := by rw [e_t5]; rw [pk_lRem (by omega) (by omega) (by omega)]
        subst e_t5
        refine W.lcmp hx hb dD_isSignature_58 ?_
        refine lv_if_ne (tgt := 66) hx hb dD_isSignature_59 rfl (fun h59 => ?_) (fun h59 => ?_)
        · refine lv_iconst (v := 0) hx hb dD_isSignature_66 (by decide) ?_
          exact bm_zret hQ hx hb hr hlk (by decide) hM hS ⟨by first | exact congrArg (fun z => some (Value.int z)) (if_pos (Or.inl h3) : bm_is d x k = 0).symm | exact congrArg (fun z => some (Value.int z)) (if_pos (Or.inr (Or.inl h17)) : bm_is d x k = 0).symm | exact congrArg (fun z => some (Value.int z)) (if_pos (Or.inr (Or.inr (Or.inl (bm_cmpNE h38)))) : bm_is d x k = 0).symm | exact congrArg (fun z => some (Value.int z)) (if_pos (Or.inr (Or.inr (Or.inr (bm_cmpNE h59)))) : bm_is d x k = 0).symm, rfl, hz⟩ (Nat.le_refl _) (Nat.le_refl _) dD_isSignature_67
        · refine lv_iconst (v := 1) hx hb dD_isSignature_62 (by decide) ?_
          refine lv_goto (tgt := 67) hx hb dD_isSignature_63 rfl ?_
          exact bm_zret hQ hx hb hr hlk (by decide) hM hS ⟨by first | exact congrArg (fun z => some (Value.int z)) (if_neg (fun q => q.elim h3 (fun q => q.elim h17 (fun q => q.elim (fun q => q (bm_cmpE hpwp (bm_mod63 (by omega) (by omega)) h38)) (fun q => q (bm_cmpE hpwq (bm_mod63 (by omega) (by omega)) h59))))) : bm_is d x k = 1).symm, rfl, hz⟩ (Nat.le_refl _) (Nat.le_refl _) dD_isSignature_67
