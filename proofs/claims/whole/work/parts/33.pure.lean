set_option maxHeartbeats 4000000 in
set_option maxRecDepth 100000 in
theorem bc_M_below (l : Launch) (D : va_G) (ct : Nat → ClassId) (base : Nat) (ad : Nat → Nat) (M : bm_Map) (sz : Nat) (v n : Int32) : Met l yM_below (bm_ws yM_below cM_below 2 (some .boolean)) { frames := 0, cells := 0, slots := 0, locals := 0 } (bm_Pre D ct base ad M sz [.int v, .int n]) (bm_Post D base (bm_Is (some (.int (bm_bl v n))) M sz)) 0 0 (bm_A base) := by
  refine bm_ofB (cc := cM_below) (maxL := 2) (ret := (some .boolean)) (by decide +kernel) (Nat.le_of_ble_eq_true rfl) ?_
  intro vp ve s vm args below meth vc hx hb hr hlk hts hown hml hnm ls hl hz hM hG R Q hR hQ
  have hown : s.vm.findClass "BlindMintModel" = some vm.cls := hown
  have hK := hG.K
  have hS : va_S (bm_A base) s.heap s.heap [] := va_S.rf
  have hl : lv_has ls 2 [(0, .int v), (1, .int n)] := hl
  refine lv_iload_n hx hb dM_below_0 rfl (lv_at hl 0 rfl) ?_
  refine lv_if_lt (tgt := 13) hx hb dM_below_1 rfl (fun h1 => ?_) (fun h1 => ?_)
  · refine lv_iconst (v := 0) hx hb dM_below_13 (by decide) ?_
    exact bm_zret hQ hx hb hr hlk (by decide) hM hS ⟨by first | exact congrArg (fun z => some (Value.int z)) (bm_bl_z (Or.inl h1) : bm_bl v n = 0).symm | exact congrArg (fun z => some (Value.int z)) (bm_bl_z (Or.inr h6) : bm_bl v n = 0).symm, rfl, hz⟩ (Nat.le_refl _) (Nat.le_refl _) dM_below_14
  · refine lv_iload_n hx hb dM_below_4 rfl (lv_at hl 0 rfl) ?_
    refine lv_iload_n hx hb dM_below_5 rfl (lv_at hl 1 rfl) ?_
    refine lv_icmp_ge (tgt := 13) hx hb dM_below_6 rfl (fun h6 => ?_) (fun h6 => ?_)
    · refine lv_iconst (v := 0) hx hb dM_below_13 (by decide) ?_
      exact bm_zret hQ hx hb hr hlk (by decide) hM hS ⟨by first | exact congrArg (fun z => some (Value.int z)) (bm_bl_z (Or.inl h1) : bm_bl v n = 0).symm | exact congrArg (fun z => some (Value.int z)) (bm_bl_z (Or.inr h6) : bm_bl v n = 0).symm, rfl, hz⟩ (Nat.le_refl _) (Nat.le_refl _) dM_below_14
    · refine lv_iconst (v := 1) hx hb dM_below_9 (by decide) ?_
      refine lv_goto (tgt := 14) hx hb dM_below_10 rfl ?_
      exact bm_zret hQ hx hb hr hlk (by decide) hM hS ⟨by first | exact congrArg (fun z => some (Value.int z)) (bm_bl_o (fun q => q.elim h1 h6) : bm_bl v n = 1).symm, rfl, hz⟩ (Nat.le_refl _) (Nat.le_refl _) dM_below_14
set_option maxHeartbeats 4000000 in
set_option maxRecDepth 100000 in
theorem bc_B_isAccount (l : Launch) (D : va_G) (ct : Nat → ClassId) (base : Nat) (ad : Nat → Nat) (M : bm_Map) (sz : Nat) (v : Int32) : Met l yB_isAccount (bm_ws yB_isAccount cB_isAccount 1 (some .boolean)) { frames := 0, cells := 0, slots := 0, locals := 0 } (bm_Pre D ct base ad M sz [.int v]) (bm_Post D base (bm_Is (some (.int (bm_bl v 4))) M sz)) 0 0 (bm_A base) := by
  refine bm_ofB (cc := cB_isAccount) (maxL := 1) (ret := (some .boolean)) (by decide +kernel) (Nat.le_of_ble_eq_true rfl) ?_
  intro vp ve s vm args below meth vc hx hb hr hlk hts hown hml hnm ls hl hz hM hG R Q hR hQ
  have hown : s.vm.findClass "BlindMint" = some vm.cls := hown
  have hK := hG.K
  have hS : va_S (bm_A base) s.heap s.heap [] := va_S.rf
  have hl : lv_has ls 1 [(0, .int v)] := hl
  refine lv_iload_n hx hb dB_isAccount_0 rfl (lv_at hl 0 rfl) ?_
  refine lv_if_lt (tgt := 13) hx hb dB_isAccount_1 rfl (fun h1 => ?_) (fun h1 => ?_)
  · refine lv_iconst (v := 0) hx hb dB_isAccount_13 (by decide) ?_
    exact bm_zret hQ hx hb hr hlk (by decide) hM hS ⟨by first | exact congrArg (fun z => some (Value.int z)) (bm_bl_z (Or.inl h1) : bm_bl v 4 = 0).symm | exact congrArg (fun z => some (Value.int z)) (bm_bl_z (Or.inr h6) : bm_bl v 4 = 0).symm, rfl, hz⟩ (Nat.le_refl _) (Nat.le_refl _) dB_isAccount_14
  · refine lv_iload_n hx hb dB_isAccount_4 rfl (lv_at hl 0 rfl) ?_
    refine lv_iconst (v := 4) hx hb dB_isAccount_5 (by decide) ?_
    refine lv_icmp_ge (tgt := 13) hx hb dB_isAccount_6 rfl (fun h6 => ?_) (fun h6 => ?_)
    · refine lv_iconst (v := 0) hx hb dB_isAccount_13 (by decide) ?_
      exact bm_zret hQ hx hb hr hlk (by decide) hM hS ⟨by first | exact congrArg (fun z => some (Value.int z)) (bm_bl_z (Or.inl h1) : bm_bl v 4 = 0).symm | exact congrArg (fun z => some (Value.int z)) (bm_bl_z (Or.inr h6) : bm_bl v 4 = 0).symm, rfl, hz⟩ (Nat.le_refl _) (Nat.le_refl _) dB_isAccount_14
    · refine lv_iconst (v := 1) hx hb dB_isAccount_9 (by decide) ?_
      refine lv_goto (tgt := 14) hx hb dB_isAccount_10 rfl ?_
      exact bm_zret hQ hx hb hr hlk (by decide) hM hS ⟨by first | exact congrArg (fun z => some (Value.int z)) (bm_bl_o (fun q => q.elim h1 h6) : bm_bl v 4 = 1).symm, rfl, hz⟩ (Nat.le_refl _) (Nat.le_refl _) dB_isAccount_14
set_option maxHeartbeats 4000000 in
set_option maxRecDepth 100000 in
theorem bc_P_hasNumber (l : Launch) (D : va_G) (ct : Nat → ClassId) (base : Nat) (ad : Nat → Nat) (M : bm_Map) (sz : Nat) (v : Int32) : Met l yP_hasNumber (bm_ws yP_hasNumber cP_hasNumber 1 (some .boolean)) { frames := 0, cells := 0, slots := 0, locals := 0 } (bm_Pre D ct base ad M sz [.int v]) (bm_Post D base (bm_Is (some (.int (bm_bl v 16))) M sz)) 0 0 (bm_A base) := by
  refine bm_ofB (cc := cP_hasNumber) (maxL := 1) (ret := (some .boolean)) (by decide +kernel) (Nat.le_of_ble_eq_true rfl) ?_
  intro vp ve s vm args below meth vc hx hb hr hlk hts hown hml hnm ls hl hz hM hG R Q hR hQ
  have hown : s.vm.findClass "BlindMint$Payment" = some vm.cls := hown
  have hK := hG.K
  have hS : va_S (bm_A base) s.heap s.heap [] := va_S.rf
  have hl : lv_has ls 1 [(0, .int v)] := hl
  refine lv_iload_n hx hb dP_hasNumber_0 rfl (lv_at hl 0 rfl) ?_
  refine lv_if_lt (tgt := 14) hx hb dP_hasNumber_1 rfl (fun h1 => ?_) (fun h1 => ?_)
  · refine lv_iconst (v := 0) hx hb dP_hasNumber_14 (by decide) ?_
    exact bm_zret hQ hx hb hr hlk (by decide) hM hS ⟨by first | exact congrArg (fun z => some (Value.int z)) (bm_bl_z (Or.inl h1) : bm_bl v 16 = 0).symm | exact congrArg (fun z => some (Value.int z)) (bm_bl_z (Or.inr h7) : bm_bl v 16 = 0).symm, rfl, hz⟩ (Nat.le_refl _) (Nat.le_refl _) dP_hasNumber_15
  · refine lv_iload_n hx hb dP_hasNumber_4 rfl (lv_at hl 0 rfl) ?_
    refine lv_bipush (v := 16) hx hb dP_hasNumber_5 (by decide) ?_
    refine lv_icmp_ge (tgt := 14) hx hb dP_hasNumber_7 rfl (fun h7 => ?_) (fun h7 => ?_)
    · refine lv_iconst (v := 0) hx hb dP_hasNumber_14 (by decide) ?_
      exact bm_zret hQ hx hb hr hlk (by decide) hM hS ⟨by first | exact congrArg (fun z => some (Value.int z)) (bm_bl_z (Or.inl h1) : bm_bl v 16 = 0).symm | exact congrArg (fun z => some (Value.int z)) (bm_bl_z (Or.inr h7) : bm_bl v 16 = 0).symm, rfl, hz⟩ (Nat.le_refl _) (Nat.le_refl _) dP_hasNumber_15
    · refine lv_iconst (v := 1) hx hb dP_hasNumber_10 (by decide) ?_
      refine lv_goto (tgt := 15) hx hb dP_hasNumber_11 rfl ?_
      exact bm_zret hQ hx hb hr hlk (by decide) hM hS ⟨by first | exact congrArg (fun z => some (Value.int z)) (bm_bl_o (fun q => q.elim h1 h7) : bm_bl v 16 = 1).symm, rfl, hz⟩ (Nat.le_refl _) (Nat.le_refl _) dP_hasNumber_15
set_option maxHeartbeats 4000000 in
set_option maxRecDepth 100000 in
theorem bc_B_isDenomination (l : Launch) (D : va_G) (ct : Nat → ClassId) (base : Nat) (ad : Nat → Nat) (M : bm_Map) (sz : Nat) (v : Int64) : Met l yB_isDenomination (bm_ws yB_isDenomination cB_isDenomination 2 (some .boolean)) { frames := 0, cells := 0, slots := 0, locals := 0 } (bm_Pre D ct base ad M sz [.long v]) (bm_Post D base (bm_Is (some (.int (bm_bL v 3))) M sz)) 0 0 (bm_A base) := by
  refine bm_ofB (cc := cB_isDenomination) (maxL := 2) (ret := (some .boolean)) (by decide +kernel) (Nat.le_of_ble_eq_true rfl) ?_
  intro vp ve s vm args below meth vc hx hb hr hlk hts hown hml hnm ls hl hz hM hG R Q hR hQ
  have hown : s.vm.findClass "BlindMint" = some vm.cls := hown
  have hK := hG.K
  have hS : va_S (bm_A base) s.heap s.heap [] := va_S.rf
  have hl : lv_has ls 2 [(0, .long v)] := hl
  refine lv_lload_n hx hb dB_isDenomination_0 rfl (lv_at hl 0 rfl) ?_
  refine lv_lconst (v := 0) hx hb dB_isDenomination_1 (by decide) ?_
  refine W.lcmp hx hb dB_isDenomination_2 ?_
  refine lv_if_lt (tgt := 20) hx hb dB_isDenomination_3 rfl (fun h3 => ?_) (fun h3 => ?_)
  · refine lv_iconst (v := 0) hx hb dB_isDenomination_20 (by decide) ?_
    exact bm_zret hQ hx hb hr hlk (by decide) hM hS ⟨by first | exact congrArg (fun z => some (Value.int z)) (bm_bL_z (Or.inl ((lg_cmp_lt _ _).mp h3)) : bm_bL v 3 = 0).symm | exact congrArg (fun z => some (Value.int z)) (bm_bL_z (Or.inr ((lg_cmp_ge _ _).mp h13)) : bm_bL v 3 = 0).symm, rfl, hz⟩ (Nat.le_refl _) (Nat.le_refl _) dB_isDenomination_21
  · refine lv_lload_n hx hb dB_isDenomination_6 rfl (lv_at hl 0 rfl) ?_
    refine va_gets hx hb hG.2.2.2.1 hS hown (hts _ bw_165) (fun _ h9 => h9) dB_isDenomination_7 ?_
    refine va_tlen (v := 3) hx hb hG.2.2.2.2.1 hS (by decide) dB_isDenomination_10 ?_
    refine lv_i2l (v := 3) hx hb dB_isDenomination_11 (by decide) ?_
    refine W.lcmp hx hb dB_isDenomination_12 ?_
    refine lv_if_ge (tgt := 20) hx hb dB_isDenomination_13 rfl (fun h13 => ?_) (fun h13 => ?_)
    · refine lv_iconst (v := 0) hx hb dB_isDenomination_20 (by decide) ?_
      exact bm_zret hQ hx hb hr hlk (by decide) hM hS ⟨by first | exact congrArg (fun z => some (Value.int z)) (bm_bL_z (Or.inl ((lg_cmp_lt _ _).mp h3)) : bm_bL v 3 = 0).symm | exact congrArg (fun z => some (Value.int z)) (bm_bL_z (Or.inr ((lg_cmp_ge _ _).mp h13)) : bm_bL v 3 = 0).symm, rfl, hz⟩ (Nat.le_refl _) (Nat.le_refl _) dB_isDenomination_21
    · refine lv_iconst (v := 1) hx hb dB_isDenomination_16 (by decide) ?_
      refine lv_goto (tgt := 21) hx hb dB_isDenomination_17 rfl ?_
      exact bm_zret hQ hx hb hr hlk (by decide) hM hS ⟨by first | exact congrArg (fun z => some (Value.int z)) (bm_bL_o (fun q => q.elim (fun q => h3 ((lg_cmp_lt _ _).mpr q)) (fun q => h13 ((lg_cmp_ge _ _).mpr q))) : bm_bL v 3 = 1).symm, rfl, hz⟩ (Nat.le_refl _) (Nat.le_refl _) dB_isDenomination_21
set_option maxHeartbeats 4000000 in
set_option maxRecDepth 100000 in
theorem bc_B_isOne (l : Launch) (D : va_G) (ct : Nat → ClassId) (base : Nat) (ad : Nat → Nat) (M : bm_Map) (sz : Nat) (x : Int64) (i : Int32) : Met l yB_isOne (bm_ws yB_isOne cB_isOne 3 (some .boolean)) { frames := 0, cells := 0, slots := 0, locals := 0 } (bm_Pre D ct base ad M sz [.long x, .int i]) (bm_Post D base (bm_Is (some (.int (bm_one x i))) M sz)) 0 0 (bm_A base) := by
  refine bm_ofB (cc := cB_isOne) (maxL := 3) (ret := (some .boolean)) (by decide +kernel) (Nat.le_of_ble_eq_true rfl) ?_
  intro vp ve s vm args below meth vc hx hb hr hlk hts hown hml hnm ls hl hz hM hG R Q hR hQ
  have hown : s.vm.findClass "BlindMint" = some vm.cls := hown
  have hK := hG.K
  have hS : va_S (bm_A base) s.heap s.heap [] := va_S.rf
  have hl : lv_has ls 3 [(0, .long x), (2, .int i)] := hl
  refine lv_lload_n hx hb dB_isOne_0 rfl (lv_at hl 0 rfl) ?_
  refine lv_iload_n hx hb dB_isOne_1 rfl (lv_at hl 1 rfl) ?_
  refine lv_lshr hx hb dB_isOne_2 rfl ?_
  refine lv_lconst (v := 1) hx hb dB_isOne_3 (by decide) ?_
  refine lv_land hx hb dB_isOne_4 ?_
  refine lv_lconst (v := 1) hx hb dB_isOne_5 (by decide) ?_
  refine W.lcmp hx hb dB_isOne_6 ?_
  refine lv_if_ne (tgt := 14) hx hb dB_isOne_7 rfl (fun h7 => ?_) (fun h7 => ?_)
  · refine lv_iconst (v := 0) hx hb dB_isOne_14 (by decide) ?_
    exact bm_zret hQ hx hb hr hlk (by decide) hM hS ⟨by first | exact congrArg (fun z => some (Value.int z)) (if_neg (fun q => h7 ((lg_cmp_eq _ _).mpr q)) : bm_one x i = 0).symm, rfl, hz⟩ (Nat.le_refl _) (Nat.le_refl _) dB_isOne_15
  · refine lv_iconst (v := 1) hx hb dB_isOne_10 (by decide) ?_
    refine lv_goto (tgt := 15) hx hb dB_isOne_11 rfl ?_
    exact bm_zret hQ hx hb hr hlk (by decide) hM hS ⟨by first | exact congrArg (fun z => some (Value.int z)) (if_pos ((lg_cmp_eq _ _).mp h7) : bm_one x i = 1).symm, rfl, hz⟩ (Nat.le_refl _) (Nat.le_refl _) dB_isOne_15
set_option maxHeartbeats 4000000 in
set_option maxRecDepth 100000 in
theorem bc_P_firstOfPart (l : Launch) (D : va_G) (ct : Nat → ClassId) (base : Nat) (ad : Nat → Nat) (M : bm_Map) (sz : Nat) (j : Nat) : Met l yP_firstOfPart (bm_ws yP_firstOfPart cP_firstOfPart 1 (some .int)) { frames := 0, cells := 0, slots := 0, locals := 0 } (bm_Pre D ct base ad M sz [.int (nI j)]) (bm_Post D base (bm_Is (some (.int (4 + nI j * 3))) M sz)) 0 0 (bm_A base) := by
  refine bm_ofB (cc := cP_firstOfPart) (maxL := 1) (ret := (some .int)) (by decide +kernel) (Nat.le_of_ble_eq_true rfl) ?_
  intro vp ve s vm args below meth vc hx hb hr hlk hts hown hml hnm ls hl hz hM hG R Q hR hQ
  have hown : s.vm.findClass "BlindMint$Payment" = some vm.cls := hown
  have hK := hG.K
  have hS : va_S (bm_A base) s.heap s.heap [] := va_S.rf
  have hl : lv_has ls 1 [(0, .int (nI j))] := hl
  refine lv_iconst (v := 4) hx hb dP_firstOfPart_0 (by decide) ?_
  refine lv_iload_n hx hb dP_firstOfPart_1 rfl (lv_at hl 0 rfl) ?_
  refine lv_iconst (v := 3) hx hb dP_firstOfPart_2 (by decide) ?_
  refine lv_imul hx hb dP_firstOfPart_3 ?_
  refine lv_iadd hx hb dP_firstOfPart_4 ?_
  exact bm_iret hQ hx hb hr hlk hM hS ⟨rfl, rfl, hz⟩ (Nat.le_refl _) (Nat.le_refl _) dP_firstOfPart_5
set_option maxHeartbeats 4000000 in
set_option maxRecDepth 100000 in
theorem bc_F_multiply (l : Launch) (D : va_G) (ct : Nat → ClassId) (base : Nat) (ad : Nat → Nat) (M : bm_Map) (sz : Nat) (a b q : Nat) (ha : a < 2 ^ 63) (hb1 : b < 2 ^ 63) (hq1 : 0 < q) (hq2 : q < 2 ^ 31) : Met l yF_multiply (bm_ws yF_multiply cF_multiply 6 (some .long)) { frames := 0, cells := 0, slots := 0, locals := 0 } (bm_Pre D ct base ad M sz [.long (lN a), .long (lN b), .long (lN q)]) (bm_Post D base (bm_Is (some (.long (lN (a % q * (b % q) % q)))) M sz)) 0 0 (bm_A base) := by
  refine bm_ofB (cc := cF_multiply) (maxL := 6) (ret := (some .long)) (by decide +kernel) (Nat.le_of_ble_eq_true rfl) ?_
  intro vp ve s vm args below meth vc hx hb hr hlk hts hown hml hnm ls hl hz hM hG R Q hR hQ
  have hown : s.vm.findClass "BlindMint$Field" = some vm.cls := hown
  have hK := hG.K
  have hS : va_S (bm_A base) s.heap s.heap [] := va_S.rf
  have hl : lv_has ls 6 [(0, .long (lN a)), (2, .long (lN b)), (4, .long (lN q))] := hl
  refine lv_lload_n hx hb dF_multiply_0 rfl (lv_at hl 0 rfl) ?_
  refine lv_lload hx hb dF_multiply_1 (lv_at hl 2 rfl) ?_
  refine lv_lrem hx hb dF_multiply_3 (bm_lN_ne (by omega) (by omega)) ?_
  refine lv_topl (fun t1 e_t1 => ?_)
  have e_t1 : t1 = lN (a % q) := by rw [e_t1]; rw [pk_lRem ha (by omega) (by omega)]
  subst e_t1
  refine lv_lload_n hx hb dF_multiply_4 rfl (lv_at hl 1 rfl) ?_
  refine lv_lload hx hb dF_multiply_5 (lv_at hl 2 rfl) ?_
  refine lv_lrem hx hb dF_multiply_7 (bm_lN_ne (by omega) (by omega)) ?_
  refine lv_topl (fun t2 e_t2 => ?_)
  have e_t2 : t2 = lN (b % q) := by rw [e_t2]; rw [pk_lRem hb1 (by omega) (by omega)]
  subst e_t2
  refine lv_lmul hx hb dF_multiply_8 ?_
  refine lv_lload hx hb dF_multiply_9 (lv_at hl 2 rfl) ?_
  refine lv_lrem hx hb dF_multiply_11 (bm_lN_ne (by omega) (by omega)) ?_
  have ha1 : a % q < q := Nat.mod_lt _ (by omega)
  have hb2 : b % q < q := Nat.mod_lt _ (by omega)
  refine lv_topl (fun t3 e_t3 => ?_)
  have e_t3 : t3 = lN (a % q * (b % q) % q) := by rw [e_t3]; rw [lN_mul, pk_lRem (bm_mul_lt ha1 hb2 hq2) (by omega) (by omega)]
  subst e_t3
  exact bm_lret hQ hx hb hr hlk hM hS ⟨rfl, rfl, hz⟩ (Nat.le_refl _) (Nat.le_refl _) dF_multiply_12
set_option maxHeartbeats 4000000 in
set_option maxRecDepth 100000 in
theorem bc_F_power (l : Launch) (D : va_G) (ct : Nat → ClassId) (base : Nat) (ad : Nat → Nat) (M : bm_Map) (sz : Nat) (b x q : Nat) (hb1 : b < 2 ^ 63) (hx1 : x < 2 ^ 30) (hq1 : 1 < q) (hq2 : q < 2 ^ 31) : Met l yF_power (bm_ws yF_power cF_power 11 (some .long)) { frames := 1, cells := 0, slots := 0, locals := 22 } (bm_Pre D ct base ad M sz [.long (lN b), .long (lN x), .long (lN q)]) (bm_Post D base (bm_Is (some (.long (lN (b ^ x % q)))) M sz)) 0 0 (bm_A base) := by
  refine bm_ofB (cc := cF_power) (maxL := 11) (ret := (some .long)) (by decide +kernel) (Nat.le_of_ble_eq_true rfl) ?_
  intro vp ve s vm args below meth vc hx hb hr hlk hts hown hml hnm ls hl hz hM hG R Q hR hQ
  have hown : s.vm.findClass "BlindMint$Field" = some vm.cls := hown
  have hK := hG.K
  have hS : va_S (bm_A base) s.heap s.heap [] := va_S.rf
  have hl : lv_has ls 11 [(0, .long (lN b)), (2, .long (lN x)), (4, .long (lN q))] := hl
  refine lv_lload_n hx hb dF_power_0 rfl (lv_at hl 0 rfl) ?_
  refine lv_lload hx hb dF_power_1 (lv_at hl 2 rfl) ?_
  refine lv_lrem hx hb dF_power_3 (bm_lN_ne (by omega) (by omega)) ?_
  refine lv_topl (fun t1 e_t1 => ?_)
  have e_t1 : t1 = lN (b ^ (2 ^ 0) % q) := by rw [e_t1]; rw [pk_lRem hb1 (by omega) (by omega), Nat.pow_zero, Nat.pow_one]
  subst e_t1
  refine lv_lstore hx hb dF_power_4 hl (by decide) rfl (fun ls hl => ?_)
  have hl : lv_has ls 11 [(6, .long (lN (b ^ (2 ^ 0) % q))), (0, .long (lN b)), (2, .long (lN x)), (4, .long (lN q))] := hl
  refine lv_lconst (v := 1) hx hb dF_power_6 (by decide) ?_
  refine lv_topl (fun t2 e_t2 => ?_)
  have e_t2 : t2 = lN (b ^ (x % 2 ^ 0) % q) := by rw [e_t2]; exact bm_pow_z hq1
  subst e_t2
  refine lv_lstore hx hb dF_power_7 hl (by decide) rfl (fun ls hl => ?_)
  have hl : lv_has ls 11 [(8, .long (lN (b ^ (x % 2 ^ 0) % q))), (6, .long (lN (b ^ (2 ^ 0) % q))), (0, .long (lN b)), (2, .long (lN x)), (4, .long (lN q))] := hl
  refine lv_iconst (v := 0) hx hb dF_power_9 (by decide) ?_
  refine lv_istore hx hb dF_power_10 hl (by decide) rfl (fun ls hl => ?_)
  have hl : lv_has ls 11 [(10, .int 0), (8, .long (lN (b ^ (x % 2 ^ 0) % q))), (6, .long (lN (b ^ (2 ^ 0) % q))), (0, .long (lN b)), (2, .long (lN x)), (4, .long (lN q))] := hl
  have hl : lv_has ls 11 [(8, .long (lN (b ^ (x % 2 ^ 0) % q))), (6, .long (lN (b ^ (2 ^ 0) % q))), (10, .int 0), (2, .long (lN x)), (4, .long (lN q))] := lv_sub hl [1, 2, 0, 4, 5] rfl
  have loop : ∀ (n : Nat) (i : Nat) (ls : Array Slot) (H : Heap) (locs : List Loc), i + n = 30 → lv_has ls 11 [(8, .long (lN (b ^ (x % 2 ^ i) % q))), (6, .long (lN (b ^ (2 ^ i) % q))), (10, .int (nI i)), (2, .long (lN x)), (4, .long (lN q))] → H.size = sz → bm_M D base M H → va_S (bm_A base) s.heap H locs → W vp l ve R s vm args below meth vc H locs 0 0 Q (F0 vm 12 ls []) := by
    intro n
    induction n with
    | zero =>
      intro i ls H locs hi hl hz hM hS
      obtain rfl : i = 30 := by omega
      rw [Nat.mod_eq_of_lt hx1] at hl
      have hl : lv_has ls 11 [(8, .long (lN (b ^ x % q))), (6, .long (lN (b ^ (2 ^ 30) % q))), (10, .int 30), (2, .long (lN x)), (4, .long (lN q))] := hl
      refine lv_iload hx hb dF_power_12 (lv_at hl 2 rfl) ?_
      refine lv_bipush (v := 30) hx hb dF_power_14 (by decide) ?_
      refine lv_icmp_ge (tgt := 54) hx hb dF_power_16 rfl (fun _ => ?_) (fun h => absurd h (by decide))
      refine lv_lload hx hb dF_power_54 (lv_at hl 0 rfl) ?_
      exact bm_lret hQ hx hb hr hlk hM hS ⟨rfl, rfl, hz⟩ (Nat.le_refl _) (Nat.le_refl _) dF_power_56
    | succ n ih =>
      intro i ls H locs hi hl hz hM hS
      have hp1 : b ^ (x % 2 ^ i) % q < q := Nat.mod_lt _ (by omega)
      have hp2 : b ^ (2 ^ i) % q < q := Nat.mod_lt _ (by omega)
      refine lv_iload hx hb dF_power_12 (lv_at hl 2 rfl) ?_
      refine lv_bipush (v := 30) hx hb dF_power_14 (by decide) ?_
      refine lv_icmp_ge (tgt := 54) hx hb dF_power_16 rfl (fun h16 => absurd h16 (nI_ge (b := 30) (by omega) (by decide))) (fun h16 => ?_)
      refine lv_lload_n hx hb dF_power_19 rfl (lv_at hl 3 rfl) ?_
      refine lv_iload hx hb dF_power_20 (lv_at hl 2 rfl) ?_
      refine bm_callE (va_runSN (As := [.long (lN x), .int (nI i)]) (rest := []) ⟨hx, hb, hml, hown, hts⟩ (bc_B_isOne l D ct base ad M sz (lN x) (nI i)) ⟨va_cnB 2 hts (bm_goodW bw_196) rfl rfl rfl (hG.2.2.1.w212) (hts _ bw_1) (by decide +kernel) (by rw [← hR]; exact ⟨Nat.le_of_ble_eq_true rfl, Nat.le_of_ble_eq_true rfl⟩), hts _ bw_195, trivial⟩ (bm_preS hM hG hS hz) rfl rfl hl.1 rfl (lv_room (Nat.le_of_ble_eq_true rfl)) dF_power_22 (by rw [← hR]; exact ⟨Nat.le_of_ble_eq_true rfl, Nat.le_of_ble_eq_true rfl⟩)) hS (fun H locs hz hM hS => ?_)
      refine lv_if_eq (tgt := 38) hx hb dF_power_25 rfl (fun h25 => ?_) (fun h25 => ?_)
      · rw [bm_one_n (by omega) (by omega)] at h25
        rw [bm_pow_0 (p := q) (b := b) (bm_if0 h25)] at hl
        refine lv_lload hx hb dF_power_38 (lv_at hl 1 rfl) ?_
        refine lv_lload hx hb dF_power_40 (lv_at hl 1 rfl) ?_
        refine lv_lmul hx hb dF_power_42 ?_
        refine lv_lload hx hb dF_power_43 (lv_at hl 4 rfl) ?_
        refine lv_lrem hx hb dF_power_45 (bm_lN_ne (by omega) (by omega)) ?_
        refine lv_topl (fun t3 e_t3 => ?_)
        have e_t3 : t3 = lN (b ^ (2 ^ (i + 1)) % q) := by rw [e_t3]; rw [lN_mul, pk_lRem (bm_mul_lt hp2 hp2 hq2) (by omega) (by omega), bm_pow_s]
        subst e_t3
        refine lv_lstore hx hb dF_power_46 hl (by decide) rfl (fun ls hl => ?_)
        have hl : lv_has ls 11 [(6, .long (lN (b ^ (2 ^ (i + 1)) % q))), (8, .long (lN (b ^ (x % 2 ^ (i + 1)) % q))), (10, .int (nI i)), (2, .long (lN x)), (4, .long (lN q))] := hl
        refine lv_iinc (v := nI (i + 1)) (k := 2) hx hb dF_power_48 hl rfl (bm_inc i) (by decide) rfl (fun ls hl => ?_)
        have hl : lv_has ls 11 [(10, .int (nI (i + 1))), (6, .long (lN (b ^ (2 ^ (i + 1)) % q))), (8, .long (lN (b ^ (x % 2 ^ (i + 1)) % q))), (2, .long (lN x)), (4, .long (lN q))] := hl
        refine lv_goto (tgt := 12) hx hb dF_power_51 rfl ?_
        have hl : lv_has ls 11 [(8, .long (lN (b ^ (x % 2 ^ (i + 1)) % q))), (6, .long (lN (b ^ (2 ^ (i + 1)) % q))), (10, .int (nI (i + 1))), (2, .long (lN x)), (4, .long (lN q))] := lv_sub hl [2, 1, 0, 3, 4] rfl
        exact ih (i + 1) ls _ _ (by omega) hl hz hM hS
      · rw [bm_one_n (by omega) (by omega)] at h25
        refine lv_lload hx hb dF_power_28 (lv_at hl 0 rfl) ?_
        refine lv_lload hx hb dF_power_30 (lv_at hl 1 rfl) ?_
        refine lv_lmul hx hb dF_power_32 ?_
        refine lv_lload hx hb dF_power_33 (lv_at hl 4 rfl) ?_
        refine lv_lrem hx hb dF_power_35 (bm_lN_ne (by omega) (by omega)) ?_
        refine lv_topl (fun t4 e_t4 => ?_)
        have e_t4 : t4 = lN (b ^ (x % 2 ^ (i + 1)) % q) := by rw [e_t4]; rw [lN_mul, pk_lRem (bm_mul_lt hp1 hp2 hq2) (by omega) (by omega), bm_pow_1 (bm_if1 h25)]
        subst e_t4
        refine lv_lstore hx hb dF_power_36 hl (by decide) rfl (fun ls hl => ?_)
        have hl : lv_has ls 11 [(8, .long (lN (b ^ (x % 2 ^ (i + 1)) % q))), (6, .long (lN (b ^ (2 ^ i) % q))), (10, .int (nI i)), (2, .long (lN x)), (4, .long (lN q))] := hl
        refine lv_lload hx hb dF_power_38 (lv_at hl 1 rfl) ?_
        refine lv_lload hx hb dF_power_40 (lv_at hl 1 rfl) ?_
        refine lv_lmul hx hb dF_power_42 ?_
        refine lv_lload hx hb dF_power_43 (lv_at hl 4 rfl) ?_
        refine lv_lrem hx hb dF_power_45 (bm_lN_ne (by omega) (by omega)) ?_
        refine lv_topl (fun t5 e_t5 => ?_)
        have e_t5 : t5 = lN (b ^ (2 ^ (i + 1)) % q) := by rw [e_t5]; rw [lN_mul, pk_lRem (bm_mul_lt hp2 hp2 hq2) (by omega) (by omega), bm_pow_s]
        subst e_t5
        refine lv_lstore hx hb dF_power_46 hl (by decide) rfl (fun ls hl => ?_)
        have hl : lv_has ls 11 [(6, .long (lN (b ^ (2 ^ (i + 1)) % q))), (8, .long (lN (b ^ (x % 2 ^ (i + 1)) % q))), (10, .int (nI i)), (2, .long (lN x)), (4, .long (lN q))] := hl
        refine lv_iinc (v := nI (i + 1)) (k := 2) hx hb dF_power_48 hl rfl (bm_inc i) (by decide) rfl (fun ls hl => ?_)
        have hl : lv_has ls 11 [(10, .int (nI (i + 1))), (6, .long (lN (b ^ (2 ^ (i + 1)) % q))), (8, .long (lN (b ^ (x % 2 ^ (i + 1)) % q))), (2, .long (lN x)), (4, .long (lN q))] := hl
        refine lv_goto (tgt := 12) hx hb dF_power_51 rfl ?_
        have hl : lv_has ls 11 [(8, .long (lN (b ^ (x % 2 ^ (i + 1)) % q))), (6, .long (lN (b ^ (2 ^ (i + 1)) % q))), (10, .int (nI (i + 1))), (2, .long (lN x)), (4, .long (lN q))] := lv_sub hl [2, 1, 0, 3, 4] rfl
        exact ih (i + 1) ls _ _ (by omega) hl hz hM hS
  exact loop 30 0 ls _ _ rfl hl hz hM hS
