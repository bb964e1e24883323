set_option maxHeartbeats 4000000 in
set_option maxRecDepth 100000 in
theorem bc_F_divide (l : Launch) (D : va_G) (ct : Nat → ClassId) (base : Nat) (ad : Nat → Nat) (M : bm_Map) (sz : Nat) (a b q : Nat) (ha : a < 2 ^ 63) (hb1 : b < 2 ^ 63) (hq1 : 2 < q) (hq2 : q < 2 ^ 30) : Met l yF_divide (bm_ws yF_divide cF_divide 6 (some .long)) { frames := 2, cells := 0, slots := 0, locals := 52 } (bm_Pre D ct base ad M sz [.long (lN a), .long (lN b), .long (lN q)]) (bm_Post D base (bm_Is (some (.long (lN (a % q * (b ^ (q - 2) % q) % q)))) M sz)) 0 0 (bm_A base) := by
  refine bm_ofB (cc := cF_divide) (maxL := 6) (ret := (some .long)) (by decide +kernel) (Nat.le_of_ble_eq_true rfl) ?_
  intro vp ve s vm args below meth vc hx hb hr hlk hts hown hml hnm ls hl hz hM hG R Q hR hQ
  have hown : s.vm.findClass "BlindMint$Field" = some vm.cls := hown
  have hK := hG.K
  have hS : va_S (bm_A base) s.heap s.heap [] := va_S.rf
  have hl : lv_has ls 6 [(0, .long (lN a)), (2, .long (lN b)), (4, .long (lN q))] := hl
  refine lv_lload_n hx hb dF_divide_0 rfl (lv_at hl 0 rfl) ?_
  refine lv_lload_n hx hb dF_divide_1 rfl (lv_at hl 1 rfl) ?_
  refine lv_lload hx hb dF_divide_2 (lv_at hl 2 rfl) ?_
  refine lv_ldc2 hx hb hown (hts _ bw_389) dF_divide_4 ?_
  refine lv_lsub hx hb dF_divide_7 ?_
  refine lv_topl (fun t1 e_t1 => ?_)
  have e_t1 : t1 = lN (q - 2) := by rw [e_t1]; exact lN_sub (b := 2) (by omega)
  subst e_t1
  refine lv_lload hx hb dF_divide_8 (lv_at hl 2 rfl) ?_
  refine bm_callE (va_runS (As := [.long (lN b), .long (lN (q - 2)), .long (lN q)]) (rest := [.long (lN a)]) ⟨hx, hb, hml, hown, hts⟩ (bc_F_power l D ct base ad M sz b (q - 2) q hb1 (by omega) (by omega) (by omega)) (va_cwS 3 hts (bm_goodS bw_390 bw_210 bw_12 bw_211) rfl rfl rfl (by decide +kernel) (by rw [← hR]; exact ⟨Nat.le_of_ble_eq_true rfl, Nat.le_of_ble_eq_true rfl⟩)) (bm_preS hM hG hS hz) rfl rfl hl.1 rfl (lv_room (Nat.le_of_ble_eq_true rfl)) dF_divide_10 (by rw [← hR]; exact ⟨Nat.le_of_ble_eq_true rfl, Nat.le_of_ble_eq_true rfl⟩)) hS (fun H locs hz hM hS => ?_)
  refine lv_lload hx hb dF_divide_13 (lv_at hl 2 rfl) ?_
  have hpw : b ^ (q - 2) % q < q := Nat.mod_lt _ (by omega)
  refine bm_callE (va_runS (As := [.long (lN a), .long (lN (b ^ (q - 2) % q)), .long (lN q)]) (rest := []) ⟨hx, hb, hml, hown, hts⟩ (bc_F_multiply l D ct base ad M sz a (b ^ (q - 2) % q) q ha (by omega) (by omega) (by omega)) (va_cwS 3 hts (bm_goodS bw_391 bw_376 bw_12 bw_377) rfl rfl rfl (by decide +kernel) (by rw [← hR]; exact ⟨Nat.le_of_ble_eq_true rfl, Nat.le_of_ble_eq_true rfl⟩)) (bm_preS hM hG hS hz) rfl rfl hl.1 rfl (lv_room (Nat.le_of_ble_eq_true rfl)) dF_divide_15 (by rw [← hR]; exact ⟨Nat.le_of_ble_eq_true rfl, Nat.le_of_ble_eq_true rfl⟩)) hS (fun H locs hz hM hS => ?_)
  refine lv_topl (fun t2 e_t2 => ?_)
  have e_t2 : t2 = lN (a % q * (b ^ (q - 2) % q) % q) := by rw [e_t2]; rw [bm_mm]
  subst e_t2
  exact bm_lret hQ hx hb hr hlk hM hS ⟨rfl, rfl, hz⟩ (Nat.le_refl _) (Nat.le_refl _) dF_divide_18
set_option maxHeartbeats 4000000 in
set_option maxRecDepth 100000 in
theorem bc_F_rootExponent (l : Launch) (D : va_G) (ct : Nat → ClassId) (base : Nat) (ad : Nat → Nat) (M : bm_Map) (sz : Nat) (q k0 : Nat) (hk0 : 1 ≤ k0) (hk1 : k0 < 17) (hz0 : (1 + k0 * (q - 1)) % 17 = 0) (hlo : ∀ k, k < k0 → (1 + k * (q - 1)) % 17 ≠ 0) (hq1 : 1 < q) (hq2 : q < 2 ^ 30) : Met l yF_rootExponent (bm_ws yF_rootExponent cF_rootExponent 8 (some .long)) { frames := 0, cells := 0, slots := 0, locals := 0 } (bm_Pre D ct base ad M sz [.long 17, .long (lN q)]) (bm_Post D base (bm_Is (some (.long (lN (bm_u k0 q)))) M sz)) 0 0 (bm_A base) := by
  refine bm_ofB (cc := cF_rootExponent) (maxL := 8) (ret := (some .long)) (by decide +kernel) (Nat.le_of_ble_eq_true rfl) ?_
  intro vp ve s vm args below meth vc hx hb hr hlk hts hown hml hnm ls hl hz hM hG R Q hR hQ
  have hown : s.vm.findClass "BlindMint$Field" = some vm.cls := hown
  have hK := hG.K
  have hS : va_S (bm_A base) s.heap s.heap [] := va_S.rf
  have hl : lv_has ls 8 [(0, .long 17), (2, .long (lN q))] := hl
  refine lv_lconst (v := 1) hx hb dF_rootExponent_0 (by decide) ?_
  refine lv_lstore hx hb dF_rootExponent_1 hl (by decide) rfl (fun ls hl => ?_)
  have hl : lv_has ls 8 [(4, .long 1), (0, .long 17), (2, .long (lN q))] := hl
  have hl : lv_has ls 8 [(0, .long 17), (2, .long (lN q)), (4, .long 1)] := lv_sub hl [1, 2, 0] rfl
  have loop : ∀ (n : Nat) (k : Nat) (ls : Array Slot) (H : Heap) (locs : List Loc), 1 ≤ k → k + n = k0 → lv_has ls 8 [(0, .long 17), (2, .long (lN q)), (4, .long (lN k))] → H.size = sz → bm_M D base M H → va_S (bm_A base) s.heap H locs → W vp l ve R s vm args below meth vc H locs 0 0 Q (F0 vm 3 ls []) := by
    intro n
    induction n with
    | zero =>
      intro k ls H locs hk1 hk hl hz hM hS
      obtain rfl : k = k0 := by omega
      have hkq : k * (q - 1) ≤ 16 * 2 ^ 30 := Nat.mul_le_mul (by omega) (by omega)
      refine lv_lload hx hb dF_rootExponent_3 (lv_at hl 2 rfl) ?_
      refine lv_lload_n hx hb dF_rootExponent_5 rfl (lv_at hl 0 rfl) ?_
      refine W.lcmp hx hb dF_rootExponent_6 ?_
      refine lv_if_ge (tgt := 43) hx hb dF_rootExponent_7 rfl (fun h7 => absurd ((lg_cmp_ge _ _).mp h7) (fun z => by have := (pk_lLE (a := 17) (b := k) (by decide) (by omega)).mp z; omega)) (fun h7 => ?_)
      refine lv_lconst (v := 1) hx hb dF_rootExponent_10 (by decide) ?_
      refine lv_lload hx hb dF_rootExponent_11 (lv_at hl 2 rfl) ?_
      refine lv_lload_n hx hb dF_rootExponent_13 rfl (lv_at hl 1 rfl) ?_
      refine lv_lconst (v := 1) hx hb dF_rootExponent_14 (by decide) ?_
      refine lv_lsub hx hb dF_rootExponent_15 ?_
      refine lv_lmul hx hb dF_rootExponent_16 ?_
      refine lv_ladd hx hb dF_rootExponent_17 ?_
      refine lv_topl (fun t1 e_t1 => ?_)
      have e_t1 : t1 = lN (1 + k * (q - 1)) := by rw [e_t1]; rw [show (lN q - 1 : Int64) = lN (q - 1) from lN_sub (b := 1) (by omega), lN_mul]; exact lN_add 1 _
      subst e_t1
      refine lv_lstore hx hb dF_rootExponent_18 hl (by decide) rfl (fun ls hl => ?_)
      have hl : lv_has ls 8 [(6, .long (lN (1 + k * (q - 1)))), (0, .long 17), (2, .long (lN q)), (4, .long (lN k))] := hl
      refine lv_lload hx hb dF_rootExponent_20 (lv_at hl 0 rfl) ?_
      refine lv_lload_n hx hb dF_rootExponent_22 rfl (lv_at hl 1 rfl) ?_
      refine lv_lrem hx hb dF_rootExponent_23 (by decide) ?_
      refine lv_topl (fun t2 e_t2 => ?_)
      have e_t2 : t2 = lN ((1 + k * (q - 1)) % 17) := by rw [e_t2]; exact pk_lRem (b := 17) (by omega) (by decide) (by decide)
      subst e_t2
      refine lv_lconst (v := 0) hx hb dF_rootExponent_24 (by decide) ?_
      refine W.lcmp hx hb dF_rootExponent_25 ?_
      refine lv_if_ne (tgt := 34) hx hb dF_rootExponent_26 rfl (fun h26 => absurd (by rw [hz0]; decide) h26) (fun h26 => ?_)
      refine lv_lload hx hb dF_rootExponent_29 (lv_at hl 0 rfl) ?_
      refine lv_lload_n hx hb dF_rootExponent_31 rfl (lv_at hl 1 rfl) ?_
      refine lv_ldiv hx hb dF_rootExponent_32 (by decide) ?_
      refine lv_topl (fun t3 e_t3 => ?_)
      have e_t3 : t3 = lN (bm_u k q) := by rw [e_t3]; exact pk_lDiv (b := 17) (by omega) (by decide) (by decide)
      subst e_t3
      exact bm_lret hQ hx hb hr hlk hM hS ⟨rfl, rfl, hz⟩ (Nat.le_refl _) (Nat.le_refl _) dF_rootExponent_33
    | succ n ih =>
      intro k ls H locs hk1 hk hl hz hM hS
      have hkq : k * (q - 1) ≤ 16 * 2 ^ 30 := Nat.mul_le_mul (by omega) (by omega)
      refine lv_lload hx hb dF_rootExponent_3 (lv_at hl 2 rfl) ?_
      refine lv_lload_n hx hb dF_rootExponent_5 rfl (lv_at hl 0 rfl) ?_
      refine W.lcmp hx hb dF_rootExponent_6 ?_
      refine lv_if_ge (tgt := 43) hx hb dF_rootExponent_7 rfl (fun h7 => absurd ((lg_cmp_ge _ _).mp h7) (fun z => by have := (pk_lLE (a := 17) (b := k) (by decide) (by omega)).mp z; omega)) (fun h7 => ?_)
      refine lv_lconst (v := 1) hx hb dF_rootExponent_10 (by decide) ?_
      refine lv_lload hx hb dF_rootExponent_11 (lv_at hl 2 rfl) ?_
      refine lv_lload_n hx hb dF_rootExponent_13 rfl (lv_at hl 1 rfl) ?_
      refine lv_lconst (v := 1) hx hb dF_rootExponent_14 (by decide) ?_
      refine lv_lsub hx hb dF_rootExponent_15 ?_
      refine lv_lmul hx hb dF_rootExponent_16 ?_
      refine lv_ladd hx hb dF_rootExponent_17 ?_
      refine lv_topl (fun t4 e_t4 => ?_)
      have e_t4 : t4 = lN (1 + k * (q - 1)) := by rw [e_t4]; rw [show (lN q - 1 : Int64) = lN (q - 1) from lN_sub (b := 1) (by omega), lN_mul]; exact lN_add 1 _
      subst e_t4
      refine lv_lstore hx hb dF_rootExponent_18 hl (by decide) rfl (fun ls hl => ?_)
      have hl : lv_has ls 8 [(6, .long (lN (1 + k * (q - 1)))), (0, .long 17), (2, .long (lN q)), (4, .long (lN k))] := hl
      refine lv_lload hx hb dF_rootExponent_20 (lv_at hl 0 rfl) ?_
      refine lv_lload_n hx hb dF_rootExponent_22 rfl (lv_at hl 1 rfl) ?_
      refine lv_lrem hx hb dF_rootExponent_23 (by decide) ?_
      refine lv_topl (fun t5 e_t5 => ?_)
      have e_t5 : t5 = lN ((1 + k * (q - 1)) % 17) := by rw [e_t5]; exact pk_lRem (b := 17) (by omega) (by decide) (by decide)
      subst e_t5
      refine lv_lconst (v := 0) hx hb dF_rootExponent_24 (by decide) ?_
      refine W.lcmp hx hb dF_rootExponent_25 ?_
      refine lv_if_ne (tgt := 34) hx hb dF_rootExponent_26 rfl (fun h26 => ?_) (fun h26 => absurd ((lg_cmp_eq _ _).mp h26) (bm_lN_ne (by have := hlo k (by omega); omega) (by omega)))
      refine lv_lload hx hb dF_rootExponent_34 (lv_at hl 3 rfl) ?_
      refine lv_lconst (v := 1) hx hb dF_rootExponent_36 (by decide) ?_
      refine lv_ladd hx hb dF_rootExponent_37 ?_
      refine lv_topl (fun t6 e_t6 => ?_)
      have e_t6 : t6 = lN (k + 1) := by rw [e_t6]; exact lN_1 k
      subst e_t6
      refine lv_lstore hx hb dF_rootExponent_38 hl (by decide) rfl (fun ls hl => ?_)
      have hl : lv_has ls 8 [(4, .long (lN (k + 1))), (6, .long (lN (1 + k * (q - 1)))), (0, .long 17), (2, .long (lN q))] := hl
      refine lv_goto (tgt := 3) hx hb dF_rootExponent_40 rfl ?_
      have hl : lv_has ls 8 [(0, .long 17), (2, .long (lN q)), (4, .long (lN (k + 1)))] := lv_sub hl [2, 3, 0] rfl
      exact ih (k + 1) ls _ _ (by omega) (by omega) hl hz hM hS
  exact loop (k0 - 1) 1 ls _ _ (by decide) (by omega) hl hz hM hS
set_option maxHeartbeats 4000000 in
set_option maxRecDepth 100000 in
theorem bc_F_root (l : Launch) (D : va_G) (ct : Nat → ClassId) (base : Nat) (ad : Nat → Nat) (M : bm_Map) (sz : Nat) (a q k0 : Nat) (ha : a < 2 ^ 63) (hu : bm_u k0 q < 2 ^ 30) (hk0 : 1 ≤ k0) (hk1 : k0 < 17) (hz0 : (1 + k0 * (q - 1)) % 17 = 0) (hlo : ∀ k, k < k0 → (1 + k * (q - 1)) % 17 ≠ 0) (hq1 : 1 < q) (hq2 : q < 2 ^ 30) : Met l yF_root (bm_ws yF_root cF_root 6 (some .long)) { frames := 2, cells := 0, slots := 0, locals := 52 } (bm_Pre D ct base ad M sz [.long (lN a), .long 17, .long (lN q)]) (bm_Post D base (bm_Is (some (.long (lN (a ^ bm_u k0 q % q)))) M sz)) 0 0 (bm_A base) := by
  refine bm_ofB (cc := cF_root) (maxL := 6) (ret := (some .long)) (by decide +kernel) (Nat.le_of_ble_eq_true rfl) ?_
  intro vp ve s vm args below meth vc hx hb hr hlk hts hown hml hnm ls hl hz hM hG R Q hR hQ
  have hown : s.vm.findClass "BlindMint$Field" = some vm.cls := hown
  have hK := hG.K
  have hS : va_S (bm_A base) s.heap s.heap [] := va_S.rf
  have hl : lv_has ls 6 [(0, .long (lN a)), (2, .long 17), (4, .long (lN q))] := hl
  refine lv_lload_n hx hb dF_root_0 rfl (lv_at hl 0 rfl) ?_
  refine lv_lload_n hx hb dF_root_1 rfl (lv_at hl 1 rfl) ?_
  refine lv_lload hx hb dF_root_2 (lv_at hl 2 rfl) ?_
  refine bm_callE (va_runS (As := [.long 17, .long (lN q)]) (rest := [.long (lN a)]) ⟨hx, hb, hml, hown, hts⟩ (bc_F_rootExponent l D ct base ad M sz q k0 hk0 hk1 hz0 hlo hq1 hq2) (va_cwS 2 hts (bm_goodS bw_399 bw_400 bw_12 bw_401) rfl rfl rfl (by decide +kernel) (by rw [← hR]; exact ⟨Nat.le_of_ble_eq_true rfl, Nat.le_of_ble_eq_true rfl⟩)) (bm_preS hM hG hS hz) rfl rfl hl.1 rfl (lv_room (Nat.le_of_ble_eq_true rfl)) dF_root_4 (by rw [← hR]; exact ⟨Nat.le_of_ble_eq_true rfl, Nat.le_of_ble_eq_true rfl⟩)) hS (fun H locs hz hM hS => ?_)
  refine lv_lload hx hb dF_root_7 (lv_at hl 2 rfl) ?_
  refine bm_callE (va_runS (As := [.long (lN a), .long (lN (bm_u k0 q)), .long (lN q)]) (rest := []) ⟨hx, hb, hml, hown, hts⟩ (bc_F_power l D ct base ad M sz a (bm_u k0 q) q ha hu hq1 (by omega)) (va_cwS 3 hts (bm_goodS bw_390 bw_210 bw_12 bw_211) rfl rfl rfl (by decide +kernel) (by rw [← hR]; exact ⟨Nat.le_of_ble_eq_true rfl, Nat.le_of_ble_eq_true rfl⟩)) (bm_preS hM hG hS hz) rfl rfl hl.1 rfl (lv_room (Nat.le_of_ble_eq_true rfl)) dF_root_9 (by rw [← hR]; exact ⟨Nat.le_of_ble_eq_true rfl, Nat.le_of_ble_eq_true rfl⟩)) hS (fun H locs hz hM hS => ?_)
  exact bm_lret hQ hx hb hr hlk hM hS ⟨rfl, rfl, hz⟩ (Nat.le_refl _) (Nat.le_refl _) dF_root_12
set_option maxHeartbeats 4000000 in
set_option maxRecDepth 100000 in
theorem bc_J_floorMod_le (l : Launch) (D : va_G) (ct : Nat → ClassId) (base : Nat) (ad : Nat → Nat) (M : bm_Map) (sz : Nat) (a q : Nat) (ha : a < 2 ^ 62) (hq1 : 0 < q) (hq2 : q < 2 ^ 30) : Met l yJ_floorMod (bm_ws yJ_floorMod cJ_floorMod 6 (some .long)) { frames := 0, cells := 0, slots := 0, locals := 0 } (bm_Pre D ct base ad M sz [.long (lN a), .long (lN q)]) (bm_Post D base (bm_Is (some (.long (lN (a % q)))) M sz)) 0 0 (bm_A base) := by
  refine bm_ofF (cc := cJ_floorMod) (maxL := 6) (ret := (some .long)) (by decide +kernel) (Nat.le_of_ble_eq_true rfl) ?_
  intro vp ve s vm args below meth vc hx hb hr hlk hts hown hml hnm ls hl hz hM hG R Q hR hQ
  have hown : s.vm.findClass "java/lang/Math" = some vm.cls := hown
  have hK := hG.K
  have hS : va_S (bm_A base) s.heap s.heap [] := va_S.rf
  have hl : lv_has ls 6 [(0, .long (lN a)), (2, .long (lN q))] := hl
  have hmd : a % q < q := Nat.mod_lt _ hq1
  refine lv_lload_n hx hb dJ_floorMod_0 rfl (lv_at hl 0 rfl) ?_
  refine lv_lload_n hx hb dJ_floorMod_1 rfl (lv_at hl 1 rfl) ?_
  refine lv_lrem hx hb dJ_floorMod_2 (bm_lN_ne (by omega) (by omega)) ?_
  refine lv_topl (fun t1 e_t1 => ?_)
  have e_t1 : t1 = lN (a % q) := by rw [e_t1]; rw [pk_lRem (by omega) (by omega) (by omega)]
  subst e_t1
  refine lv_lstore hx hb dJ_floorMod_3 hl (by decide) rfl (fun ls hl => ?_)
  have hl : lv_has ls 6 [(4, .long (lN (a % q))), (0, .long (lN a)), (2, .long (lN q))] := hl
  refine lv_lload_n hx hb dJ_floorMod_5 rfl (lv_at hl 1 rfl) ?_
  refine lv_lload_n hx hb dJ_floorMod_6 rfl (lv_at hl 2 rfl) ?_
  refine lv_lxor hx hb dJ_floorMod_7 ?_
  refine lv_lconst (v := 0) hx hb dJ_floorMod_8 (by decide) ?_
  refine W.lcmp hx hb dJ_floorMod_9 ?_
  refine lv_if_ge (tgt := 25) hx hb dJ_floorMod_10 rfl (fun h10 => ?_) (fun h10 => absurd ((lg_cmp_ge _ _).mpr (Int64.not_lt.mp (bm_xor_pos (by omega) (by omega)))) h10)
  refine lv_lload hx hb dJ_floorMod_25 (lv_at hl 0 rfl) ?_
  exact bm_lret hQ hx hb hr hlk hM hS ⟨rfl, rfl, hz⟩ (Nat.le_refl _) (Nat.le_refl _) dJ_floorMod_27
set_option maxHeartbeats 4000000 in
set_option maxRecDepth 100000 in
theorem bc_J_floorMod_gt (l : Launch) (D : va_G) (ct : Nat → ClassId) (base : Nat) (ad : Nat → Nat) (M : bm_Map) (sz : Nat) (a q : Nat) (ha0 : 0 < a) (ha : a < 2 ^ 62) (hq1 : 0 < q) (hq2 : q < 2 ^ 30) : Met l yJ_floorMod (bm_ws yJ_floorMod cJ_floorMod 6 (some .long)) { frames := 0, cells := 0, slots := 0, locals := 0 } (bm_Pre D ct base ad M sz [.long (-(lN a)), .long (lN q)]) (bm_Post D base (bm_Is (some (.long (lN ((q - a % q) % q)))) M sz)) 0 0 (bm_A base) := by
  refine bm_ofF (cc := cJ_floorMod) (maxL := 6) (ret := (some .long)) (by decide +kernel) (Nat.le_of_ble_eq_true rfl) ?_
  intro vp ve s vm args below meth vc hx hb hr hlk hts hown hml hnm ls hl hz hM hG R Q hR hQ
  have hown : s.vm.findClass "java/lang/Math" = some vm.cls := hown
  have hK := hG.K
  have hS : va_S (bm_A base) s.heap s.heap [] := va_S.rf
  have hl : lv_has ls 6 [(0, .long (-(lN a))), (2, .long (lN q))] := hl
  have hmd : a % q < q := Nat.mod_lt _ hq1
  refine lv_lload_n hx hb dJ_floorMod_0 rfl (lv_at hl 0 rfl) ?_
  refine lv_lload_n hx hb dJ_floorMod_1 rfl (lv_at hl 1 rfl) ?_
  refine lv_lrem hx hb dJ_floorMod_2 (bm_lN_ne (by omega) (by omega)) ?_
  refine lv_topl (fun t1 e_t1 => ?_)
  have e_t1 : t1 = -(lN (a % q)) := by rw [e_t1]; rw [bm_neg_rem (by omega) (by omega) (by omega)]
  subst e_t1
  refine lv_lstore hx hb dJ_floorMod_3 hl (by decide) rfl (fun ls hl => ?_)
  have hl : lv_has ls 6 [(4, .long (-(lN (a % q)))), (0, .long (-(lN a))), (2, .long (lN q))] := hl
  refine lv_lload_n hx hb dJ_floorMod_5 rfl (lv_at hl 1 rfl) ?_
  refine lv_lload_n hx hb dJ_floorMod_6 rfl (lv_at hl 2 rfl) ?_
  refine lv_lxor hx hb dJ_floorMod_7 ?_
  refine lv_lconst (v := 0) hx hb dJ_floorMod_8 (by decide) ?_
  refine W.lcmp hx hb dJ_floorMod_9 ?_
  refine lv_if_ge (tgt := 25) hx hb dJ_floorMod_10 rfl (fun h10 => absurd ((lg_cmp_ge _ _).mp h10) (Int64.not_le.mpr (bm_xor_neg (by omega) (by omega) (by omega)))) (fun h10 => ?_)
  refine lv_lload hx hb dJ_floorMod_13 (lv_at hl 0 rfl) ?_
  refine lv_lconst (v := 0) hx hb dJ_floorMod_15 (by decide) ?_
  refine W.lcmp hx hb dJ_floorMod_16 ?_
  refine lv_if_eq (tgt := 25) hx hb dJ_floorMod_17 rfl (fun h17 => ?_) (fun h17 => ?_)
  · have hr0 := bm_neg0 (by omega) ((lg_cmp_eq _ _).mp h17)
    refine lv_lload hx hb dJ_floorMod_25 (lv_at hl 0 rfl) ?_
    exact bm_lret hQ hx hb hr hlk hM hS ⟨by rw [hr0, Nat.sub_zero, Nat.mod_self]; rfl, rfl, hz⟩ (Nat.le_refl _) (Nat.le_refl _) dJ_floorMod_27
  · have hr0 : a % q ≠ 0 := fun z => h17 ((lg_cmp_eq _ _).mpr (by rw [z]; decide))
    refine lv_lload hx hb dJ_floorMod_20 (lv_at hl 0 rfl) ?_
    refine lv_lload_n hx hb dJ_floorMod_22 rfl (lv_at hl 2 rfl) ?_
    refine lv_ladd hx hb dJ_floorMod_23 ?_
    refine lv_topl (fun t2 e_t2 => ?_)
    have e_t2 : t2 = lN ((q - a % q) % q) := by rw [e_t2]; rw [Nat.mod_eq_of_lt (show q - a % q < q by omega), ← lN_sub (by omega)]; grind
    subst e_t2
    exact bm_lret hQ hx hb hr hlk hM hS ⟨rfl, rfl, hz⟩ (Nat.le_refl _) (Nat.le_refl _) dJ_floorMod_24
