set_option maxHeartbeats 4000000 in
set_option maxRecDepth 100000 in
theorem bc_M_blind (l : Launch) (D : va_G) (ct : Nat → ClassId) (base : Nat) (ad : Nat → Nat) (M : bm_Map) (sz : Nat) (d k r : Nat) (seed : Int64) (hd : d < 3) (hk1 : k < 2 ^ 62) (hsd : bm_h2 seed 100 = lN r) (hr1 : r < 2 ^ 60) : Met l yM_blind (bm_ws yM_blind cM_blind 11 (some .long)) { frames := 2, cells := 0, slots := 0, locals := 63 } (bm_Pre D ct base ad M sz [.long (lN k), .long seed, .int (nI d)]) (bm_Post D base (bm_Is (some (.long (lN (bm_bn d k (bm_bf d r))))) M sz)) 0 0 (bm_A base) := by
  refine bm_ofB (cc := cM_blind) (maxL := 11) (ret := (some .long)) (by decide +kernel) (Nat.le_of_ble_eq_true rfl) ?_
  intro vp ve s vm args below meth vc hx hb hr hlk hts hown hml hnm ls hl hz hM hG R Q hR hQ
  have hown : s.vm.findClass "BlindMintModel" = some vm.cls := hown
  have hK := hG.K
  have hS : va_S (bm_A base) s.heap s.heap [] := va_S.rf
  have hl : lv_has ls 11 [(0, .long (lN k)), (2, .long seed), (4, .int (nI d))] := hl
  have hpb := bm_pb d
  have hqb := bm_qb d
  refine lv_iload hx hb dM_blind_0 (lv_at hl 2 rfl) ?_
  refine lv_iconst (v := 0) hx hb dM_blind_2 (by decide) ?_
  refine bm_callE (va_runS (As := [.int (nI d), .int 0]) (rest := []) ⟨hx, hb, hml, hown, hts⟩ (bc_M_factor_p l D ct base ad M sz d hd) (va_cwS 2 hts (bm_goodS bw_726 bw_727 bw_5 bw_728) rfl rfl rfl (by decide +kernel) (by rw [← hR]; exact ⟨Nat.le_of_ble_eq_true rfl, Nat.le_of_ble_eq_true rfl⟩)) (bm_preS hM hG hS hz) rfl rfl hl.1 rfl (lv_room (Nat.le_of_ble_eq_true rfl)) dM_blind_3 (by rw [← hR]; exact ⟨Nat.le_of_ble_eq_true rfl, Nat.le_of_ble_eq_true rfl⟩)) hS (fun H locs hz hM hS => ?_)
  refine lv_lstore hx hb dM_blind_6 hl (by decide) rfl (fun ls hl => ?_)
  have hl : lv_has ls 11 [(5, .long (lN (bm_p d))), (0, .long (lN k)), (2, .long seed), (4, .int (nI d))] := hl
  refine lv_iload hx hb dM_blind_8 (lv_at hl 3 rfl) ?_
  refine lv_iconst (v := 1) hx hb dM_blind_10 (by decide) ?_
  refine bm_callE (va_runS (As := [.int (nI d), .int 1]) (rest := []) ⟨hx, hb, hml, hown, hts⟩ (bc_M_factor_q l D ct base ad M sz d hd) (va_cwS 2 hts (bm_goodS bw_726 bw_727 bw_5 bw_728) rfl rfl rfl (by decide +kernel) (by rw [← hR]; exact ⟨Nat.le_of_ble_eq_true rfl, Nat.le_of_ble_eq_true rfl⟩)) (bm_preS hM hG hS hz) rfl rfl hl.1 rfl (lv_room (Nat.le_of_ble_eq_true rfl)) dM_blind_11 (by rw [← hR]; exact ⟨Nat.le_of_ble_eq_true rfl, Nat.le_of_ble_eq_true rfl⟩)) hS (fun H locs hz hM hS => ?_)
  refine lv_lstore hx hb dM_blind_14 hl (by decide) rfl (fun ls hl => ?_)
  have hl : lv_has ls 11 [(7, .long (lN (bm_q d))), (5, .long (lN (bm_p d))), (0, .long (lN k)), (2, .long seed), (4, .int (nI d))] := hl
  refine lv_lload_n hx hb dM_blind_16 rfl (lv_at hl 3 rfl) ?_
  refine lv_ldc2 hx hb hown (hts _ bw_748) dM_blind_17 ?_
  refine bm_callE (va_runS (As := [.long seed, .long 100]) (rest := []) ⟨hx, hb, hml, hown, hts⟩ (bc_M_hash2 l D ct base ad M sz seed 100) (va_cwS 2 hts (bm_goodS bw_694 bw_695 bw_5 bw_696) rfl rfl rfl (by decide +kernel) (by rw [← hR]; exact ⟨Nat.le_of_ble_eq_true rfl, Nat.le_of_ble_eq_true rfl⟩)) (bm_preS hM hG hS hz) rfl rfl hl.1 rfl (lv_room (Nat.le_of_ble_eq_true rfl)) dM_blind_20 (by rw [← hR]; exact ⟨Nat.le_of_ble_eq_true rfl, Nat.le_of_ble_eq_true rfl⟩)) hS (fun H locs hz hM hS => ?_)
  refine lv_topl (fun t1 e_t1 => ?_)
  have e_t1 : t1 = lN r := by rw [e_t1]; exact hsd
  subst e_t1
  refine lv_lstore hx hb dM_blind_23 hl (by decide) rfl (fun ls hl => ?_)
  have hl : lv_has ls 11 [(9, .long (lN r)), (7, .long (lN (bm_q d))), (5, .long (lN (bm_p d))), (0, .long (lN k)), (2, .long seed), (4, .int (nI d))] := hl
  refine lv_lload hx hb dM_blind_25 (lv_at hl 0 rfl) ?_
  refine lv_lload hx hb dM_blind_27 (lv_at hl 2 rfl) ?_
  refine lv_lrem hx hb dM_blind_29 (bm_lN_ne (by omega) (by omega)) ?_
  refine lv_topl (fun t2 e_t2 => ?_)
  have e_t2 : t2 = lN ((r) % bm_p d) := by rw [e_t2]; rw [pk_lRem (by omega) (by omega) (by omega)]
  subst e_t2
  refine lv_lconst (v := 0) hx hb dM_blind_30 (by decide) ?_
  refine W.lcmp hx hb dM_blind_31 ?_
  refine lv_if_eq (tgt := 45) hx hb dM_blind_32 rfl (fun h32 => ?_) (fun h32 => ?_)
  · have a0 : (r) % bm_p d = 0 ∨ (r) % bm_q d = 0 := Or.inl (bm_cmp0 (bm_mod63 (by omega) (by omega)) h32)
    refine lv_lload hx hb dM_blind_45 (lv_at hl 0 rfl) ?_
    refine lv_lconst (v := 1) hx hb dM_blind_47 (by decide) ?_
    refine lv_ladd hx hb dM_blind_48 ?_
    refine lv_topl (fun t3 e_t3 => ?_)
    have e_t3 : t3 = lN (r + 1) := by rw [e_t3]; exact lN_1 _
    subst e_t3
    refine lv_lstore hx hb dM_blind_49 hl (by decide) rfl (fun ls hl => ?_)
    have hl : lv_has ls 11 [(9, .long (lN (r + 1))), (7, .long (lN (bm_q d))), (5, .long (lN (bm_p d))), (0, .long (lN k)), (2, .long seed), (4, .int (nI d))] := hl
    refine lv_goto (tgt := 25) hx hb dM_blind_51 rfl ?_
    refine lv_lload hx hb dM_blind_25 (lv_at hl 0 rfl) ?_
    refine lv_lload hx hb dM_blind_27 (lv_at hl 2 rfl) ?_
    refine lv_lrem hx hb dM_blind_29 (bm_lN_ne (by omega) (by omega)) ?_
    refine lv_topl (fun t4 e_t4 => ?_)
    have e_t4 : t4 = lN ((r + 1) % bm_p d) := by rw [e_t4]; rw [pk_lRem (by omega) (by omega) (by omega)]
    subst e_t4
    refine lv_lconst (v := 0) hx hb dM_blind_30 (by decide) ?_
    refine W.lcmp hx hb dM_blind_31 ?_
    refine lv_if_eq (tgt := 45) hx hb dM_blind_32 rfl (fun h32 => ?_) (fun h32 => ?_)
    · have a1 : (r + 1) % bm_p d = 0 ∨ (r + 1) % bm_q d = 0 := Or.inl (bm_cmp0 (bm_mod63 (by omega) (by omega)) h32)
      refine lv_lload hx hb dM_blind_45 (lv_at hl 0 rfl) ?_
      refine lv_lconst (v := 1) hx hb dM_blind_47 (by decide) ?_
      refine lv_ladd hx hb dM_blind_48 ?_
      refine lv_topl (fun t5 e_t5 => ?_)
      have e_t5 : t5 = lN (r + 1 + 1) := by rw [e_t5]; exact lN_1 _
      subst e_t5
      refine lv_lstore hx hb dM_blind_49 hl (by decide) rfl (fun ls hl => ?_)
      have hl : lv_has ls 11 [(9, .long (lN (r + 1 + 1))), (7, .long (lN (bm_q d))), (5, .long (lN (bm_p d))), (0, .long (lN k)), (2, .long seed), (4, .int (nI d))] := hl
      refine lv_goto (tgt := 25) hx hb dM_blind_51 rfl ?_
      refine lv_lload hx hb dM_blind_25 (lv_at hl 0 rfl) ?_
      refine lv_lload hx hb dM_blind_27 (lv_at hl 2 rfl) ?_
      refine lv_lrem hx hb dM_blind_29 (bm_lN_ne (by omega) (by omega)) ?_
      refine lv_topl (fun t6 e_t6 => ?_)
      have e_t6 : t6 = lN ((r + 1 + 1) % bm_p d) := by rw [e_t6]; rw [pk_lRem (by omega) (by omega) (by omega)]
      subst e_t6
      refine lv_lconst (v := 0) hx hb dM_blind_30 (by decide) ?_
      refine W.lcmp hx hb dM_blind_31 ?_
      refine lv_if_eq (tgt := 45) hx hb dM_blind_32 rfl (fun h32 => absurd (bm_cmp0 (a := (r + 1 + 1) % bm_p d) (bm_mod63 (by omega) (by omega)) h32) (by have h9 := (bm_bf_ok d r).1; rw [← bm_bf_2 a0 a1] at h9; exact h9)) (fun h32 => ?_)
      refine lv_lload hx hb dM_blind_35 (lv_at hl 0 rfl) ?_
      refine lv_lload hx hb dM_blind_37 (lv_at hl 1 rfl) ?_
      refine lv_lrem hx hb dM_blind_39 (bm_lN_ne (by omega) (by omega)) ?_
      refine lv_topl (fun t7 e_t7 => ?_)
      have e_t7 : t7 = lN ((r + 1 + 1) % bm_q d) := by rw [e_t7]; rw [pk_lRem (by omega) (by omega) (by omega)]
      subst e_t7
      refine lv_lconst (v := 0) hx hb dM_blind_40 (by decide) ?_
      refine W.lcmp hx hb dM_blind_41 ?_
      refine lv_if_ne (tgt := 54) hx hb dM_blind_42 rfl (fun h42 => ?_) (fun h42 => absurd (bm_cmp0 (a := (r + 1 + 1) % bm_q d) (bm_mod63 (by omega) (by omega)) h42) (by have h9 := (bm_bf_ok d r).2.1; rw [← bm_bf_2 a0 a1] at h9; exact h9))
      have hbf := bm_bf_2 a0 a1
      rw [hbf] at hl
      have hb9 := (bm_bf_ok d r).2.2
      have hl : lv_has ls 11 [(9, .long (lN (bm_bf d r))), (7, .long (lN (bm_q d))), (5, .long (lN (bm_p d))), (0, .long (lN k)), (2, .long seed), (4, .int (nI d))] := hl
      refine lv_lload_n hx hb dM_blind_54 rfl (lv_at hl 3 rfl) ?_
      refine lv_lload hx hb dM_blind_55 (lv_at hl 2 rfl) ?_
      refine lv_lrem hx hb dM_blind_57 (bm_lN_ne (by omega) (by omega)) ?_
      refine lv_topl (fun t8 e_t8 => ?_)
      have e_t8 : t8 = lN (k % bm_p d) := by rw [e_t8]; rw [pk_lRem (by omega) (by omega) (by omega)]
      subst e_t8
      refine lv_lload hx hb dM_blind_58 (lv_at hl 0 rfl) ?_
      refine lv_ldc2 hx hb hown (hts _ bw_738) dM_blind_60 ?_
      refine lv_lload hx hb dM_blind_63 (lv_at hl 2 rfl) ?_
      refine bm_callE (va_runS (As := [.long (lN (bm_bf d r)), .long 17, .long (lN (bm_p d))]) (rest := [.long (lN (k % bm_p d))]) ⟨hx, hb, hml, hown, hts⟩ (bc_M_power l D ct base ad M sz (bm_bf d r) 17 (bm_p d) (by omega) (by decide) (by omega) (by omega)) (va_cwS 3 hts (bm_goodS bw_739 bw_740 bw_5 bw_741) rfl rfl rfl (by decide +kernel) (by rw [← hR]; exact ⟨Nat.le_of_ble_eq_true rfl, Nat.le_of_ble_eq_true rfl⟩)) (bm_preS hM hG hS hz) rfl rfl hl.1 rfl (lv_room (Nat.le_of_ble_eq_true rfl)) dM_blind_65 (by rw [← hR]; exact ⟨Nat.le_of_ble_eq_true rfl, Nat.le_of_ble_eq_true rfl⟩)) hS (fun H locs hz hM hS => ?_)
      refine lv_lmul hx hb dM_blind_68 ?_
      refine lv_lload hx hb dM_blind_69 (lv_at hl 2 rfl) ?_
      refine lv_lrem hx hb dM_blind_71 (bm_lN_ne (by omega) (by omega)) ?_
      have hkp : k % bm_p d < bm_p d := Nat.mod_lt _ (by omega)
      have hrp : bm_bf d r ^ 17 % bm_p d < bm_p d := Nat.mod_lt _ (by omega)
      refine lv_topl (fun t9 e_t9 => ?_)
      have e_t9 : t9 = lN (k * bm_bf d r ^ 17 % bm_p d) := by rw [e_t9]; rw [lN_mul, pk_lRem (bm_mul_lt hkp hrp (by omega)) (by omega) (by omega), ← Nat.mul_mod]
      subst e_t9
      refine lv_lload_n hx hb dM_blind_72 rfl (lv_at hl 3 rfl) ?_
      refine lv_lload hx hb dM_blind_73 (lv_at hl 1 rfl) ?_
      refine lv_lrem hx hb dM_blind_75 (bm_lN_ne (by omega) (by omega)) ?_
      refine lv_topl (fun t10 e_t10 => ?_)
      have e_t10 : t10 = lN (k % bm_q d) := by rw [e_t10]; rw [pk_lRem (by omega) (by omega) (by omega)]
      subst e_t10
      refine lv_lload hx hb dM_blind_76 (lv_at hl 0 rfl) ?_
      refine lv_ldc2 hx hb hown (hts _ bw_738) dM_blind_78 ?_
      refine lv_lload hx hb dM_blind_81 (lv_at hl 1 rfl) ?_
      refine bm_callE (va_runS (As := [.long (lN (bm_bf d r)), .long 17, .long (lN (bm_q d))]) (rest := [.long (lN (k % bm_q d)), .long (lN (k * bm_bf d r ^ 17 % bm_p d))]) ⟨hx, hb, hml, hown, hts⟩ (bc_M_power l D ct base ad M sz (bm_bf d r) 17 (bm_q d) (by omega) (by decide) (by omega) (by omega)) (va_cwS 3 hts (bm_goodS bw_739 bw_740 bw_5 bw_741) rfl rfl rfl (by decide +kernel) (by rw [← hR]; exact ⟨Nat.le_of_ble_eq_true rfl, Nat.le_of_ble_eq_true rfl⟩)) (bm_preS hM hG hS hz) rfl rfl hl.1 rfl (lv_room (Nat.le_of_ble_eq_true rfl)) dM_blind_83 (by rw [← hR]; exact ⟨Nat.le_of_ble_eq_true rfl, Nat.le_of_ble_eq_true rfl⟩)) hS (fun H locs hz hM hS => ?_)
      refine lv_lmul hx hb dM_blind_86 ?_
      refine lv_lload hx hb dM_blind_87 (lv_at hl 1 rfl) ?_
      refine lv_lrem hx hb dM_blind_89 (bm_lN_ne (by omega) (by omega)) ?_
      have hkq : k % bm_q d < bm_q d := Nat.mod_lt _ (by omega)
      have hrq : bm_bf d r ^ 17 % bm_q d < bm_q d := Nat.mod_lt _ (by omega)
      refine lv_topl (fun t11 e_t11 => ?_)
      have e_t11 : t11 = lN (k * bm_bf d r ^ 17 % bm_q d) := by rw [e_t11]; rw [lN_mul, pk_lRem (bm_mul_lt hkq hrq (by omega)) (by omega) (by omega), ← Nat.mul_mod]
      subst e_t11
      refine lv_iload hx hb dM_blind_90 (lv_at hl 5 rfl) ?_
      have hm1 : k * bm_bf d r ^ 17 % bm_p d < bm_p d := Nat.mod_lt _ (by omega)
      have hm2 : k * bm_bf d r ^ 17 % bm_q d < bm_q d := Nat.mod_lt _ (by omega)
      refine bm_callE (va_runS (As := [.long (lN (k * bm_bf d r ^ 17 % bm_p d)), .long (lN (k * bm_bf d r ^ 17 % bm_q d)), .int (nI d)]) (rest := []) ⟨hx, hb, hml, hown, hts⟩ (bc_M_join l D ct base ad M sz d (k * bm_bf d r ^ 17 % bm_p d) (k * bm_bf d r ^ 17 % bm_q d) hd (by omega) (by omega)) (va_cwS 3 hts (bm_goodS bw_742 bw_743 bw_5 bw_744) rfl rfl rfl (by decide +kernel) (by rw [← hR]; exact ⟨Nat.le_of_ble_eq_true rfl, Nat.le_of_ble_eq_true rfl⟩)) (bm_preS hM hG hS hz) rfl rfl hl.1 rfl (lv_room (Nat.le_of_ble_eq_true rfl)) dM_blind_92 (by rw [← hR]; exact ⟨Nat.le_of_ble_eq_true rfl, Nat.le_of_ble_eq_true rfl⟩)) hS (fun H locs hz hM hS => ?_)
      exact bm_lret hQ hx hb hr hlk hM hS ⟨rfl, rfl, hz⟩ (Nat.le_refl _) (Nat.le_refl _) dM_blind_95
    · have b1 := bm_cmpn h32
      refine lv_lload hx hb dM_blind_35 (lv_at hl 0 rfl) ?_
      refine lv_lload hx hb dM_blind_37 (lv_at hl 1 rfl) ?_
      refine lv_lrem hx hb dM_blind_39 (bm_lN_ne (by omega) (by omega)) ?_
      refine lv_topl (fun t12 e_t12 => ?_)
      have e_t12 : t12 = lN ((r + 1) % bm_q d) := by rw [e_t12]; rw [pk_lRem (by omega) (by omega) (by omega)]
      subst e_t12
      refine lv_lconst (v := 0) hx hb dM_blind_40 (by decide) ?_
      refine W.lcmp hx hb dM_blind_41 ?_
      refine lv_if_ne (tgt := 54) hx hb dM_blind_42 rfl (fun h42 => ?_) (fun h42 => ?_)
      · have c1 := bm_cmpn h42
        have hbf := bm_bf_1 a0 b1 c1
        rw [hbf] at hl
        have hb9 := (bm_bf_ok d r).2.2
        have hl : lv_has ls 11 [(9, .long (lN (bm_bf d r))), (7, .long (lN (bm_q d))), (5, .long (lN (bm_p d))), (0, .long (lN k)), (2, .long seed), (4, .int (nI d))] := hl
        refine lv_lload_n hx hb dM_blind_54 rfl (lv_at hl 3 rfl) ?_
        refine lv_lload hx hb dM_blind_55 (lv_at hl 2 rfl) ?_
        refine lv_lrem hx hb dM_blind_57 (bm_lN_ne (by omega) (by omega)) ?_
        refine lv_topl (fun t13 e_t13 => ?_)
        have e_t13 : t13 = lN (k % bm_p d) := by rw [e_t13]; rw [pk_lRem (by omega) (by omega) (by omega)]
        subst e_t13
        refine lv_lload hx hb dM_blind_58 (lv_at hl 0 rfl) ?_
        refine lv_ldc2 hx hb hown (hts _ bw_738) dM_blind_60 ?_
        refine lv_lload hx hb dM_blind_63 (lv_at hl 2 rfl) ?_
        refine bm_callE (va_runS (As := [.long (lN (bm_bf d r)), .long 17, .long (lN (bm_p d))]) (rest := [.long (lN (k % bm_p d))]) ⟨hx, hb, hml, hown, hts⟩ (bc_M_power l D ct base ad M sz (bm_bf d r) 17 (bm_p d) (by omega) (by decide) (by omega) (by omega)) (va_cwS 3 hts (bm_goodS bw_739 bw_740 bw_5 bw_741) rfl rfl rfl (by decide +kernel) (by rw [← hR]; exact ⟨Nat.le_of_ble_eq_true rfl, Nat.le_of_ble_eq_true rfl⟩)) (bm_preS hM hG hS hz) rfl rfl hl.1 rfl (lv_room (Nat.le_of_ble_eq_true rfl)) dM_blind_65 (by rw [← hR]; exact ⟨Nat.le_of_ble_eq_true rfl, Nat.le_of_ble_eq_true rfl⟩)) hS (fun H locs hz hM hS => ?_)
        refine lv_lmul hx hb dM_blind_68 ?_
        refine lv_lload hx hb dM_blind_69 (lv_at hl 2 rfl) ?_
        refine lv_lrem hx hb dM_blind_71 (bm_lN_ne (by omega) (by omega)) ?_
        have hkp : k % bm_p d < bm_p d := Nat.mod_lt _ (by omega)
        have hrp : bm_bf d r ^ 17 % bm_p d < bm_p d := Nat.mod_lt _ (by omega)
        refine lv_topl (fun t14 e_t14 => ?_)
        have e_t14 : t14 = lN (k * bm_bf d r ^ 17 % bm_p d) := by rw [e_t14]; rw [lN_mul, pk_lRem (bm_mul_lt hkp hrp (by omega)) (by omega) (by omega), ← Nat.mul_mod]
        subst e_t14
        refine lv_lload_n hx hb dM_blind_72 rfl (lv_at hl 3 rfl) ?_
        refine lv_lload hx hb dM_blind_73 (lv_at hl 1 rfl) ?_
        refine lv_lrem hx hb dM_blind_75 (bm_lN_ne (by omega) (by omega)) ?_
        refine lv_topl (fun t15 e_t15 => ?_)
        have e_t15 : t15 = lN (k % bm_q d) := by rw [e_t15]; rw [pk_lRem (by omega) (by omega) (by omega)]
        subst e_t15
        refine lv_lload hx hb dM_blind_76 (lv_at hl 0 rfl) ?_
        refine lv_ldc2 hx hb hown (hts _ bw_738) dM_blind_78 ?_
        refine lv_lload hx hb dM_blind_81 (lv_at hl 1 rfl) ?_
        refine bm_callE (va_runS (As := [.long (lN (bm_bf d r)), .long 17, .long (lN (bm_q d))]) (rest := [.long (lN (k % bm_q d)), .long (lN (k * bm_bf d r ^ 17 % bm_p d))]) ⟨hx, hb, hml, hown, hts⟩ (bc_M_power l D ct base ad M sz (bm_bf d r) 17 (bm_q d) (by omega) (by decide) (by omega) (by omega)) (va_cwS 3 hts (bm_goodS bw_739 bw_740 bw_5 bw_741) rfl rfl rfl (by decide +kernel) (by rw [← hR]; exact ⟨Nat.le_of_ble_eq_true rfl, Nat.le_of_ble_eq_true rfl⟩)) (bm_preS hM hG hS hz) rfl rfl hl.1 rfl (lv_room (Nat.le_of_ble_eq_true rfl)) dM_blind_83 (by rw [← hR]; exact ⟨Nat.le_of_ble_eq_true rfl, Nat.le_of_ble_eq_true rfl⟩)) hS (fun H locs hz hM hS => ?_)
        refine lv_lmul hx hb dM_blind_86 ?_
        refine lv_lload hx hb dM_blind_87 (lv_at hl 1 rfl) ?_
        refine lv_lrem hx hb dM_blind_89 (bm_lN_ne (by omega) (by omega)) ?_
        have hkq : k % bm_q d < bm_q d := Nat.mod_lt _ (by omega)
        have hrq : bm_bf d r ^ 17 % bm_q d < bm_q d := Nat.mod_lt _ (by omega)
        refine lv_topl (fun t16 e_t16 => ?_)
        have e_t16 : t16 = lN (k * bm_bf d r ^ 17 % bm_q d) := by rw [e_t16]; rw [lN_mul, pk_lRem (bm_mul_lt hkq hrq (by omega)) (by omega) (by omega), ← Nat.mul_mod]
        subst e_t16
        refine lv_iload hx hb dM_blind_90 (lv_at hl 5 rfl) ?_
        have hm1 : k * bm_bf d r ^ 17 % bm_p d < bm_p d := Nat.mod_lt _ (by omega)
        have hm2 : k * bm_bf d r ^ 17 % bm_q d < bm_q d := Nat.mod_lt _ (by omega)
        refine bm_callE (va_runS (As := [.long (lN (k * bm_bf d r ^ 17 % bm_p d)), .long (lN (k * bm_bf d r ^ 17 % bm_q d)), .int (nI d)]) (rest := []) ⟨hx, hb, hml, hown, hts⟩ (bc_M_join l D ct base ad M sz d (k * bm_bf d r ^ 17 % bm_p d) (k * bm_bf d r ^ 17 % bm_q d) hd (by omega) (by omega)) (va_cwS 3 hts (bm_goodS bw_742 bw_743 bw_5 bw_744) rfl rfl rfl (by decide +kernel) (by rw [← hR]; exact ⟨Nat.le_of_ble_eq_true rfl, Nat.le_of_ble_eq_true rfl⟩)) (bm_preS hM hG hS hz) rfl rfl hl.1 rfl (lv_room (Nat.le_of_ble_eq_true rfl)) dM_blind_92 (by rw [← hR]; exact ⟨Nat.le_of_ble_eq_true rfl, Nat.le_of_ble_eq_true rfl⟩)) hS (fun H locs hz hM hS => ?_)
        exact bm_lret hQ hx hb hr hlk hM hS ⟨rfl, rfl, hz⟩ (Nat.le_refl _) (Nat.le_refl _) dM_blind_95
      · have a1 : (r + 1) % bm_p d = 0 ∨ (r + 1) % bm_q d = 0 := Or.inr (bm_cmp0 (bm_mod63 (by omega) (by omega)) h42)
        refine lv_lload hx hb dM_blind_45 (lv_at hl 0 rfl) ?_
        refine lv_lconst (v := 1) hx hb dM_blind_47 (by decide) ?_
        refine lv_ladd hx hb dM_blind_48 ?_
        refine lv_topl (fun t17 e_t17 => ?_)
        have e_t17 : t17 = lN (r + 1 + 1) := by rw [e_t17]; exact lN_1 _
        subst e_t17
        refine lv_lstore hx hb dM_blind_49 hl (by decide) rfl (fun ls hl => ?_)
        have hl : lv_has ls 11 [(9, .long (lN (r + 1 + 1))), (7, .long (lN (bm_q d))), (5, .long (lN (bm_p d))), (0, .long (lN k)), (2, .long seed), (4, .int (nI d))] := hl
        refine lv_goto (tgt := 25) hx hb dM_blind_51 rfl ?_
        refine lv_lload hx hb dM_blind_25 (lv_at hl 0 rfl) ?_
        refine lv_lload hx hb dM_blind_27 (lv_at hl 2 rfl) ?_
        refine lv_lrem hx hb dM_blind_29 (bm_lN_ne (by omega) (by omega)) ?_
        refine lv_topl (fun t18 e_t18 => ?_)
        have e_t18 : t18 = lN ((r + 1 + 1) % bm_p d) := by rw [e_t18]; rw [pk_lRem (by omega) (by omega) (by omega)]
        subst e_t18
        refine lv_lconst (v := 0) hx hb dM_blind_30 (by decide) ?_
        refine W.lcmp hx hb dM_blind_31 ?_
        refine lv_if_eq (tgt := 45) hx hb dM_blind_32 rfl (fun h32 => absurd (bm_cmp0 (a := (r + 1 + 1) % bm_p d) (bm_mod63 (by omega) (by omega)) h32) (by have h9 := (bm_bf_ok d r).1; rw [← bm_bf_2 a0 a1] at h9; exact h9)) (fun h32 => ?_)
        refine lv_lload hx hb dM_blind_35 (lv_at hl 0 rfl) ?_
        refine lv_lload hx hb dM_blind_37 (lv_at hl 1 rfl) ?_
        refine lv_lrem hx hb dM_blind_39 (bm_lN_ne (by omega) (by omega)) ?_
        refine lv_topl (fun t19 e_t19 => ?_)
        have e_t19 : t19 = lN ((r + 1 + 1) % bm_q d) := by rw [e_t19]; rw [pk_lRem (by omega) (by omega) (by omega)]
        subst e_t19
        refine lv_lconst (v := 0) hx hb dM_blind_40 (by decide) ?_
        refine W.lcmp hx hb dM_blind_41 ?_
        refine lv_if_ne (tgt := 54) hx hb dM_blind_42 rfl (fun h42 => ?_) (fun h42 => absurd (bm_cmp0 (a := (r + 1 + 1) % bm_q d) (bm_mod63 (by omega) (by omega)) h42) (by have h9 := (bm_bf_ok d r).2.1; rw [← bm_bf_2 a0 a1] at h9; exact h9))
        have hbf := bm_bf_2 a0 a1
        rw [hbf] at hl
        have hb9 := (bm_bf_ok d r).2.2
        have hl : lv_has ls 11 [(9, .long (lN (bm_bf d r))), (7, .long (lN (bm_q d))), (5, .long (lN (bm_p d))), (0, .long (lN k)), (2, .long seed), (4, .int (nI d))] := hl
        refine lv_lload_n hx hb dM_blind_54 rfl (lv_at hl 3 rfl) ?_
        refine lv_lload hx hb dM_blind_55 (lv_at hl 2 rfl) ?_
        refine lv_lrem hx hb dM_blind_57 (bm_lN_ne (by omega) (by omega)) ?_
        refine lv_topl (fun t20 e_t20 => ?_)
        have e_t20 : t20 = lN (k % bm_p d) := by rw [e_t20]; rw [pk_lRem (by omega) (by omega) (by omega)]
        subst e_t20
        refine lv_lload hx hb dM_blind_58 (lv_at hl 0 rfl) ?_
        refine lv_ldc2 hx hb hown (hts _ bw_738) dM_blind_60 ?_
        refine lv_lload hx hb dM_blind_63 (lv_at hl 2 rfl) ?_
        refine bm_callE (va_runS (As := [.long (lN (bm_bf d r)), .long 17, .long (lN (bm_p d))]) (rest := [.long (lN (k % bm_p d))]) ⟨hx, hb, hml, hown, hts⟩ (bc_M_power l D ct base ad M sz (bm_bf d r) 17 (bm_p d) (by omega) (by decide) (by omega) (by omega)) (va_cwS 3 hts (bm_goodS bw_739 bw_740 bw_5 bw_741) rfl rfl rfl (by decide +kernel) (by rw [← hR]; exact ⟨Nat.le_of_ble_eq_true rfl, Nat.le_of_ble_eq_true rfl⟩)) (bm_preS hM hG hS hz) rfl rfl hl.1 rfl (lv_room (Nat.le_of_ble_eq_true rfl)) dM_blind_65 (by rw [← hR]; exact ⟨Nat.le_of_ble_eq_true rfl, Nat.le_of_ble_eq_true rfl⟩)) hS (fun H locs hz hM hS => ?_)
        refine lv_lmul hx hb dM_blind_68 ?_
        refine lv_lload hx hb dM_blind_69 (lv_at hl 2 rfl) ?_
        refine lv_lrem hx hb dM_blind_71 (bm_lN_ne (by omega) (by omega)) ?_
        have hkp : k % bm_p d < bm_p d := Nat.mod_lt _ (by omega)
        have hrp : bm_bf d r ^ 17 % bm_p d < bm_p d := Nat.mod_lt _ (by omega)
        refine lv_topl (fun t21 e_t21 => ?_)
        have e_t21 : t21 = lN (k * bm_bf d r ^ 17 % bm_p d) := by rw [e_t21]; rw [lN_mul, pk_lRem (bm_mul_lt hkp hrp (by omega)) (by omega) (by omega), ← Nat.mul_mod]
        subst e_t21
        refine lv_lload_n hx hb dM_blind_72 rfl (lv_at hl 3 rfl) ?_
        refine lv_lload hx hb dM_blind_73 (lv_at hl 1 rfl) ?_
        refine lv_lrem hx hb dM_blind_75 (bm_lN_ne (by omega) (by omega)) ?_
        refine lv_topl (fun t22 e_t22 => ?_)
        have e_t22 : t22 = lN (k % bm_q d) := by rw [e_t22]; rw [pk_lRem (by omega) (by omega) (by omega)]
        subst e_t22
        refine lv_lload hx hb dM_blind_76 (lv_at hl 0 rfl) ?_
        refine lv_ldc2 hx hb hown (hts _ bw_738) dM_blind_78 ?_
        refine lv_lload hx hb dM_blind_81 (lv_at hl 1 rfl) ?_
        refine bm_callE (va_runS (As := [.long (lN (bm_bf d r)), .long 17, .long (lN (bm_q d))]) (rest := [.long (lN (k % bm_q d)), .long (lN (k * bm_bf d r ^ 17 % bm_p d))]) ⟨hx, hb, hml, hown, hts⟩ (bc_M_power l D ct base ad M sz (bm_bf d r) 17 (bm_q d) (by omega) (by decide) (by omega) (by omega)) (va_cwS 3 hts (bm_goodS bw_739 bw_740 bw_5 bw_741) rfl rfl rfl (by decide +kernel) (by rw [← hR]; exact ⟨Nat.le_of_ble_eq_true rfl, Nat.le_of_ble_eq_true rfl⟩)) (bm_preS hM hG hS hz) rfl rfl hl.1 rfl (lv_room (Nat.le_of_ble_eq_true rfl)) dM_blind_83 (by rw [← hR]; exact ⟨Nat.le_of_ble_eq_true rfl, Nat.le_of_ble_eq_true rfl⟩)) hS (fun H locs hz hM hS => ?_)
        refine lv_lmul hx hb dM_blind_86 ?_
        refine lv_lload hx hb dM_blind_87 (lv_at hl 1 rfl) ?_
        refine lv_lrem hx hb dM_blind_89 (bm_lN_ne (by omega) (by omega)) ?_
        have hkq : k % bm_q d < bm_q d := Nat.mod_lt _ (by omega)
        have hrq : bm_bf d r ^ 17 % bm_q d < bm_q d := Nat.mod_lt _ (by omega)
        refine lv_topl (fun t23 e_t23 => ?_)
        have e_t23 : t23 = lN (k * bm_bf d r ^ 17 % bm_q d) := by rw [e_t23]; rw [lN_mul, pk_lRem (bm_mul_lt hkq hrq (by omega)) (by omega) (by omega), ← Nat.mul_mod]
        subst e_t23
        refine lv_iload hx hb dM_blind_90 (lv_at hl 5 rfl) ?_
        have hm1 : k * bm_bf d r ^ 17 % bm_p d < bm_p d := Nat.mod_lt _ (by omega)
        have hm2 : k * bm_bf d r ^ 17 % bm_q d < bm_q d := Nat.mod_lt _ (by omega)
        refine bm_callE (va_runS (As := [.long (lN (k * bm_bf d r ^ 17 % bm_p d)), .long (lN (k * bm_bf d r ^ 17 % bm_q d)), .int (nI d)]) (rest := []) ⟨hx, hb, hml, hown, hts⟩ (bc_M_join l D ct base ad M sz d (k * bm_bf d r ^ 17 % bm_p d) (k * bm_bf d r ^ 17 % bm_q d) hd (by omega) (by omega)) (va_cwS 3 hts (bm_goodS bw_742 bw_743 bw_5 bw_744) rfl rfl rfl (by decide +kernel) (by rw [← hR]; exact ⟨Nat.le_of_ble_eq_true rfl, Nat.le_of_ble_eq_true rfl⟩)) (bm_preS hM hG hS hz) rfl rfl hl.1 rfl (lv_room (Nat.le_of_ble_eq_true rfl)) dM_blind_92 (by rw [← hR]; exact ⟨Nat.le_of_ble_eq_true rfl, Nat.le_of_ble_eq_true rfl⟩)) hS (fun H locs hz hM hS => ?_)
        exact bm_lret hQ hx hb hr hlk hM hS ⟨rfl, rfl, hz⟩ (Nat.le_refl _) (Nat.le_refl _) dM_blind_95
  · have b0 := bm_cmpn h32
    refine lv_lload hx hb dM_blind_35 (lv_at hl 0 rfl) ?_
    refine lv_lload hx hb dM_blind_37 (lv_at hl 1 rfl) ?_
    refine lv_lrem hx hb dM_blind_39 (bm_lN_ne (by omega) (by omega)) ?_
    refine lv_topl (fun t24 e_t24 => ?_)
    have e_t24 : t24 = lN ((r) % bm_q d) := by rw [e_t24]; rw [pk_lRem (by omega) (by omega) (by omega)]
    subst e_t24
    refine lv_lconst (v := 0) hx hb dM_blind_40 (by decide) ?_
    refine W.lcmp hx hb dM_blind_41 ?_
    refine lv_if_ne (tgt := 54) hx hb dM_blind_42 rfl (fun h42 => ?_) (fun h42 => ?_)
    · have c0 := bm_cmpn h42
      have hbf := bm_bf_0 b0 c0
      rw [hbf] at hl
      have hb9 := (bm_bf_ok d r).2.2
      have hl : lv_has ls 11 [(9, .long (lN (bm_bf d r))), (7, .long (lN (bm_q d))), (5, .long (lN (bm_p d))), (0, .long (lN k)), (2, .long seed), (4, .int (nI d))] := hl
      refine lv_lload_n hx hb dM_blind_54 rfl (lv_at hl 3 rfl) ?_
      refine lv_lload hx hb dM_blind_55 (lv_at hl 2 rfl) ?_
      refine lv_lrem hx hb dM_blind_57 (bm_lN_ne (by omega) (by omega)) ?_
      refine lv_topl (fun t25 e_t25 => ?_)
      have e_t25 : t25 = lN (k % bm_p d) := by rw [e_t25]; rw [pk_lRem (by omega) (by omega) (by omega)]
      subst e_t25
      refine lv_lload hx hb dM_blind_58 (lv_at hl 0 rfl) ?_
      refine lv_ldc2 hx hb hown (hts _ bw_738) dM_blind_60 ?_
      refine lv_lload hx hb dM_blind_63 (lv_at hl 2 rfl) ?_
      refine bm_callE (va_runS (As := [.long (lN (bm_bf d r)), .long 17, .long (lN (bm_p d))]) (rest := [.long (lN (k % bm_p d))]) ⟨hx, hb, hml, hown, hts⟩ (bc_M_power l D ct base ad M sz (bm_bf d r) 17 (bm_p d) (by omega) (by decide) (by omega) (by omega)) (va_cwS 3 hts (bm_goodS bw_739 bw_740 bw_5 bw_741) rfl rfl rfl (by decide +kernel) (by rw [← hR]; exact ⟨Nat.le_of_ble_eq_true rfl, Nat.le_of_ble_eq_true rfl⟩)) (bm_preS hM hG hS hz) rfl rfl hl.1 rfl (lv_room (Nat.le_of_ble_eq_true rfl)) dM_blind_65 (by rw [← hR]; exact ⟨Nat.le_of_ble_eq_true rfl, Nat.le_of_ble_eq_true rfl⟩)) hS (fun H locs hz hM hS => ?_)
      refine lv_lmul hx hb dM_blind_68 ?_
      refine lv_lload hx hb dM_blind_69 (lv_at hl 2 rfl) ?_
      refine lv_lrem hx hb dM_blind_71 (bm_lN_ne (by omega) (by omega)) ?_
      have hkp : k % bm_p d < bm_p d := Nat.mod_lt _ (by omega)
      have hrp : bm_bf d r ^ 17 % bm_p d < bm_p d := Nat.mod_lt _ (by omega)
      refine lv_topl (fun t26 e_t26 => ?_)
      have e_t26 : t26 = lN (k * bm_bf d r ^ 17 % bm_p d) := by rw [e_t26]; rw [lN_mul, pk_lRem (bm_mul_lt hkp hrp (by omega)) (by omega) (by omega), ← Nat.mul_mod]
      subst e_t26
      refine lv_lload_n hx hb dM_blind_72 rfl (lv_at hl 3 rfl) ?_
      refine lv_lload hx hb dM_blind_73 (lv_at hl 1 rfl) ?_
      refine lv_lrem hx hb dM_blind_75 (bm_lN_ne (by omega) (by omega)) ?_
      refine lv_topl (fun t27 e_t27 => ?_)
      have e_t27 : t27 = lN (k % bm_q d) := by rw [e_t27]; rw [pk_lRem (by omega) (by omega) (by omega)]
      subst e_t27
      refine lv_lload hx hb dM_blind_76 (lv_at hl 0 rfl) ?_
      refine lv_ldc2 hx hb hown (hts _ bw_738) dM_blind_78 ?_
      refine lv_lload hx hb dM_blind_81 (lv_at hl 1 rfl) ?_
      refine bm_callE (va_runS (As := [.long (lN (bm_bf d r)), .long 17, .long (lN (bm_q d))]) (rest := [.long (lN (k % bm_q d)), .long (lN (k * bm_bf d r ^ 17 % bm_p d))]) ⟨hx, hb, hml, hown, hts⟩ (bc_M_power l D ct base ad M sz (bm_bf d r) 17 (bm_q d) (by omega) (by decide) (by omega) (by omega)) (va_cwS 3 hts (bm_goodS bw_739 bw_740 bw_5 bw_741) rfl rfl rfl (by decide +kernel) (by rw [← hR]; exact ⟨Nat.le_of_ble_eq_true rfl, Nat.le_of_ble_eq_true rfl⟩)) (bm_preS hM hG hS hz) rfl rfl hl.1 rfl (lv_room (Nat.le_of_ble_eq_true rfl)) dM_blind_83 (by rw [← hR]; exact ⟨Nat.le_of_ble_eq_true rfl, Nat.le_of_ble_eq_true rfl⟩)) hS (fun H locs hz hM hS => ?_)
      refine lv_lmul hx hb dM_blind_86 ?_
      refine lv_lload hx hb dM_blind_87 (lv_at hl 1 rfl) ?_
      refine lv_lrem hx hb dM_blind_89 (bm_lN_ne (by omega) (by omega)) ?_
      have hkq : k % bm_q d < bm_q d := Nat.mod_lt _ (by omega)
      have hrq : bm_bf d r ^ 17 % bm_q d < bm_q d := Nat.mod_lt _ (by omega)
      refine lv_topl (fun t28 e_t28 => ?_)
      have e_t28 : t28 = lN (k * bm_bf d r ^ 17 % bm_q d) := by rw [e_t28]; rw [lN_mul, pk_lRem (bm_mul_lt hkq hrq (by omega)) (by omega) (by omega), ← Nat.mul_mod]
      subst e_t28
      refine lv_iload hx hb dM_blind_90 (lv_at hl 5 rfl) ?_
      have hm1 : k * bm_bf d r ^ 17 % bm_p d < bm_p d := Nat.mod_lt _ (by omega)
      have hm2 : k * bm_bf d r ^ 17 % bm_q d < bm_q d := Nat.mod_lt _ (by omega)
      refine bm_callE (va_runS (As := [.long (lN (k * bm_bf d r ^ 17 % bm_p d)), .long (lN (k * bm_bf d r ^ 17 % bm_q d)), .int (nI d)]) (rest := []) ⟨hx, hb, hml, hown, hts⟩ (bc_M_join l D ct base ad M sz d (k * bm_bf d r ^ 17 % bm_p d) (k * bm_bf d r ^ 17 % bm_q d) hd (by omega) (by omega)) (va_cwS 3 hts (bm_goodS bw_742 bw_743 bw_5 bw_744) rfl rfl rfl (by decide +kernel) (by rw [← hR]; exact ⟨Nat.le_of_ble_eq_true rfl, Nat.le_of_ble_eq_true rfl⟩)) (bm_preS hM hG hS hz) rfl rfl hl.1 rfl (lv_room (Nat.le_of_ble_eq_true rfl)) dM_blind_92 (by rw [← hR]; exact ⟨Nat.le_of_ble_eq_true rfl, Nat.le_of_ble_eq_true rfl⟩)) hS (fun H locs hz hM hS => ?_)
      exact bm_lret hQ hx hb hr hlk hM hS ⟨rfl, rfl, hz⟩ (Nat.le_refl _) (Nat.le_refl _) dM_blind_95
    · have a0 : (r) % bm_p d = 0 ∨ (r) % bm_q d = 0 := Or.inr (bm_cmp0 (bm_mod63 (by omega) (by omega)) h42)
      refine lv_lload hx hb dM_blind_45 (lv_at hl 0 rfl) ?_
      refine lv_lconst (v := 1) hx hb dM_blind_47 (by decide) ?_
      refine lv_ladd hx hb dM_blind_48 ?_
      refine lv_topl (fun t29 e_t29 => ?_)
      have e_t29 : t29 = lN (r + 1) := by rw [e_t29]; exact lN_1 _
      subst e_t29
      refine lv_lstore hx hb dM_blind_49 hl (by decide) rfl (fun ls hl => ?_)
      have hl : lv_has ls 11 [(9, .long (lN (r + 1))), (7, .long (lN (bm_q d))), (5, .long (lN (bm_p d))), (0, .long (lN k)), (2, .long seed), (4, .int (nI d))] := hl
      refine lv_goto (tgt := 25) hx hb dM_blind_51 rfl ?_
      refine lv_lload hx hb dM_blind_25 (lv_at hl 0 rfl) ?_
      refine lv_lload hx hb dM_blind_27 (lv_at hl 2 rfl) ?_
      refine lv_lrem hx hb dM_blind_29 (bm_lN_ne (by omega) (by omega)) ?_
      refine lv_topl (fun t30 e_t30 => ?_)
      have e_t30 : t30 = lN ((r + 1) % bm_p d) := by rw [e_t30]; rw [pk_lRem (by omega) (by omega) (by omega)]
      subst e_t30
      refine lv_lconst (v := 0) hx hb dM_blind_30 (by decide) ?_
      refine W.lcmp hx hb dM_blind_31 ?_
      refine lv_if_eq (tgt := 45) hx hb dM_blind_32 rfl (fun h32 => ?_) (fun h32 => ?_)
      · have a1 : (r + 1) % bm_p d = 0 ∨ (r + 1) % bm_q d = 0 := Or.inl (bm_cmp0 (bm_mod63 (by omega) (by omega)) h32)
        refine lv_lload hx hb dM_blind_45 (lv_at hl 0 rfl) ?_
        refine lv_lconst (v := 1) hx hb dM_blind_47 (by decide) ?_
        refine lv_ladd hx hb dM_blind_48 ?_
        refine lv_topl (fun t31 e_t31 => ?_)
        have e_t31 : t31 = lN (r + 1 + 1) := by rw [e_t31]; exact lN_1 _
        subst e_t31
        refine lv_lstore hx hb dM_blind_49 hl (by decide) rfl (fun ls hl => ?_)
        have hl : lv_has ls 11 [(9, .long (lN (r + 1 + 1))), (7, .long (lN (bm_q d))), (5, .long (lN (bm_p d))), (0, .long (lN k)), (2, .long seed), (4, .int (nI d))] := hl
        refine lv_goto (tgt := 25) hx hb dM_blind_51 rfl ?_
        refine lv_lload hx hb dM_blind_25 (lv_at hl 0 rfl) ?_
        refine lv_lload hx hb dM_blind_27 (lv_at hl 2 rfl) ?_
        refine lv_lrem hx hb dM_blind_29 (bm_lN_ne (by omega) (by omega)) ?_
        refine lv_topl (fun t32 e_t32 => ?_)
        have e_t32 : t32 = lN ((r + 1 + 1) % bm_p d) := by rw [e_t32]; rw [pk_lRem (by omega) (by omega) (by omega)]
        subst e_t32
        refine lv_lconst (v := 0) hx hb dM_blind_30 (by decide) ?_
        refine W.lcmp hx hb dM_blind_31 ?_
        refine lv_if_eq (tgt := 45) hx hb dM_blind_32 rfl (fun h32 => absurd (bm_cmp0 (a := (r + 1 + 1) % bm_p d) (bm_mod63 (by omega) (by omega)) h32) (by have h9 := (bm_bf_ok d r).1; rw [← bm_bf_2 a0 a1] at h9; exact h9)) (fun h32 => ?_)
        refine lv_lload hx hb dM_blind_35 (lv_at hl 0 rfl) ?_
        refine lv_lload hx hb dM_blind_37 (lv_at hl 1 rfl) ?_
        refine lv_lrem hx hb dM_blind_39 (bm_lN_ne (by omega) (by omega)) ?_
        refine lv_topl (fun t33 e_t33 => ?_)
        have e_t33 : t33 = lN ((r + 1 + 1) % bm_q d) := by rw [e_t33]; rw [pk_lRem (by omega) (by omega) (by omega)]
        subst e_t33
        refine lv_lconst (v := 0) hx hb dM_blind_40 (by decide) ?_
        refine W.lcmp hx hb dM_blind_41 ?_
        refine lv_if_ne (tgt := 54) hx hb dM_blind_42 rfl (fun h42 => ?_) (fun h42 => absurd (bm_cmp0 (a := (r + 1 + 1) % bm_q d) (bm_mod63 (by omega) (by omega)) h42) (by have h9 := (bm_bf_ok d r).2.1; rw [← bm_bf_2 a0 a1] at h9; exact h9))
        have hbf := bm_bf_2 a0 a1
        rw [hbf] at hl
        have hb9 := (bm_bf_ok d r).2.2
        have hl : lv_has ls 11 [(9, .long (lN (bm_bf d r))), (7, .long (lN (bm_q d))), (5, .long (lN (bm_p d))), (0, .long (lN k)), (2, .long seed), (4, .int (nI d))] := hl
        refine lv_lload_n hx hb dM_blind_54 rfl (lv_at hl 3 rfl) ?_
        refine lv_lload hx hb dM_blind_55 (lv_at hl 2 rfl) ?_
        refine lv_lrem hx hb dM_blind_57 (bm_lN_ne (by omega) (by omega)) ?_
        refine lv_topl (fun t34 e_t34 => ?_)
        have e_t34 : t34 = lN (k % bm_p d) := by rw [e_t34]; rw [pk_lRem (by omega) (by omega) (by omega)]
        subst e_t34
        refine lv_lload hx hb dM_blind_58 (lv_at hl 0 rfl) ?_
        refine lv_ldc2 hx hb hown (hts _ bw_738) dM_blind_60 ?_
        refine lv_lload hx hb dM_blind_63 (lv_at hl 2 rfl) ?_
        refine bm_callE (va_runS (As := [.long (lN (bm_bf d r)), .long 17, .long (lN (bm_p d))]) (rest := [.long (lN (k % bm_p d))]) ⟨hx, hb, hml, hown, hts⟩ (bc_M_power l D ct base ad M sz (bm_bf d r) 17 (bm_p d) (by omega) (by decide) (by omega) (by omega)) (va_cwS 3 hts (bm_goodS bw_739 bw_740 bw_5 bw_741) rfl rfl rfl (by decide +kernel) (by rw [← hR]; exact ⟨Nat.le_of_ble_eq_true rfl, Nat.le_of_ble_eq_true rfl⟩)) (bm_preS hM hG hS hz) rfl rfl hl.1 rfl (lv_room (Nat.le_of_ble_eq_true rfl)) dM_blind_65 (by rw [← hR]; exact ⟨Nat.le_of_ble_eq_true rfl, Nat.le_of_ble_eq_true rfl⟩)) hS (fun H locs hz hM hS => ?_)
        refine lv_lmul hx hb dM_blind_68 ?_
        refine lv_lload hx hb dM_blind_69 (lv_at hl 2 rfl) ?_
        refine lv_lrem hx hb dM_blind_71 (bm_lN_ne (by omega) (by omega)) ?_
        have hkp : k % bm_p d < bm_p d := Nat.mod_lt _ (by omega)
        have hrp : bm_bf d r ^ 17 % bm_p d < bm_p d := Nat.mod_lt _ (by omega)
        refine lv_topl (fun t35 e_t35 => ?_)
        have e_t35 : t35 = lN (k * bm_bf d r ^ 17 % bm_p d) := by rw [e_t35]; rw [lN_mul, pk_lRem (bm_mul_lt hkp hrp (by omega)) (by omega) (by omega), ← Nat.mul_mod]
        subst e_t35
        refine lv_lload_n hx hb dM_blind_72 rfl (lv_at hl 3 rfl) ?_
        refine lv_lload hx hb dM_blind_73 (lv_at hl 1 rfl) ?_
        refine lv_lrem hx hb dM_blind_75 (bm_lN_ne (by omega) (by omega)) ?_
        refine lv_topl (fun t36 e_t36 => ?_)
        have e_t36 : t36 = lN (k % bm_q d) := by rw [e_t36]; rw [pk_lRem (by omega) (by omega) (by omega)]
        subst e_t36
        refine lv_lload hx hb dM_blind_76 (lv_at hl 0 rfl) ?_
        refine lv_ldc2 hx hb hown (hts _ bw_738) dM_blind_78 ?_
        refine lv_lload hx hb dM_blind_81 (lv_at hl 1 rfl) ?_
        refine bm_callE (va_runS (As := [.long (lN (bm_bf d r)), .long 17, .long (lN (bm_q d))]) (rest := [.long (lN (k % bm_q d)), .long (lN (k * bm_bf d r ^ 17 % bm_p d))]) ⟨hx, hb, hml, hown, hts⟩ (bc_M_power l D ct base ad M sz (bm_bf d r) 17 (bm_q d) (by omega) (by decide) (by omega) (by omega)) (va_cwS 3 hts (bm_goodS bw_739 bw_740 bw_5 bw_741) rfl rfl rfl (by decide +kernel) (by rw [← hR]; exact ⟨Nat.le_of_ble_eq_true rfl, Nat.le_of_ble_eq_true rfl⟩)) (bm_preS hM hG hS hz) rfl rfl hl.1 rfl (lv_room (Nat.le_of_ble_eq_true rfl)) dM_blind_83 (by rw [← hR]; exact ⟨Nat.le_of_ble_eq_true rfl, Nat.le_of_ble_eq_true rfl⟩)) hS (fun H locs hz hM hS => ?_)
        refine lv_lmul hx hb dM_blind_86 ?_
        refine lv_lload hx hb dM_blind_87 (lv_at hl 1 rfl) ?_
        refine lv_lrem hx hb dM_blind_89 (bm_lN_ne (by omega) (by omega)) ?_
        have hkq : k % bm_q d < bm_q d := Nat.mod_lt _ (by omega)
        have hrq : bm_bf d r ^ 17 % bm_q d < bm_q d := Nat.mod_lt _ (by omega)
        refine lv_topl (fun t37 e_t37 => ?_)
        have e_t37 : t37 = lN (k * bm_bf d r ^ 17 % bm_q d) := by rw [e_t37]; rw [lN_mul, pk_lRem (bm_mul_lt hkq hrq (by omega)) (by omega) (by omega), ← Nat.mul_mod]
        subst e_t37
        refine lv_iload hx hb dM_blind_90 (lv_at hl 5 rfl) ?_
        have hm1 : k * bm_bf d r ^ 17 % bm_p d < bm_p d := Nat.mod_lt _ (by omega)
        have hm2 : k * bm_bf d r ^ 17 % bm_q d < bm_q d := Nat.mod_lt _ (by omega)
        refine bm_callE (va_runS (As := [.long (lN (k * bm_bf d r ^ 17 % bm_p d)), .long (lN (k * bm_bf d r ^ 17 % bm_q d)), .int (nI d)]) (rest := []) ⟨hx, hb, hml, hown, hts⟩ (bc_M_join l D ct base ad M sz d (k * bm_bf d r ^ 17 % bm_p d) (k * bm_bf d r ^ 17 % bm_q d) hd (by omega) (by omega)) (va_cwS 3 hts (bm_goodS bw_742 bw_743 bw_5 bw_744) rfl rfl rfl (by decide +kernel) (by rw [← hR]; exact ⟨Nat.le_of_ble_eq_true rfl, Nat.le_of_ble_eq_true rfl⟩)) (bm_preS hM hG hS hz) rfl rfl hl.1 rfl (lv_room (Nat.le_of_ble_eq_true rfl)) dM_blind_92 (by rw [← hR]; exact ⟨Nat.le_of_ble_eq_true rfl, Nat.le_of_ble_eq_true rfl⟩)) hS (fun H locs hz hM hS => ?_)
        exact bm_lret hQ hx hb hr hlk hM hS ⟨rfl, rfl, hz⟩ (Nat.le_refl _) (Nat.le_refl _) dM_blind_95
      · have b1 := bm_cmpn h32
        refine lv_lload hx hb dM_blind_35 (lv_at hl 0 rfl) ?_
        refine lv_lload hx hb dM_blind_37 (lv_at hl 1 rfl) ?_
        refine lv_lrem hx hb dM_blind_39 (bm_lN_ne (by omega) (by omega)) ?_
        refine lv_topl (fun t38 e_t38 => ?_)
        have e_t38 : t38 = lN ((r + 1) % bm_q d) := by rw [e_t38]; rw [pk_lRem (by omega) (by omega) (by omega)]
        subst e_t38
        refine lv_lconst (v := 0) hx hb dM_blind_40 (by decide) ?_
        refine W.lcmp hx hb dM_blind_41 ?_
        refine lv_if_ne (tgt := 54) hx hb dM_blind_42 rfl (fun h42 => ?_) (fun h42 => ?_)
        · have c1 := bm_cmpn h42
          have hbf := bm_bf_1 a0 b1 c1
          rw [hbf] at hl
          have hb9 := (bm_bf_ok d r).2.2
          have hl : lv_has ls 11 [(9, .long (lN (bm_bf d r))), (7, .long (lN (bm_q d))), (5, .long (lN (bm_p d))), (0, .long (lN k)), (2, .long seed), (4, .int (nI d))] := hl
          refine lv_lload_n hx hb dM_blind_54 rfl (lv_at hl 3 rfl) ?_
          refine lv_lload hx hb dM_blind_55 (lv_at hl 2 rfl) ?_
          refine lv_lrem hx hb dM_blind_57 (bm_lN_ne (by omega) (by omega)) ?_
          refine lv_topl (fun t39 e_t39 => ?_)
          have e_t39 : t39 = lN (k % bm_p d) := by rw [e_t39]; rw [pk_lRem (by omega) (by omega) (by omega)]
          subst e_t39
          refine lv_lload hx hb dM_blind_58 (lv_at hl 0 rfl) ?_
          refine lv_ldc2 hx hb hown (hts _ bw_738) dM_blind_60 ?_
          refine lv_lload hx hb dM_blind_63 (lv_at hl 2 rfl) ?_
          refine bm_callE (va_runS (As := [.long (lN (bm_bf d r)), .long 17, .long (lN (bm_p d))]) (rest := [.long (lN (k % bm_p d))]) ⟨hx, hb, hml, hown, hts⟩ (bc_M_power l D ct base ad M sz (bm_bf d r) 17 (bm_p d) (by omega) (by decide) (by omega) (by omega)) (va_cwS 3 hts (bm_goodS bw_739 bw_740 bw_5 bw_741) rfl rfl rfl (by decide +kernel) (by rw [← hR]; exact ⟨Nat.le_of_ble_eq_true rfl, Nat.le_of_ble_eq_true rfl⟩)) (bm_preS hM hG hS hz) rfl rfl hl.1 rfl (lv_room (Nat.le_of_ble_eq_true rfl)) dM_blind_65 (by rw [← hR]; exact ⟨Nat.le_of_ble_eq_true rfl, Nat.le_of_ble_eq_true rfl⟩)) hS (fun H locs hz hM hS => ?_)
          refine lv_lmul hx hb dM_blind_68 ?_
          refine lv_lload hx hb dM_blind_69 (lv_at hl 2 rfl) ?_
          refine lv_lrem hx hb dM_blind_71 (bm_lN_ne (by omega) (by omega)) ?_
          have hkp : k % bm_p d < bm_p d := Nat.mod_lt _ (by omega)
          have hrp : bm_bf d r ^ 17 % bm_p d < bm_p d := Nat.mod_lt _ (by omega)
          refine lv_topl (fun t40 e_t40 => ?_)
          have e_t40 : t40 = lN (k * bm_bf d r ^ 17 % bm_p d) := by rw [e_t40]; rw [lN_mul, pk_lRem (bm_mul_lt hkp hrp (by omega)) (by omega) (by omega), ← Nat.mul_mod]
          subst e_t40
          refine lv_lload_n hx hb dM_blind_72 rfl (lv_at hl 3 rfl) ?_
          refine lv_lload hx hb dM_blind_73 (lv_at hl 1 rfl) ?_
          refine lv_lrem hx hb dM_blind_75 (bm_lN_ne (by omega) (by omega)) ?_
          refine lv_topl (fun t41 e_t41 => ?_)
          have e_t41 : t41 = lN (k % bm_q d) := by rw [e_t41]; rw [pk_lRem (by omega) (by omega) (by omega)]
          subst e_t41
          refine lv_lload hx hb dM_blind_76 (lv_at hl 0 rfl) ?_
          refine lv_ldc2 hx hb hown (hts _ bw_738) dM_blind_78 ?_
          refine lv_lload hx hb dM_blind_81 (lv_at hl 1 rfl) ?_
          refine bm_callE (va_runS (As := [.long (lN (bm_bf d r)), .long 17, .long (lN (bm_q d))]) (rest := [.long (lN (k % bm_q d)), .long (lN (k * bm_bf d r ^ 17 % bm_p d))]) ⟨hx, hb, hml, hown, hts⟩ (bc_M_power l D ct base ad M sz (bm_bf d r) 17 (bm_q d) (by omega) (by decide) (by omega) (by omega)) (va_cwS 3 hts (bm_goodS bw_739 bw_740 bw_5 bw_741) rfl rfl rfl (by decide +kernel) (by rw [← hR]; exact ⟨Nat.le_of_ble_eq_true rfl, Nat.le_of_ble_eq_true rfl⟩)) (bm_preS hM hG hS hz) rfl rfl hl.1 rfl (lv_room (Nat.le_of_ble_eq_true rfl)) dM_blind_83 (by rw [← hR]; exact ⟨Nat.le_of_ble_eq_true rfl, Nat.le_of_ble_eq_true rfl⟩)) hS (fun H locs hz hM hS => ?_)
          refine lv_lmul hx hb dM_blind_86 ?_
          refine lv_lload hx hb dM_blind_87 (lv_at hl 1 rfl) ?_
          refine lv_lrem hx hb dM_blind_89 (bm_lN_ne (by omega) (by omega)) ?_
          have hkq : k % bm_q d < bm_q d := Nat.mod_lt _ (by omega)
          have hrq : bm_bf d r ^ 17 % bm_q d < bm_q d := Nat.mod_lt _ (by omega)
          refine lv_topl (fun t42 e_t42 => ?_)
          have e_t42 : t42 = lN (k * bm_bf d r ^ 17 % bm_q d) := by rw [e_t42]; rw [lN_mul, pk_lRem (bm_mul_lt hkq hrq (by omega)) (by omega) (by omega), ← Nat.mul_mod]
          subst e_t42
          refine lv_iload hx hb dM_blind_90 (lv_at hl 5 rfl) ?_
          have hm1 : k * bm_bf d r ^ 17 % bm_p d < bm_p d := Nat.mod_lt _ (by omega)
          have hm2 : k * bm_bf d r ^ 17 % bm_q d < bm_q d := Nat.mod_lt _ (by omega)
          refine bm_callE (va_runS (As := [.long (lN (k * bm_bf d r ^ 17 % bm_p d)), .long (lN (k * bm_bf d r ^ 17 % bm_q d)), .int (nI d)]) (rest := []) ⟨hx, hb, hml, hown, hts⟩ (bc_M_join l D ct base ad M sz d (k * bm_bf d r ^ 17 % bm_p d) (k * bm_bf d r ^ 17 % bm_q d) hd (by omega) (by omega)) (va_cwS 3 hts (bm_goodS bw_742 bw_743 bw_5 bw_744) rfl rfl rfl (by decide +kernel) (by rw [← hR]; exact ⟨Nat.le_of_ble_eq_true rfl, Nat.le_of_ble_eq_true rfl⟩)) (bm_preS hM hG hS hz) rfl rfl hl.1 rfl (lv_room (Nat.le_of_ble_eq_true rfl)) dM_blind_92 (by rw [← hR]; exact ⟨Nat.le_of_ble_eq_true rfl, Nat.le_of_ble_eq_true rfl⟩)) hS (fun H locs hz hM hS => ?_)
          exact bm_lret hQ hx hb hr hlk hM hS ⟨rfl, rfl, hz⟩ (Nat.le_refl _) (Nat.le_refl _) dM_blind_95
        · have a1 : (r + 1) % bm_p d = 0 ∨ (r + 1) % bm_q d = 0 := Or.inr (bm_cmp0 (bm_mod63 (by omega) (by omega)) h42)
          refine lv_lload hx hb dM_blind_45 (lv_at hl 0 rfl) ?_
          refine lv_lconst (v := 1) hx hb dM_blind_47 (by decide) ?_
          refine lv_ladd hx hb dM_blind_48 ?_
          refine lv_topl (fun t43 e_t43 => ?_)
          have e_t43 : t43 = lN (r + 1 + 1) := by rw [e_t43]; exact lN_1 _
          subst e_t43
          refine lv_lstore hx hb dM_blind_49 hl (by decide) rfl (fun ls hl => ?_)
          have hl : lv_has ls 11 [(9, .long (lN (r + 1 + 1))), (7, .long (lN (bm_q d))), (5, .long (lN (bm_p d))), (0, .long (lN k)), (2, .long seed), (4, .int (nI d))] := hl
          refine lv_goto (tgt := 25) hx hb dM_blind_51 rfl ?_
          refine lv_lload hx hb dM_blind_25 (lv_at hl 0 rfl) ?_
          refine lv_lload hx hb dM_blind_27 (lv_at hl 2 rfl) ?_
          refine lv_lrem hx hb dM_blind_29 (bm_lN_ne (by omega) (by omega)) ?_
          refine lv_topl (fun t44 e_t44 => ?_)
          have e_t44 : t44 = lN ((r + 1 + 1) % bm_p d) := by rw [e_t44]; rw [pk_lRem (by omega) (by omega) (by omega)]
          subst e_t44
          refine lv_lconst (v := 0) hx hb dM_blind_30 (by decide) ?_
          refine W.lcmp hx hb dM_blind_31 ?_
          refine lv_if_eq (tgt := 45) hx hb dM_blind_32 rfl (fun h32 => absurd (bm_cmp0 (a := (r + 1 + 1) % bm_p d) (bm_mod63 (by omega) (by omega)) h32) (by have h9 := (bm_bf_ok d r).1; rw [← bm_bf_2 a0 a1] at h9; exact h9)) (fun h32 => ?_)
          refine lv_lload hx hb dM_blind_35 (lv_at hl 0 rfl) ?_
          refine lv_lload hx hb dM_blind_37 (lv_at hl 1 rfl) ?_
          refine lv_lrem hx hb dM_blind_39 (bm_lN_ne (by omega) (by omega)) ?_
          refine lv_topl (fun t45 e_t45 => ?_)
          have e_t45 : t45 = lN ((r + 1 + 1) % bm_q d) := by rw [e_t45]; rw [pk_lRem (by omega) (by omega) (by omega)]
          subst e_t45
          refine lv_lconst (v := 0) hx hb dM_blind_40 (by decide) ?_
          refine W.lcmp hx hb dM_blind_41 ?_
          refine lv_if_ne (tgt := 54) hx hb dM_blind_42 rfl (fun h42 => ?_) (fun h42 => absurd (bm_cmp0 (a := (r + 1 + 1) % bm_q d) (bm_mod63 (by omega) (by omega)) h42) (by have h9 := (bm_bf_ok d r).2.1; rw [← bm_bf_2 a0 a1] at h9; exact h9))
          have hbf := bm_bf_2 a0 a1
          rw [hbf] at hl
          have hb9 := (bm_bf_ok d r).2.2
          have hl : lv_has ls 11 [(9, .long (lN (bm_bf d r))), (7, .long (lN (bm_q d))), (5, .long (lN (bm_p d))), (0, .long (lN k)), (2, .long seed), (4, .int (nI d))] := hl
          refine lv_lload_n hx hb dM_blind_54 rfl (lv_at hl 3 rfl) ?_
          refine lv_lload hx hb dM_blind_55 (lv_at hl 2 rfl) ?_
          refine lv_lrem hx hb dM_blind_57 (bm_lN_ne (by omega) (by omega)) ?_
          refine lv_topl (fun t46 e_t46 => ?_)
          have e_t46 : t46 = lN (k % bm_p d) := by rw [e_t46]; rw [pk_lRem (by omega) (by omega) (by omega)]
          subst e_t46
          refine lv_lload hx hb dM_blind_58 (lv_at hl 0 rfl) ?_
          refine lv_ldc2 hx hb hown (hts _ bw_738) dM_blind_60 ?_
          refine lv_lload hx hb dM_blind_63 (lv_at hl 2 rfl) ?_
          refine bm_callE (va_runS (As := [.long (lN (bm_bf d r)), .long 17, .long (lN (bm_p d))]) (rest := [.long (lN (k % bm_p d))]) ⟨hx, hb, hml, hown, hts⟩ (bc_M_power l D ct base ad M sz (bm_bf d r) 17 (bm_p d) (by omega) (by decide) (by omega) (by omega)) (va_cwS 3 hts (bm_goodS bw_739 bw_740 bw_5 bw_741) rfl rfl rfl (by decide +kernel) (by rw [← hR]; exact ⟨Nat.le_of_ble_eq_true rfl, Nat.le_of_ble_eq_true rfl⟩)) (bm_preS hM hG hS hz) rfl rfl hl.1 rfl (lv_room (Nat.le_of_ble_eq_true rfl)) dM_blind_65 (by rw [← hR]; exact ⟨Nat.le_of_ble_eq_true rfl, Nat.le_of_ble_eq_true rfl⟩)) hS (fun H locs hz hM hS => ?_)
          refine lv_lmul hx hb dM_blind_68 ?_
          refine lv_lload hx hb dM_blind_69 (lv_at hl 2 rfl) ?_
          refine lv_lrem hx hb dM_blind_71 (bm_lN_ne (by omega) (by omega)) ?_
          have hkp : k % bm_p d < bm_p d := Nat.mod_lt _ (by omega)
          have hrp : bm_bf d r ^ 17 % bm_p d < bm_p d := Nat.mod_lt _ (by omega)
          refine lv_topl (fun t47 e_t47 => ?_)
          have e_t47 : t47 = lN (k * bm_bf d r ^ 17 % bm_p d) := by rw [e_t47]; rw [lN_mul, pk_lRem (bm_mul_lt hkp hrp (by omega)) (by omega) (by omega), ← Nat.mul_mod]
          subst e_t47
          refine lv_lload_n hx hb dM_blind_72 rfl (lv_at hl 3 rfl) ?_
          refine lv_lload hx hb dM_blind_73 (lv_at hl 1 rfl) ?_
          refine lv_lrem hx hb dM_blind_75 (bm_lN_ne (by omega) (by omega)) ?_
          refine lv_topl (fun t48 e_t48 => ?_)
          have e_t48 : t48 = lN (k % bm_q d) := by rw [e_t48]; rw [pk_lRem (by omega) (by omega) (by omega)]
          subst e_t48
          refine lv_lload hx hb dM_blind_76 (lv_at hl 0 rfl) ?_
          refine lv_ldc2 hx hb hown (hts _ bw_738) dM_blind_78 ?_
          refine lv_lload hx hb dM_blind_81 (lv_at hl 1 rfl) ?_
          refine bm_callE (va_runS (As := [.long (lN (bm_bf d r)), .long 17, .long (lN (bm_q d))]) (rest := [.long (lN (k % bm_q d)), .long (lN (k * bm_bf d r ^ 17 % bm_p d))]) ⟨hx, hb, hml, hown, hts⟩ (bc_M_power l D ct base ad M sz (bm_bf d r) 17 (bm_q d) (by omega) (by decide) (by omega) (by omega)) (va_cwS 3 hts (bm_goodS bw_739 bw_740 bw_5 bw_741) rfl rfl rfl (by decide +kernel) (by rw [← hR]; exact ⟨Nat.le_of_ble_eq_true rfl, Nat.le_of_ble_eq_true rfl⟩)) (bm_preS hM hG hS hz) rfl rfl hl.1 rfl (lv_room (Nat.le_of_ble_eq_true rfl)) dM_blind_83 (by rw [← hR]; exact ⟨Nat.le_of_ble_eq_true rfl, Nat.le_of_ble_eq_true rfl⟩)) hS (fun H locs hz hM hS => ?_)
          refine lv_lmul hx hb dM_blind_86 ?_
          refine lv_lload hx hb dM_blind_87 (lv_at hl 1 rfl) ?_
          refine lv_lrem hx hb dM_blind_89 (bm_lN_ne (by omega) (by omega)) ?_
          have hkq : k % bm_q d < bm_q d := Nat.mod_lt _ (by omega)
          have hrq : bm_bf d r ^ 17 % bm_q d < bm_q d := Nat.mod_lt _ (by omega)
          refine lv_topl (fun t49 e_t49 => ?_)
          have e_t49 : t49 = lN (k * bm_bf d r ^ 17 % bm_q d) := by rw [e_t49]; rw [lN_mul, pk_lRem (bm_mul_lt hkq hrq (by omega)) (by omega) (by omega), ← Nat.mul_mod]
          subst e_t49
          refine lv_iload hx hb dM_blind_90 (lv_at hl 5 rfl) ?_
          have hm1 : k * bm_bf d r ^ 17 % bm_p d < bm_p d := Nat.mod_lt _ (by omega)
          have hm2 : k * bm_bf d r ^ 17 % bm_q d < bm_q d := Nat.mod_lt _ (by omega)
          refine bm_callE (va_runS (As := [.long (lN (k * bm_bf d r ^ 17 % bm_p d)), .long (lN (k * bm_bf d r ^ 17 % bm_q d)), .int (nI d)]) (rest := []) ⟨hx, hb, hml, hown, hts⟩ (bc_M_join l D ct base ad M sz d (k * bm_bf d r ^ 17 % bm_p d) (k * bm_bf d r ^ 17 % bm_q d) hd (by omega) (by omega)) (va_cwS 3 hts (bm_goodS bw_742 bw_743 bw_5 bw_744) rfl rfl rfl (by decide +kernel) (by rw [← hR]; exact ⟨Nat.le_of_ble_eq_true rfl, Nat.le_of_ble_eq_true rfl⟩)) (bm_preS hM hG hS hz) rfl rfl hl.1 rfl (lv_room (Nat.le_of_ble_eq_true rfl)) dM_blind_92 (by rw [← hR]; exact ⟨Nat.le_of_ble_eq_true rfl, Nat.le_of_ble_eq_true rfl⟩)) hS (fun H locs hz hM hS => ?_)
          exact bm_lret hQ hx hb hr hlk hM hS ⟨rfl, rfl, hz⟩ (Nat.le_refl _) (Nat.le_refl _) dM_blind_95
