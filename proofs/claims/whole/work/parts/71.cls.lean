set_option maxHeartbeats 4000000 in
set_option maxRecDepth 100000 in
theorem bc_P_denomination (l : Launch) (D : va_G) (ct : Nat → ClassId) (base : Nat) (ad : Nat → Nat) (M : bm_Map) (sz : Nat) (a b : Nat) (f : Nat → Int64) (h0 : M a = some (.inr (4, [.ref b]))) (h1 : M b = some (.inl (ct 1, 16, .inr (.inl f)))) : Met l yP_denomination (bm_ws yP_denomination cP_denomination 1 (some .long)) { frames := 0, cells := 0, slots := 0, locals := 0 } (bm_Pre D ct base ad M sz [.ref a]) (bm_Post D base (bm_Is (some (.long (f 0))) M sz)) 0 0 (bm_A base) := by
  refine bm_ofB (cc := cP_denomination) (maxL := 1) (ret := (some .long)) (by decide +kernel) (Nat.le_of_ble_eq_true rfl) ?_
  intro vp ve s vm args below meth vc hx hb hr hlk hts hown hml hnm ls hl hz hM hG R Q hR hQ
  have hown : s.vm.findClass "BlindMint$Payment" = some vm.cls := hown
  have hK := hG.K
  have hS : va_S (bm_A base) s.heap s.heap [] := va_S.rf
  have hl : lv_has ls 1 [(0, .ref a)] := hl
  refine lv_aload_n hx hb dP_denomination_0 rfl (lv_at hl 0 rfl) ?_
  refine bm_get (ci := 4) (v := .ref b) (C := "BlindMint$Payment") (T := bt_P) (N := 1) hx hb hts bu_P hown hK hM h0 rfl 0 (by decide) (hts _ bw_490) (fun _ h9 => h9) rfl dP_denomination_1 ?_
  refine lv_iconst (v := 0) hx hb dP_denomination_4 (by decide) ?_
  refine bm_lald hx hb hK hM 1 h1 rfl 0 (bm_ix_nI (k := 0) (by decide)) (by decide) dP_denomination_5 ?_
  exact bm_lret hQ hx hb hr hlk hM hS ⟨rfl, rfl, hz⟩ (Nat.le_refl _) (Nat.le_refl _) dP_denomination_6
set_option maxHeartbeats 4000000 in
set_option maxRecDepth 100000 in
theorem bc_P_signatureNumber (l : Launch) (D : va_G) (ct : Nat → ClassId) (base : Nat) (ad : Nat → Nat) (M : bm_Map) (sz : Nat) (a b : Nat) (f : Nat → Int64) (h0 : M a = some (.inr (4, [.ref b]))) (h1 : M b = some (.inl (ct 1, 16, .inr (.inl f)))) : Met l yP_signatureNumber (bm_ws yP_signatureNumber cP_signatureNumber 1 (some .long)) { frames := 0, cells := 0, slots := 0, locals := 0 } (bm_Pre D ct base ad M sz [.ref a]) (bm_Post D base (bm_Is (some (.long (f 1))) M sz)) 0 0 (bm_A base) := by
  refine bm_ofB (cc := cP_signatureNumber) (maxL := 1) (ret := (some .long)) (by decide +kernel) (Nat.le_of_ble_eq_true rfl) ?_
  intro vp ve s vm args below meth vc hx hb hr hlk hts hown hml hnm ls hl hz hM hG R Q hR hQ
  have hown : s.vm.findClass "BlindMint$Payment" = some vm.cls := hown
  have hK := hG.K
  have hS : va_S (bm_A base) s.heap s.heap [] := va_S.rf
  have hl : lv_has ls 1 [(0, .ref a)] := hl
  refine lv_aload_n hx hb dP_signatureNumber_0 rfl (lv_at hl 0 rfl) ?_
  refine bm_get (ci := 4) (v := .ref b) (C := "BlindMint$Payment") (T := bt_P) (N := 1) hx hb hts bu_P hown hK hM h0 rfl 0 (by decide) (hts _ bw_490) (fun _ h9 => h9) rfl dP_signatureNumber_1 ?_
  refine lv_iconst (v := 1) hx hb dP_signatureNumber_4 (by decide) ?_
  refine bm_lald hx hb hK hM 1 h1 rfl 1 (bm_ix_nI (k := 1) (by decide)) (by decide) dP_signatureNumber_5 ?_
  exact bm_lret hQ hx hb hr hlk hM hS ⟨rfl, rfl, hz⟩ (Nat.le_refl _) (Nat.le_refl _) dP_signatureNumber_6
set_option maxHeartbeats 4000000 in
set_option maxRecDepth 100000 in
theorem bc_P_challenge (l : Launch) (D : va_G) (ct : Nat → ClassId) (base : Nat) (ad : Nat → Nat) (M : bm_Map) (sz : Nat) (a b : Nat) (f : Nat → Int64) (h0 : M a = some (.inr (4, [.ref b]))) (h1 : M b = some (.inl (ct 1, 16, .inr (.inl f)))) : Met l yP_challenge (bm_ws yP_challenge cP_challenge 3 (some .long)) { frames := 1, cells := 0, slots := 0, locals := 25 } (bm_Pre D ct base ad M sz [.ref a]) (bm_Post D base (bm_Is (some (.long (bm_h3 (f 2) (f 3) (f 1)))) M sz)) 0 0 (bm_A base) := by
  refine bm_ofB (cc := cP_challenge) (maxL := 3) (ret := (some .long)) (by decide +kernel) (Nat.le_of_ble_eq_true rfl) ?_
  intro vp ve s vm args below meth vc hx hb hr hlk hts hown hml hnm ls hl hz hM hG R Q hR hQ
  have hown : s.vm.findClass "BlindMint$Payment" = some vm.cls := hown
  have hK := hG.K
  have hS : va_S (bm_A base) s.heap s.heap [] := va_S.rf
  have hl : lv_has ls 3 [(0, .ref a)] := hl
  refine lv_ldc2 hx hb hown (hts _ bw_175) dP_challenge_0 ?_
  refine lv_aload_n hx hb dP_challenge_3 rfl (lv_at hl 0 rfl) ?_
  refine bm_get (ci := 4) (v := .ref b) (C := "BlindMint$Payment") (T := bt_P) (N := 1) hx hb hts bu_P hown hK hM h0 rfl 0 (by decide) (hts _ bw_490) (fun _ h9 => h9) rfl dP_challenge_4 ?_
  refine lv_iconst (v := 2) hx hb dP_challenge_7 (by decide) ?_
  refine bm_lald hx hb hK hM 1 h1 rfl 2 (bm_ix_nI (k := 2) (by decide)) (by decide) dP_challenge_8 ?_
  refine bm_callE (va_runS (As := [.long 7, .long (f 2)]) (rest := []) ⟨hx, hb, hml, hown, hts⟩ (bc_H_step l D ct base ad M sz 7 (f 2)) (va_cwS 2 hts (bm_goodS bw_176 bw_177 bw_11 bw_178) rfl rfl rfl (by decide +kernel) (by rw [← hR]; exact ⟨Nat.le_of_ble_eq_true rfl, Nat.le_of_ble_eq_true rfl⟩)) (bm_preS hM hG hS hz) rfl rfl hl.1 rfl (lv_room (Nat.le_of_ble_eq_true rfl)) dP_challenge_9 (by rw [← hR]; exact ⟨Nat.le_of_ble_eq_true rfl, Nat.le_of_ble_eq_true rfl⟩)) hS (fun H locs hz hM hS => ?_)
  refine lv_lstore_n hx hb dP_challenge_12 rfl hl (by decide) rfl (fun ls hl => ?_)
  have hl : lv_has ls 3 [(1, .long (bm_step 7 (f 2))), (0, .ref a)] := hl
  refine lv_lload_n hx hb dP_challenge_13 rfl (lv_at hl 0 rfl) ?_
  refine lv_aload_n hx hb dP_challenge_14 rfl (lv_at hl 1 rfl) ?_
  refine bm_get (ci := 4) (v := .ref b) (C := "BlindMint$Payment") (T := bt_P) (N := 1) hx hb hts bu_P hown hK hM h0 rfl 0 (by decide) (hts _ bw_490) (fun _ h9 => h9) rfl dP_challenge_15 ?_
  refine lv_iconst (v := 3) hx hb dP_challenge_18 (by decide) ?_
  refine bm_lald hx hb hK hM 1 h1 rfl 3 (bm_ix_nI (k := 3) (by decide)) (by decide) dP_challenge_19 ?_
  refine bm_callE (va_runS (As := [.long (bm_step 7 (f 2)), .long (f 3)]) (rest := []) ⟨hx, hb, hml, hown, hts⟩ (bc_H_step l D ct base ad M sz (bm_step 7 (f 2)) (f 3)) (va_cwS 2 hts (bm_goodS bw_176 bw_177 bw_11 bw_178) rfl rfl rfl (by decide +kernel) (by rw [← hR]; exact ⟨Nat.le_of_ble_eq_true rfl, Nat.le_of_ble_eq_true rfl⟩)) (bm_preS hM hG hS hz) rfl rfl hl.1 rfl (lv_room (Nat.le_of_ble_eq_true rfl)) dP_challenge_20 (by rw [← hR]; exact ⟨Nat.le_of_ble_eq_true rfl, Nat.le_of_ble_eq_true rfl⟩)) hS (fun H locs hz hM hS => ?_)
  refine lv_aload_n hx hb dP_challenge_23 rfl (lv_at hl 1 rfl) ?_
  refine bm_get (ci := 4) (v := .ref b) (C := "BlindMint$Payment") (T := bt_P) (N := 1) hx hb hts bu_P hown hK hM h0 rfl 0 (by decide) (hts _ bw_490) (fun _ h9 => h9) rfl dP_challenge_24 ?_
  refine lv_iconst (v := 1) hx hb dP_challenge_27 (by decide) ?_
  refine bm_lald hx hb hK hM 1 h1 rfl 1 (bm_ix_nI (k := 1) (by decide)) (by decide) dP_challenge_28 ?_
  refine bm_callE (va_runS (As := [.long (bm_step (bm_step 7 (f 2)) (f 3)), .long (f 1)]) (rest := []) ⟨hx, hb, hml, hown, hts⟩ (bc_H_step l D ct base ad M sz (bm_step (bm_step 7 (f 2)) (f 3)) (f 1)) (va_cwS 2 hts (bm_goodS bw_176 bw_177 bw_11 bw_178) rfl rfl rfl (by decide +kernel) (by rw [← hR]; exact ⟨Nat.le_of_ble_eq_true rfl, Nat.le_of_ble_eq_true rfl⟩)) (bm_preS hM hG hS hz) rfl rfl hl.1 rfl (lv_room (Nat.le_of_ble_eq_true rfl)) dP_challenge_29 (by rw [← hR]; exact ⟨Nat.le_of_ble_eq_true rfl, Nat.le_of_ble_eq_true rfl⟩)) hS (fun H locs hz hM hS => ?_)
  refine bm_callE (va_runS (As := [.long (bm_step (bm_step (bm_step 7 (f 2)) (f 3)) (f 1))]) (rest := []) ⟨hx, hb, hml, hown, hts⟩ (bc_H_end l D ct base ad M sz (bm_step (bm_step (bm_step 7 (f 2)) (f 3)) (f 1))) (va_cwS 1 hts (bm_goodS bw_181 bw_182 bw_11 bw_183) rfl rfl rfl (by decide +kernel) (by rw [← hR]; exact ⟨Nat.le_of_ble_eq_true rfl, Nat.le_of_ble_eq_true rfl⟩)) (bm_preS hM hG hS hz) rfl rfl hl.1 rfl (lv_room (Nat.le_of_ble_eq_true rfl)) dP_challenge_32 (by rw [← hR]; exact ⟨Nat.le_of_ble_eq_true rfl, Nat.le_of_ble_eq_true rfl⟩)) hS (fun H locs hz hM hS => ?_)
  exact bm_lret hQ hx hb hr hlk hM hS ⟨rfl, rfl, hz⟩ (Nat.le_refl _) (Nat.le_refl _) dP_challenge_35
set_option maxHeartbeats 4000000 in
set_option maxRecDepth 100000 in
theorem bc_P_half (l : Launch) (D : va_G) (ct : Nat → ClassId) (base : Nat) (ad : Nat → Nat) (M : bm_Map) (sz : Nat) (a b : Nat) (f : Nat → Int64) (j : Nat) (h0 : M a = some (.inr (4, [.ref b]))) (h1 : M b = some (.inl (ct 1, 16, .inr (.inl f)))) (hj : j < 4) : Met l yP_half (bm_ws yP_half cP_half 2 (some .long)) { frames := 1, cells := 0, slots := 0, locals := 20 } (bm_Pre D ct base ad M sz [.ref a, .int (nI j)]) (bm_Post D base (bm_Is (some (.long (f (4 + 3 * j)))) M sz)) 0 0 (bm_A base) := by
  refine bm_ofB (cc := cP_half) (maxL := 2) (ret := (some .long)) (by decide +kernel) (Nat.le_of_ble_eq_true rfl) ?_
  intro vp ve s vm args below meth vc hx hb hr hlk hts hown hml hnm ls hl hz hM hG R Q hR hQ
  have hown : s.vm.findClass "BlindMint$Payment" = some vm.cls := hown
  have hK := hG.K
  have hS : va_S (bm_A base) s.heap s.heap [] := va_S.rf
  have hl : lv_has ls 2 [(0, .ref a), (1, .int (nI j))] := hl
  refine lv_aload_n hx hb dP_half_0 rfl (lv_at hl 0 rfl) ?_
  refine bm_get (ci := 4) (v := .ref b) (C := "BlindMint$Payment") (T := bt_P) (N := 1) hx hb hts bu_P hown hK hM h0 rfl 0 (by decide) (hts _ bw_490) (fun _ h9 => h9) rfl dP_half_1 ?_
  refine lv_iload_n hx hb dP_half_4 rfl (lv_at hl 1 rfl) ?_
  refine bm_callE (va_runS (As := [.int (nI j)]) (rest := [.ref b]) ⟨hx, hb, hml, hown, hts⟩ (bc_P_firstOfPart l D ct base ad M sz j) (va_cwS 1 hts (bm_goodS bw_185 bw_186 bw_16 bw_187) rfl rfl rfl (by decide +kernel) (by rw [← hR]; exact ⟨Nat.le_of_ble_eq_true rfl, Nat.le_of_ble_eq_true rfl⟩)) (bm_preS hM hG hS hz) rfl rfl hl.1 rfl (lv_room (Nat.le_of_ble_eq_true rfl)) dP_half_5 (by rw [← hR]; exact ⟨Nat.le_of_ble_eq_true rfl, Nat.le_of_ble_eq_true rfl⟩)) hS (fun H locs hz hM hS => ?_)
  refine lv_topi (fun t1 e_t1 => ?_)
  have e_t1 : t1 = nI (4 + 3 * j) := by rw [e_t1]; show nI 4 + nI _ * nI 3 = _; rw [pk_mul, nI_add, Nat.mul_comm]
  subst e_t1
  refine bm_lald hx hb hK hM 1 h1 rfl (4 + 3 * j) (bm_ix_nI (by omega)) (by omega) dP_half_8 ?_
  exact bm_lret hQ hx hb hr hlk hM hS ⟨rfl, rfl, hz⟩ (Nat.le_refl _) (Nat.le_refl _) dP_half_9
set_option maxHeartbeats 4000000 in
set_option maxRecDepth 100000 in
theorem bc_P_readPairHashes (l : Launch) (D : va_G) (ct : Nat → ClassId) (base : Nat) (ad : Nat → Nat) (M : bm_Map) (sz : Nat) (a b : Nat) (f : Nat → Int64) (y : Nat) (h : Nat → Int64) (h0 : M a = some (.inr (4, [.ref b]))) (h1 : M b = some (.inl (ct 1, 16, .inr (.inl f)))) (h2 : M y = some (.inl (ct 1, 4, .inr (.inl h)))) : Met l yP_readPairHashes (bm_ws yP_readPairHashes cP_readPairHashes 10 none) { frames := 2, cells := 0, slots := 0, locals := 48 } (bm_Pre D ct base ad M sz [.ref a, .ref y]) (bm_Post D base (bm_Is none (bm_up M y (.inl (ct 1, 4, .inr (.inl (bm_hs (bm_pf f (bm_h3 (f 2) (f 3) (f 1))) h 4))))) sz)) 0 0 (bm_A base) := by
  refine bm_ofB (cc := cP_readPairHashes) (maxL := 10) (ret := none) (by decide +kernel) (Nat.le_of_ble_eq_true rfl) ?_
  intro vp ve s vm args below meth vc hx hb hr hlk hts hown hml hnm ls hl hz hM hG R Q hR hQ
  have hown : s.vm.findClass "BlindMint$Payment" = some vm.cls := hown
  have hK := hG.K
  have hS : va_S (bm_A base) s.heap s.heap [] := va_S.rf
  have hl : lv_has ls 10 [(0, .ref a), (1, .ref y)] := hl
  refine lv_aload_n hx hb dP_readPairHashes_0 rfl (lv_at hl 0 rfl) ?_
  refine bm_callE (va_runV (As := []) (rest := []) ⟨hx, hb, hml, hown, hts⟩ (bc_P_challenge l D ct base ad M sz a b f h0 h1) (cwV 0 hts (bm_goodV bw_171 bw_172 bw_173 bw_16 bw_174) rfl rfl rfl (by decide +kernel) (by rw [← hR]; exact ⟨Nat.le_of_ble_eq_true rfl, Nat.le_of_ble_eq_true rfl⟩)) (bm_preV hM hG hS hz h0 rfl) rfl rfl hl.1 rfl (lv_room (Nat.le_of_ble_eq_true rfl)) dP_readPairHashes_1 (by rw [← hR]; exact ⟨Nat.le_of_ble_eq_true rfl, Nat.le_of_ble_eq_true rfl⟩)) hS (fun H locs hz hM hS => ?_)
  refine lv_lstore_n hx hb dP_readPairHashes_4 rfl hl (by decide) rfl (fun ls hl => ?_)
  have hl : lv_has ls 10 [(2, .long (bm_h3 (f 2) (f 3) (f 1))), (0, .ref a), (1, .ref y)] := hl
  refine lv_iconst (v := 0) hx hb dP_readPairHashes_5 (by decide) ?_
  refine lv_istore hx hb dP_readPairHashes_6 hl (by decide) rfl (fun ls hl => ?_)
  have hl : lv_has ls 10 [(4, .int 0), (2, .long (bm_h3 (f 2) (f 3) (f 1))), (0, .ref a), (1, .ref y)] := hl
  have hl : lv_has ls 10 [(0, .ref a), (1, .ref y), (2, .long (bm_h3 (f 2) (f 3) (f 1))), (4, .int 0)] := lv_sub hl [2, 3, 1, 0] rfl
  have loop : ∀ (n : Nat) (i : Nat) (ls : Array Slot) (H : Heap) (locs : List Loc) (M1 : bm_Map), i + n = 4 → lv_has ls 10 [(0, .ref a), (1, .ref y), (2, .long (bm_h3 (f 2) (f 3) (f 1))), (4, .int (nI i))] → H.size = sz → bm_M D base M1 H → va_S (bm_A base) s.heap H locs → M1 = bm_up M y (.inl (ct 1, 4, .inr (.inl (bm_hs (bm_pf f (bm_h3 (f 2) (f 3) (f 1))) h i)))) → W vp l ve R s vm args below meth vc H locs 0 0 Q (F0 vm 8 ls []) := by
    intro n
    induction n with
    | zero =>
      intro i ls H locs M1 hi hl hz hM hS eX
      have h0 : M1 a = some (.inr (4, [.ref b])) := by rw [eX, bm_up_ne (bm_ne_ao h2 h0)]; exact h0
      have h1 : M1 b = some (.inl (ct 1, 16, .inr (.inl f))) := by rw [eX, bm_up_ne (bm_ne_aa h2 h1 (by decide))]; exact h1
      have h2 : M1 y = some (.inl (ct 1, 4, .inr (.inl (bm_hs (bm_pf f (bm_h3 (f 2) (f 3) (f 1))) h i)))) := by rw [eX]; exact bm_up_self _ _ _
      obtain rfl : i = 4 := by omega
      have hl : lv_has ls 10 [(0, .ref a), (1, .ref y), (2, .long (bm_h3 (f 2) (f 3) (f 1))), (4, .int 4)] := hl
      have h2 : M1 y = some (.inl (ct 1, 4, .inr (.inl (bm_hs (bm_pf f (bm_h3 (f 2) (f 3) (f 1))) h 4)))) := h2
      refine lv_iload hx hb dP_readPairHashes_8 (lv_at hl 3 rfl) ?_
      refine lv_iconst (v := 4) hx hb dP_readPairHashes_10 (by decide) ?_
      refine lv_icmp_ge (tgt := 89) hx hb dP_readPairHashes_11 rfl (fun _ => ?_) (fun h => absurd h (by decide))
      exact bm_vret hQ hx hb hr hlk hM hS ⟨rfl, eX, hz⟩ (Nat.le_refl _) (Nat.le_refl _) dP_readPairHashes_89
    | succ n ih =>
      intro i ls H locs M1 hi hl hz hM hS eX
      have h0 : M1 a = some (.inr (4, [.ref b])) := by rw [eX, bm_up_ne (bm_ne_ao h2 h0)]; exact h0
      have h1 : M1 b = some (.inl (ct 1, 16, .inr (.inl f))) := by rw [eX, bm_up_ne (bm_ne_aa h2 h1 (by decide))]; exact h1
      have h2 : M1 y = some (.inl (ct 1, 4, .inr (.inl (bm_hs (bm_pf f (bm_h3 (f 2) (f 3) (f 1))) h i)))) := by rw [eX]; exact bm_up_self _ _ _
      refine lv_iload hx hb dP_readPairHashes_8 (lv_at hl 3 rfl) ?_
      refine lv_iconst (v := 4) hx hb dP_readPairHashes_10 (by decide) ?_
      refine lv_icmp_ge (tgt := 89) hx hb dP_readPairHashes_11 rfl (fun h11 => absurd h11 (nI_ge (b := 4) (by omega) (by decide))) (fun h11 => ?_)
      refine lv_iload hx hb dP_readPairHashes_14 (lv_at hl 3 rfl) ?_
      refine bm_callE (va_runS (As := [.int (nI i)]) (rest := []) ⟨hx, hb, hml, hown, hts⟩ (bc_P_firstOfPart l D ct base ad M1 sz i) (va_cwS 1 hts (bm_goodS bw_185 bw_186 bw_16 bw_187) rfl rfl rfl (by decide +kernel) (by rw [← hR]; exact ⟨Nat.le_of_ble_eq_true rfl, Nat.le_of_ble_eq_true rfl⟩)) (bm_preS hM hG hS hz) rfl rfl hl.1 rfl (lv_room (Nat.le_of_ble_eq_true rfl)) dP_readPairHashes_16 (by rw [← hR]; exact ⟨Nat.le_of_ble_eq_true rfl, Nat.le_of_ble_eq_true rfl⟩)) hS (fun H locs hz hM hS => ?_)
      refine lv_topi (fun t2 e_t2 => ?_)
      have e_t2 : t2 = nI (4 + 3 * i) := by rw [e_t2]; show nI 4 + nI _ * nI 3 = _; rw [pk_mul, nI_add, Nat.mul_comm]
      subst e_t2
      refine lv_istore hx hb dP_readPairHashes_19 hl (by decide) rfl (fun ls hl => ?_)
      have hl : lv_has ls 10 [(5, .int (nI (4 + 3 * i))), (0, .ref a), (1, .ref y), (2, .long (bm_h3 (f 2) (f 3) (f 1))), (4, .int (nI i))] := hl
      refine lv_aload_n hx hb dP_readPairHashes_21 rfl (lv_at hl 1 rfl) ?_
      refine bm_get (ci := 4) (v := .ref b) (C := "BlindMint$Payment") (T := bt_P) (N := 1) hx hb hts bu_P hown hK hM h0 rfl 0 (by decide) (hts _ bw_490) (fun _ h9 => h9) rfl dP_readPairHashes_22 ?_
      refine lv_iload hx hb dP_readPairHashes_25 (lv_at hl 0 rfl) ?_
      refine bm_lald hx hb hK hM 1 h1 rfl (4 + 3 * i) (bm_ix_nI (by omega)) (by omega) dP_readPairHashes_27 ?_
      refine lv_aload_n hx hb dP_readPairHashes_28 rfl (lv_at hl 1 rfl) ?_
      refine bm_get (ci := 4) (v := .ref b) (C := "BlindMint$Payment") (T := bt_P) (N := 1) hx hb hts bu_P hown hK hM h0 rfl 0 (by decide) (hts _ bw_490) (fun _ h9 => h9) rfl dP_readPairHashes_29 ?_
      refine lv_iload hx hb dP_readPairHashes_32 (lv_at hl 0 rfl) ?_
      refine lv_iconst (v := 1) hx hb dP_readPairHashes_34 (by decide) ?_
      refine lv_iadd hx hb dP_readPairHashes_35 ?_
      refine lv_topi (fun t3 e_t3 => ?_)
      have e_t3 : t3 = nI (4 + 3 * i + 1) := by rw [e_t3]; exact nI_add _ 1
      subst e_t3
      refine bm_lald hx hb hK hM 1 h1 rfl (4 + 3 * i + 1) (bm_ix_nI (by omega)) (by omega) dP_readPairHashes_36 ?_
      refine bm_callE (va_runS (As := [.long (f (4 + 3 * i)), .long (f (4 + 3 * i + 1))]) (rest := []) ⟨hx, hb, hml, hown, hts⟩ (bc_H_of l D ct base ad M1 sz (f (4 + 3 * i)) (f (4 + 3 * i + 1))) (va_cwS 2 hts (bm_goodS bw_188 bw_189 bw_11 bw_190) rfl rfl rfl (by decide +kernel) (by rw [← hR]; exact ⟨Nat.le_of_ble_eq_true rfl, Nat.le_of_ble_eq_true rfl⟩)) (bm_preS hM hG hS hz) rfl rfl hl.1 rfl (lv_room (Nat.le_of_ble_eq_true rfl)) dP_readPairHashes_37 (by rw [← hR]; exact ⟨Nat.le_of_ble_eq_true rfl, Nat.le_of_ble_eq_true rfl⟩)) hS (fun H locs hz hM hS => ?_)
      refine lv_lstore hx hb dP_readPairHashes_40 hl (by decide) rfl (fun ls hl => ?_)
      have hl : lv_has ls 10 [(6, .long (bm_h2 (f (4 + 3 * i)) (f (4 + 3 * i + 1)))), (5, .int (nI (4 + 3 * i))), (0, .ref a), (1, .ref y), (2, .long (bm_h3 (f 2) (f 3) (f 1))), (4, .int (nI i))] := hl
      refine lv_aload_n hx hb dP_readPairHashes_42 rfl (lv_at hl 2 rfl) ?_
      refine bm_get (ci := 4) (v := .ref b) (C := "BlindMint$Payment") (T := bt_P) (N := 1) hx hb hts bu_P hown hK hM h0 rfl 0 (by decide) (hts _ bw_490) (fun _ h9 => h9) rfl dP_readPairHashes_43 ?_
      refine lv_iload hx hb dP_readPairHashes_46 (lv_at hl 1 rfl) ?_
      refine lv_iconst (v := 2) hx hb dP_readPairHashes_48 (by decide) ?_
      refine lv_iadd hx hb dP_readPairHashes_49 ?_
      refine lv_topi (fun t4 e_t4 => ?_)
      have e_t4 : t4 = nI (4 + 3 * i + 2) := by rw [e_t4]; exact nI_add _ 2
      subst e_t4
      refine bm_lald hx hb hK hM 1 h1 rfl (4 + 3 * i + 2) (bm_ix_nI (by omega)) (by omega) dP_readPairHashes_50 ?_
      refine lv_lstore hx hb dP_readPairHashes_51 hl (by decide) rfl (fun ls hl => ?_)
      have hl : lv_has ls 10 [(8, .long (f (4 + 3 * i + 2))), (6, .long (bm_h2 (f (4 + 3 * i)) (f (4 + 3 * i + 1)))), (5, .int (nI (4 + 3 * i))), (0, .ref a), (1, .ref y), (2, .long (bm_h3 (f 2) (f 3) (f 1))), (4, .int (nI i))] := hl
      refine lv_aload_n hx hb dP_readPairHashes_53 rfl (lv_at hl 4 rfl) ?_
      refine lv_iload hx hb dP_readPairHashes_54 (lv_at hl 6 rfl) ?_
      refine lv_lload_n hx hb dP_readPairHashes_56 rfl (lv_at hl 5 rfl) ?_
      refine lv_iload hx hb dP_readPairHashes_57 (lv_at hl 6 rfl) ?_
      refine bm_callE (va_runSN (As := [.long (bm_h3 (f 2) (f 3) (f 1)), .int (nI i)]) (rest := [.int (nI i), .ref y]) ⟨hx, hb, hml, hown, hts⟩ (bc_B_isOne l D ct base ad M1 sz (bm_h3 (f 2) (f 3) (f 1)) (nI i)) ⟨va_cnB 2 hts (bm_goodW bw_196) rfl rfl rfl (hG.2.2.1.w194) (hts _ bw_1) (by decide +kernel) (by rw [← hR]; exact ⟨Nat.le_of_ble_eq_true rfl, Nat.le_of_ble_eq_true rfl⟩), hts _ bw_195, trivial⟩ (bm_preS hM hG hS hz) rfl rfl hl.1 rfl (lv_room (Nat.le_of_ble_eq_true rfl)) dP_readPairHashes_59 (by rw [← hR]; exact ⟨Nat.le_of_ble_eq_true rfl, Nat.le_of_ble_eq_true rfl⟩)) hS (fun H locs hz hM hS => ?_)
      refine lv_if_eq (tgt := 75) hx hb dP_readPairHashes_62 rfl (fun h62 => ?_) (fun h62 => ?_)
      · refine lv_lload hx hb dP_readPairHashes_75 (lv_at hl 0 rfl) ?_
        refine lv_lload hx hb dP_readPairHashes_77 (lv_at hl 1 rfl) ?_
        refine bm_callE (va_runS (As := [.long (f (4 + 3 * i + 2)), .long (bm_h2 (f (4 + 3 * i)) (f (4 + 3 * i + 1)))]) (rest := [.int (nI i), .ref y]) ⟨hx, hb, hml, hown, hts⟩ (bc_H_of l D ct base ad M1 sz (f (4 + 3 * i + 2)) (bm_h2 (f (4 + 3 * i)) (f (4 + 3 * i + 1)))) (va_cwS 2 hts (bm_goodS bw_188 bw_189 bw_11 bw_190) rfl rfl rfl (by decide +kernel) (by rw [← hR]; exact ⟨Nat.le_of_ble_eq_true rfl, Nat.le_of_ble_eq_true rfl⟩)) (bm_preS hM hG hS hz) rfl rfl hl.1 rfl (lv_room (Nat.le_of_ble_eq_true rfl)) dP_readPairHashes_79 (by rw [← hR]; exact ⟨Nat.le_of_ble_eq_true rfl, Nat.le_of_ble_eq_true rfl⟩)) hS (fun H locs hz hM hS => ?_)
        refine lv_topl (fun t5 e_t5 => ?_)
        have e_t5 : t5 = bm_pf f (bm_h3 (f 2) (f 3) (f 1)) i := by rw [e_t5]; exact bm_pf_n (bm_one_z h62)
        subst e_t5
        refine bm_last hx hb hK hM hS 1 h2 rfl i (bm_ix_nI (by omega)) (by omega) dP_readPairHashes_82 (fun H locs hz1 hM hS => ?_)
        replace hz := hz1.trans hz
        replace hM : bm_M D base (bm_up M1 y (.inl (ct 1, 4, .inr (.inl (vp_updL (bm_hs (bm_pf f (bm_h3 (f 2) (f 3) (f 1))) h i) i (bm_pf f (bm_h3 (f 2) (f 3) (f 1)) i)))))) H := hM
        obtain ⟨M6, eM6⟩ : ∃ X, X = bm_up M1 y (.inl (ct 1, 4, .inr (.inl (vp_updL (bm_hs (bm_pf f (bm_h3 (f 2) (f 3) (f 1))) h i) i (bm_pf f (bm_h3 (f 2) (f 3) (f 1)) i))))) := ⟨_, rfl⟩
        rw [← eM6] at hM
        replace h0 : M6 a = some (.inr (4, [.ref b])) := by rw [eM6, bm_up_ne (bm_ne_ao h2 h0)]; exact h0
        replace h1 : M6 b = some (.inl (ct 1, 16, .inr (.inl f))) := by rw [eM6, bm_up_ne (bm_ne_aa h2 h1 (by decide))]; exact h1
        replace h2 : M6 y = some (.inl (ct 1, 4, .inr (.inl (vp_updL (bm_hs (bm_pf f (bm_h3 (f 2) (f 3) (f 1))) h i) i (bm_pf f (bm_h3 (f 2) (f 3) (f 1)) i))))) := by rw [eM6]; exact bm_up_self _ _ _
        refine lv_iinc (v := nI (i + 1)) (k := 6) hx hb dP_readPairHashes_83 hl rfl (bm_inc i) (by decide) rfl (fun ls hl => ?_)
        have hl : lv_has ls 10 [(4, .int (nI (i + 1))), (8, .long (f (4 + 3 * i + 2))), (6, .long (bm_h2 (f (4 + 3 * i)) (f (4 + 3 * i + 1)))), (5, .int (nI (4 + 3 * i))), (0, .ref a), (1, .ref y), (2, .long (bm_h3 (f 2) (f 3) (f 1)))] := hl
        refine lv_goto (tgt := 8) hx hb dP_readPairHashes_86 rfl ?_
        have hl : lv_has ls 10 [(0, .ref a), (1, .ref y), (2, .long (bm_h3 (f 2) (f 3) (f 1))), (4, .int (nI (i + 1)))] := lv_sub hl [4, 5, 6, 0] rfl
        exact ih (i + 1) ls _ _ _ (by omega) hl hz hM hS (by rw [eM6, eX]; simp only [bm_up_up]; first | done | rfl)
      · refine lv_lload hx hb dP_readPairHashes_65 (lv_at hl 1 rfl) ?_
        refine lv_lload hx hb dP_readPairHashes_67 (lv_at hl 0 rfl) ?_
        refine bm_callE (va_runS (As := [.long (bm_h2 (f (4 + 3 * i)) (f (4 + 3 * i + 1))), .long (f (4 + 3 * i + 2))]) (rest := [.int (nI i), .ref y]) ⟨hx, hb, hml, hown, hts⟩ (bc_H_of l D ct base ad M1 sz (bm_h2 (f (4 + 3 * i)) (f (4 + 3 * i + 1))) (f (4 + 3 * i + 2))) (va_cwS 2 hts (bm_goodS bw_188 bw_189 bw_11 bw_190) rfl rfl rfl (by decide +kernel) (by rw [← hR]; exact ⟨Nat.le_of_ble_eq_true rfl, Nat.le_of_ble_eq_true rfl⟩)) (bm_preS hM hG hS hz) rfl rfl hl.1 rfl (lv_room (Nat.le_of_ble_eq_true rfl)) dP_readPairHashes_69 (by rw [← hR]; exact ⟨Nat.le_of_ble_eq_true rfl, Nat.le_of_ble_eq_true rfl⟩)) hS (fun H locs hz hM hS => ?_)
        refine lv_goto (tgt := 82) hx hb dP_readPairHashes_72 rfl ?_
        refine lv_topl (fun t7 e_t7 => ?_)
        have e_t7 : t7 = bm_pf f (bm_h3 (f 2) (f 3) (f 1)) i := by rw [e_t7]; exact bm_pf_y (bm_one_nz h62)
        subst e_t7
        refine bm_last hx hb hK hM hS 1 h2 rfl i (bm_ix_nI (by omega)) (by omega) dP_readPairHashes_82 (fun H locs hz1 hM hS => ?_)
        replace hz := hz1.trans hz
        replace hM : bm_M D base (bm_up M1 y (.inl (ct 1, 4, .inr (.inl (vp_updL (bm_hs (bm_pf f (bm_h3 (f 2) (f 3) (f 1))) h i) i (bm_pf f (bm_h3 (f 2) (f 3) (f 1)) i)))))) H := hM
        obtain ⟨M8, eM8⟩ : ∃ X, X = bm_up M1 y (.inl (ct 1, 4, .inr (.inl (vp_updL (bm_hs (bm_pf f (bm_h3 (f 2) (f 3) (f 1))) h i) i (bm_pf f (bm_h3 (f 2) (f 3) (f 1)) i))))) := ⟨_, rfl⟩
        rw [← eM8] at hM
        replace h0 : M8 a = some (.inr (4, [.ref b])) := by rw [eM8, bm_up_ne (bm_ne_ao h2 h0)]; exact h0
        replace h1 : M8 b = some (.inl (ct 1, 16, .inr (.inl f))) := by rw [eM8, bm_up_ne (bm_ne_aa h2 h1 (by decide))]; exact h1
        replace h2 : M8 y = some (.inl (ct 1, 4, .inr (.inl (vp_updL (bm_hs (bm_pf f (bm_h3 (f 2) (f 3) (f 1))) h i) i (bm_pf f (bm_h3 (f 2) (f 3) (f 1)) i))))) := by rw [eM8]; exact bm_up_self _ _ _
        refine lv_iinc (v := nI (i + 1)) (k := 6) hx hb dP_readPairHashes_83 hl rfl (bm_inc i) (by decide) rfl (fun ls hl => ?_)
        have hl : lv_has ls 10 [(4, .int (nI (i + 1))), (8, .long (f (4 + 3 * i + 2))), (6, .long (bm_h2 (f (4 + 3 * i)) (f (4 + 3 * i + 1)))), (5, .int (nI (4 + 3 * i))), (0, .ref a), (1, .ref y), (2, .long (bm_h3 (f 2) (f 3) (f 1)))] := hl
        refine lv_goto (tgt := 8) hx hb dP_readPairHashes_86 rfl ?_
        have hl : lv_has ls 10 [(0, .ref a), (1, .ref y), (2, .long (bm_h3 (f 2) (f 3) (f 1))), (4, .int (nI (i + 1)))] := lv_sub hl [4, 5, 6, 0] rfl
        exact ih (i + 1) ls _ _ _ (by omega) hl hz hM hS (by rw [eM8, eX]; simp only [bm_up_up]; first | done | rfl)
  exact loop 4 0 ls _ _ _ rfl hl hz hM hS (bm_up_same h2)
set_option maxHeartbeats 4000000 in
set_option maxRecDepth 100000 in
theorem bc_R_isOf (l : Launch) (D : va_G) (ct : Nat → ClassId) (base : Nat) (ad : Nat → Nat) (M : bm_Map) (sz : Nat) (a b c y : Nat) (d0 ch0 d : Int64) (h h3 : Nat → Int64) (bv : Value) (h0 : M a = some (.inr (3, [.long d0, .ref b, .long ch0, .ref c, bv]))) (h1 : M b = some (.inl (ct 1, 4, .inr (.inl h)))) (h2 : M y = some (.inl (ct 1, 4, .inr (.inl h3)))) : Met l yR_isOf (bm_ws yR_isOf cR_isOf 6 (some .boolean)) { frames := 0, cells := 0, slots := 0, locals := 0 } (bm_Pre D ct base ad M sz [.ref a, .long d, .ref y]) (bm_Post D base (bm_Is (some (.int (bm_ie d0 d h h3 4))) M sz)) 0 0 (bm_A base) := by
  refine bm_ofB (cc := cR_isOf) (maxL := 6) (ret := (some .boolean)) (by decide +kernel) (Nat.le_of_ble_eq_true rfl) ?_
  intro vp ve s vm args below meth vc hx hb hr hlk hts hown hml hnm ls hl hz hM hG R Q hR hQ
  have hown : s.vm.findClass "BlindMint$Credit" = some vm.cls := hown
  have hK := hG.K
  have hS : va_S (bm_A base) s.heap s.heap [] := va_S.rf
  have hl : lv_has ls 6 [(0, .ref a), (1, .long d), (3, .ref y)] := hl
  refine lv_aload_n hx hb dR_isOf_0 rfl (lv_at hl 0 rfl) ?_
  refine bm_get (ci := 3) (v := .long d0) (C := "BlindMint$Credit") (T := bt_R) (N := 5) hx hb hts bu_R hown hK hM h0 rfl 0 (by decide) (hts _ bw_557) (fun _ h9 => h9) rfl dR_isOf_1 ?_
  refine lv_lload_n hx hb dR_isOf_4 rfl (lv_at hl 1 rfl) ?_
  refine W.lcmp hx hb dR_isOf_5 ?_
  refine lv_if_ne (tgt := 13) hx hb dR_isOf_6 rfl (fun h6 => ?_) (fun h6 => ?_)
  · refine lv_iconst (v := 0) hx hb dR_isOf_13 (by decide) ?_
    refine lv_istore hx hb dR_isOf_14 hl (by decide) rfl (fun ls hl => ?_)
    have hl : lv_has ls 6 [(4, .int 0), (0, .ref a), (1, .long d), (3, .ref y)] := hl
    have hl : lv_has ls 6 [(4, .int (bm_ie d0 d h h3 0)), (0, .ref a), (1, .long d), (3, .ref y)] := by rw [show bm_ie d0 d h h3 0 = _ from bm_ie_b (fun q => h6 ((lg_cmp_eq _ _).mpr q))]; exact hl
    refine lv_iconst (v := 0) hx hb dR_isOf_16 (by decide) ?_
    refine lv_istore hx hb dR_isOf_17 hl (by decide) rfl (fun ls hl => ?_)
    have hl : lv_has ls 6 [(5, .int 0), (4, .int (bm_ie d0 d h h3 0)), (0, .ref a), (1, .long d), (3, .ref y)] := hl
    have hl : lv_has ls 6 [(0, .ref a), (1, .long d), (3, .ref y), (4, .int (bm_ie d0 d h h3 0)), (5, .int 0)] := lv_sub hl [2, 3, 4, 1, 0] rfl
    have loop : ∀ (n : Nat) (i : Nat) (ls : Array Slot) (H : Heap) (locs : List Loc), i + n = 4 → lv_has ls 6 [(0, .ref a), (1, .long d), (3, .ref y), (4, .int (bm_ie d0 d h h3 i)), (5, .int (nI i))] → H.size = sz → bm_M D base M H → va_S (bm_A base) s.heap H locs → W vp l ve R s vm args below meth vc H locs 0 0 Q (F0 vm 19 ls []) := by
      intro n
      induction n with
      | zero =>
        intro i ls H locs hi hl hz hM hS
        obtain rfl : i = 4 := by omega
        have hl : lv_has ls 6 [(0, .ref a), (1, .long d), (3, .ref y), (4, .int (bm_ie d0 d h h3 4)), (5, .int 4)] := hl
        refine lv_iload hx hb dR_isOf_19 (lv_at hl 4 rfl) ?_
        refine lv_iconst (v := 4) hx hb dR_isOf_21 (by decide) ?_
        refine lv_icmp_ge (tgt := 58) hx hb dR_isOf_22 rfl (fun _ => ?_) (fun h => absurd h (by decide))
        refine lv_iload hx hb dR_isOf_58 (lv_at hl 3 rfl) ?_
        exact bm_zret hQ hx hb hr hlk (bm_z01 (bm_ie_01 4)) hM hS ⟨rfl, rfl, hz⟩ (Nat.le_refl _) (Nat.le_refl _) dR_isOf_60
      | succ n ih =>
        intro i ls H locs hi hl hz hM hS
        refine lv_iload hx hb dR_isOf_19 (lv_at hl 4 rfl) ?_
        refine lv_iconst (v := 4) hx hb dR_isOf_21 (by decide) ?_
        refine lv_icmp_ge (tgt := 58) hx hb dR_isOf_22 rfl (fun h22 => absurd h22 (nI_ge (b := 4) (by omega) (by decide))) (fun h22 => ?_)
        refine lv_iload hx hb dR_isOf_25 (lv_at hl 3 rfl) ?_
        refine lv_if_eq (tgt := 49) hx hb dR_isOf_27 rfl (fun h27 => ?_) (fun h27 => ?_)
        · refine lv_iconst (v := 0) hx hb dR_isOf_49 (by decide) ?_
          refine lv_istore hx hb dR_isOf_50 hl (by decide) rfl (fun ls hl => ?_)
          have hl : lv_has ls 6 [(4, .int 0), (0, .ref a), (1, .long d), (3, .ref y), (5, .int (nI i))] := hl
          have hl : lv_has ls 6 [(4, .int (bm_ie d0 d h h3 (i + 1))), (0, .ref a), (1, .long d), (3, .ref y), (5, .int (nI i))] := by rw [show bm_ie d0 d h h3 (i + 1) = _ from bm_ie_0 h27]; exact hl
          refine lv_iinc (v := nI (i + 1)) (k := 4) hx hb dR_isOf_52 hl rfl (bm_inc i) (by decide) rfl (fun ls hl => ?_)
          have hl : lv_has ls 6 [(5, .int (nI (i + 1))), (4, .int (bm_ie d0 d h h3 (i + 1))), (0, .ref a), (1, .long d), (3, .ref y)] := hl
          refine lv_goto (tgt := 19) hx hb dR_isOf_55 rfl ?_
          have hl : lv_has ls 6 [(0, .ref a), (1, .long d), (3, .ref y), (4, .int (bm_ie d0 d h h3 (i + 1))), (5, .int (nI (i + 1)))] := lv_sub hl [2, 3, 4, 1, 0] rfl
          exact ih (i + 1) ls _ _ (by omega) hl hz hM hS
        · refine lv_aload_n hx hb dR_isOf_30 rfl (lv_at hl 0 rfl) ?_
          refine bm_get (ci := 3) (v := .ref b) (C := "BlindMint$Credit") (T := bt_R) (N := 5) hx hb hts bu_R hown hK hM h0 rfl 1 (by decide) (hts _ bw_558) (fun _ h9 => h9) rfl dR_isOf_31 ?_
          refine lv_iload hx hb dR_isOf_34 (lv_at hl 4 rfl) ?_
          refine bm_lald hx hb hK hM 1 h1 rfl i (bm_ix_nI (by omega)) (by omega) dR_isOf_36 ?_
          refine lv_aload_n hx hb dR_isOf_37 rfl (lv_at hl 2 rfl) ?_
          refine lv_iload hx hb dR_isOf_38 (lv_at hl 4 rfl) ?_
          refine bm_lald hx hb hK hM 1 h2 rfl i (bm_ix_nI (by omega)) (by omega) dR_isOf_40 ?_
          refine W.lcmp hx hb dR_isOf_41 ?_
          refine lv_if_ne (tgt := 49) hx hb dR_isOf_42 rfl (fun h42 => ?_) (fun h42 => ?_)
          · refine lv_iconst (v := 0) hx hb dR_isOf_49 (by decide) ?_
            refine lv_istore hx hb dR_isOf_50 hl (by decide) rfl (fun ls hl => ?_)
            have hl : lv_has ls 6 [(4, .int 0), (0, .ref a), (1, .long d), (3, .ref y), (5, .int (nI i))] := hl
            have hl : lv_has ls 6 [(4, .int (bm_ie d0 d h h3 (i + 1))), (0, .ref a), (1, .long d), (3, .ref y), (5, .int (nI i))] := by rw [show bm_ie d0 d h h3 (i + 1) = _ from bm_ie_n (fun q => h42 ((lg_cmp_eq _ _).mpr q))]; exact hl
            refine lv_iinc (v := nI (i + 1)) (k := 4) hx hb dR_isOf_52 hl rfl (bm_inc i) (by decide) rfl (fun ls hl => ?_)
            have hl : lv_has ls 6 [(5, .int (nI (i + 1))), (4, .int (bm_ie d0 d h h3 (i + 1))), (0, .ref a), (1, .long d), (3, .ref y)] := hl
            refine lv_goto (tgt := 19) hx hb dR_isOf_55 rfl ?_
            have hl : lv_has ls 6 [(0, .ref a), (1, .long d), (3, .ref y), (4, .int (bm_ie d0 d h h3 (i + 1))), (5, .int (nI (i + 1)))] := lv_sub hl [2, 3, 4, 1, 0] rfl
            exact ih (i + 1) ls _ _ (by omega) hl hz hM hS
          · refine lv_iconst (v := 1) hx hb dR_isOf_45 (by decide) ?_
            refine lv_goto (tgt := 50) hx hb dR_isOf_46 rfl ?_
            refine lv_istore hx hb dR_isOf_50 hl (by decide) rfl (fun ls hl => ?_)
            have hl : lv_has ls 6 [(4, .int 1), (0, .ref a), (1, .long d), (3, .ref y), (5, .int (nI i))] := hl
            have hl : lv_has ls 6 [(4, .int (bm_ie d0 d h h3 (i + 1))), (0, .ref a), (1, .long d), (3, .ref y), (5, .int (nI i))] := by rw [show bm_ie d0 d h h3 (i + 1) = _ from bm_ie_y h27 ((lg_cmp_eq _ _).mp h42)]; exact hl
            refine lv_iinc (v := nI (i + 1)) (k := 4) hx hb dR_isOf_52 hl rfl (bm_inc i) (by decide) rfl (fun ls hl => ?_)
            have hl : lv_has ls 6 [(5, .int (nI (i + 1))), (4, .int (bm_ie d0 d h h3 (i + 1))), (0, .ref a), (1, .long d), (3, .ref y)] := hl
            refine lv_goto (tgt := 19) hx hb dR_isOf_55 rfl ?_
            have hl : lv_has ls 6 [(0, .ref a), (1, .long d), (3, .ref y), (4, .int (bm_ie d0 d h h3 (i + 1))), (5, .int (nI (i + 1)))] := lv_sub hl [2, 3, 4, 1, 0] rfl
            exact ih (i + 1) ls _ _ (by omega) hl hz hM hS
    exact loop 4 0 ls _ _ rfl hl hz hM hS
  · refine lv_iconst (v := 1) hx hb dR_isOf_9 (by decide) ?_
    refine lv_goto (tgt := 14) hx hb dR_isOf_10 rfl ?_
    refine lv_istore hx hb dR_isOf_14 hl (by decide) rfl (fun ls hl => ?_)
    have hl : lv_has ls 6 [(4, .int 1), (0, .ref a), (1, .long d), (3, .ref y)] := hl
    have hl : lv_has ls 6 [(4, .int (bm_ie d0 d h h3 0)), (0, .ref a), (1, .long d), (3, .ref y)] := by rw [show bm_ie d0 d h h3 0 = _ from bm_ie_a ((lg_cmp_eq _ _).mp h6)]; exact hl
    refine lv_iconst (v := 0) hx hb dR_isOf_16 (by decide) ?_
    refine lv_istore hx hb dR_isOf_17 hl (by decide) rfl (fun ls hl => ?_)
    have hl : lv_has ls 6 [(5, .int 0), (4, .int (bm_ie d0 d h h3 0)), (0, .ref a), (1, .long d), (3, .ref y)] := hl
    have hl : lv_has ls 6 [(0, .ref a), (1, .long d), (3, .ref y), (4, .int (bm_ie d0 d h h3 0)), (5, .int 0)] := lv_sub hl [2, 3, 4, 1, 0] rfl
    have loop : ∀ (n : Nat) (i : Nat) (ls : Array Slot) (H : Heap) (locs : List Loc), i + n = 4 → lv_has ls 6 [(0, .ref a), (1, .long d), (3, .ref y), (4, .int (bm_ie d0 d h h3 i)), (5, .int (nI i))] → H.size = sz → bm_M D base M H → va_S (bm_A base) s.heap H locs → W vp l ve R s vm args below meth vc H locs 0 0 Q (F0 vm 19 ls []) := by
      intro n
      induction n with
      | zero =>
        intro i ls H locs hi hl hz hM hS
        obtain rfl : i = 4 := by omega
        have hl : lv_has ls 6 [(0, .ref a), (1, .long d), (3, .ref y), (4, .int (bm_ie d0 d h h3 4)), (5, .int 4)] := hl
        refine lv_iload hx hb dR_isOf_19 (lv_at hl 4 rfl) ?_
        refine lv_iconst (v := 4) hx hb dR_isOf_21 (by decide) ?_
        refine lv_icmp_ge (tgt := 58) hx hb dR_isOf_22 rfl (fun _ => ?_) (fun h => absurd h (by decide))
        refine lv_iload hx hb dR_isOf_58 (lv_at hl 3 rfl) ?_
        exact bm_zret hQ hx hb hr hlk (bm_z01 (bm_ie_01 4)) hM hS ⟨rfl, rfl, hz⟩ (Nat.le_refl _) (Nat.le_refl _) dR_isOf_60
      | succ n ih =>
        intro i ls H locs hi hl hz hM hS
        refine lv_iload hx hb dR_isOf_19 (lv_at hl 4 rfl) ?_
        refine lv_iconst (v := 4) hx hb dR_isOf_21 (by decide) ?_
        refine lv_icmp_ge (tgt := 58) hx hb dR_isOf_22 rfl (fun h22 => absurd h22 (nI_ge (b := 4) (by omega) (by decide))) (fun h22 => ?_)
        refine lv_iload hx hb dR_isOf_25 (lv_at hl 3 rfl) ?_
        refine lv_if_eq (tgt := 49) hx hb dR_isOf_27 rfl (fun h27 => ?_) (fun h27 => ?_)
        · refine lv_iconst (v := 0) hx hb dR_isOf_49 (by decide) ?_
          refine lv_istore hx hb dR_isOf_50 hl (by decide) rfl (fun ls hl => ?_)
          have hl : lv_has ls 6 [(4, .int 0), (0, .ref a), (1, .long d), (3, .ref y), (5, .int (nI i))] := hl
          have hl : lv_has ls 6 [(4, .int (bm_ie d0 d h h3 (i + 1))), (0, .ref a), (1, .long d), (3, .ref y), (5, .int (nI i))] := by rw [show bm_ie d0 d h h3 (i + 1) = _ from bm_ie_0 h27]; exact hl
          refine lv_iinc (v := nI (i + 1)) (k := 4) hx hb dR_isOf_52 hl rfl (bm_inc i) (by decide) rfl (fun ls hl => ?_)
          have hl : lv_has ls 6 [(5, .int (nI (i + 1))), (4, .int (bm_ie d0 d h h3 (i + 1))), (0, .ref a), (1, .long d), (3, .ref y)] := hl
          refine lv_goto (tgt := 19) hx hb dR_isOf_55 rfl ?_
          have hl : lv_has ls 6 [(0, .ref a), (1, .long d), (3, .ref y), (4, .int (bm_ie d0 d h h3 (i + 1))), (5, .int (nI (i + 1)))] := lv_sub hl [2, 3, 4, 1, 0] rfl
          exact ih (i + 1) ls _ _ (by omega) hl hz hM hS
        · refine lv_aload_n hx hb dR_isOf_30 rfl (lv_at hl 0 rfl) ?_
          refine bm_get (ci := 3) (v := .ref b) (C := "BlindMint$Credit") (T := bt_R) (N := 5) hx hb hts bu_R hown hK hM h0 rfl 1 (by decide) (hts _ bw_558) (fun _ h9 => h9) rfl dR_isOf_31 ?_
          refine lv_iload hx hb dR_isOf_34 (lv_at hl 4 rfl) ?_
          refine bm_lald hx hb hK hM 1 h1 rfl i (bm_ix_nI (by omega)) (by omega) dR_isOf_36 ?_
          refine lv_aload_n hx hb dR_isOf_37 rfl (lv_at hl 2 rfl) ?_
          refine lv_iload hx hb dR_isOf_38 (lv_at hl 4 rfl) ?_
          refine bm_lald hx hb hK hM 1 h2 rfl i (bm_ix_nI (by omega)) (by omega) dR_isOf_40 ?_
          refine W.lcmp hx hb dR_isOf_41 ?_
          refine lv_if_ne (tgt := 49) hx hb dR_isOf_42 rfl (fun h42 => ?_) (fun h42 => ?_)
          · refine lv_iconst (v := 0) hx hb dR_isOf_49 (by decide) ?_
            refine lv_istore hx hb dR_isOf_50 hl (by decide) rfl (fun ls hl => ?_)
            have hl : lv_has ls 6 [(4, .int 0), (0, .ref a), (1, .long d), (3, .ref y), (5, .int (nI i))] := hl
            have hl : lv_has ls 6 [(4, .int (bm_ie d0 d h h3 (i + 1))), (0, .ref a), (1, .long d), (3, .ref y), (5, .int (nI i))] := by rw [show bm_ie d0 d h h3 (i + 1) = _ from bm_ie_n (fun q => h42 ((lg_cmp_eq _ _).mpr q))]; exact hl
            refine lv_iinc (v := nI (i + 1)) (k := 4) hx hb dR_isOf_52 hl rfl (bm_inc i) (by decide) rfl (fun ls hl => ?_)
            have hl : lv_has ls 6 [(5, .int (nI (i + 1))), (4, .int (bm_ie d0 d h h3 (i + 1))), (0, .ref a), (1, .long d), (3, .ref y)] := hl
            refine lv_goto (tgt := 19) hx hb dR_isOf_55 rfl ?_
            have hl : lv_has ls 6 [(0, .ref a), (1, .long d), (3, .ref y), (4, .int (bm_ie d0 d h h3 (i + 1))), (5, .int (nI (i + 1)))] := lv_sub hl [2, 3, 4, 1, 0] rfl
            exact ih (i + 1) ls _ _ (by omega) hl hz hM hS
          · refine lv_iconst (v := 1) hx hb dR_isOf_45 (by decide) ?_
            refine lv_goto (tgt := 50) hx hb dR_isOf_46 rfl ?_
            refine lv_istore hx hb dR_isOf_50 hl (by decide) rfl (fun ls hl => ?_)
            have hl : lv_has ls 6 [(4, .int 1), (0, .ref a), (1, .long d), (3, .ref y), (5, .int (nI i))] := hl
            have hl : lv_has ls 6 [(4, .int (bm_ie d0 d h h3 (i + 1))), (0, .ref a), (1, .long d), (3, .ref y), (5, .int (nI i))] := by rw [show bm_ie d0 d h h3 (i + 1) = _ from bm_ie_y h27 ((lg_cmp_eq _ _).mp h42)]; exact hl
            refine lv_iinc (v := nI (i + 1)) (k := 4) hx hb dR_isOf_52 hl rfl (bm_inc i) (by decide) rfl (fun ls hl => ?_)
            have hl : lv_has ls 6 [(5, .int (nI (i + 1))), (4, .int (bm_ie d0 d h h3 (i + 1))), (0, .ref a), (1, .long d), (3, .ref y)] := hl
            refine lv_goto (tgt := 19) hx hb dR_isOf_55 rfl ?_
            have hl : lv_has ls 6 [(0, .ref a), (1, .long d), (3, .ref y), (4, .int (bm_ie d0 d h h3 (i + 1))), (5, .int (nI (i + 1)))] := lv_sub hl [2, 3, 4, 1, 0] rfl
            exact ih (i + 1) ls _ _ (by omega) hl hz hM hS
    exact loop 4 0 ls _ _ rfl hl hz hM hS
set_option maxHeartbeats 4000000 in
set_option maxRecDepth 100000 in
theorem bc_R_revealedIdentity (l : Launch) (D : va_G) (ct : Nat → ClassId) (base : Nat) (ad : Nat → Nat) (M : bm_Map) (sz : Nat) (a b c e b2 : Nat) (d0 ch0 : Int64) (hv f : Nat → Int64) (bv : Value) (h0 : M a = some (.inr (3, [.long d0, .ref b, .long ch0, .ref c, bv]))) (h1 : M c = some (.inl (ct 1, 4, .inr (.inl hv)))) (h2 : M e = some (.inr (4, [.ref b2]))) (h3 : M b2 = some (.inl (ct 1, 16, .inr (.inl f)))) : Met l yR_revealedIdentity (bm_ws yR_revealedIdentity cR_revealedIdentity 5 (some .long)) { frames := 2, cells := 0, slots := 0, locals := 47 } (bm_Pre D ct base ad M sz [.ref a, .ref e]) (bm_Post D base (bm_Is (some (.long (bm_rv hv f (ch0 ^^^ (bm_h3 (f 2) (f 3) (f 1))) 4))) M sz)) 0 0 (bm_A base) := by
  refine bm_ofB (cc := cR_revealedIdentity) (maxL := 5) (ret := (some .long)) (by decide +kernel) (Nat.le_of_ble_eq_true rfl) ?_
  intro vp ve s vm args below meth vc hx hb hr hlk hts hown hml hnm ls hl hz hM hG R Q hR hQ
  have hown : s.vm.findClass "BlindMint$Credit" = some vm.cls := hown
  have hK := hG.K
  have hS : va_S (bm_A base) s.heap s.heap [] := va_S.rf
  have hl : lv_has ls 5 [(0, .ref a), (1, .ref e)] := hl
  refine lv_aload_n hx hb dR_revealedIdentity_0 rfl (lv_at hl 0 rfl) ?_
  refine bm_get (ci := 3) (v := .long ch0) (C := "BlindMint$Credit") (T := bt_R) (N := 5) hx hb hts bu_R hown hK hM h0 rfl 2 (by decide) (hts _ bw_559) (fun _ h9 => h9) rfl dR_revealedIdentity_1 ?_
  refine lv_aload_n hx hb dR_revealedIdentity_4 rfl (lv_at hl 1 rfl) ?_
  refine bm_callE (va_runV (As := []) (rest := [.long ch0]) ⟨hx, hb, hml, hown, hts⟩ (bc_P_challenge l D ct base ad M sz e b2 f h2 h3) (cwV 0 hts (bm_goodV bw_531 bw_172 bw_173 bw_16 bw_174) rfl rfl rfl (by decide +kernel) (by rw [← hR]; exact ⟨Nat.le_of_ble_eq_true rfl, Nat.le_of_ble_eq_true rfl⟩)) (bm_preV hM hG hS hz h2 rfl) rfl rfl hl.1 rfl (lv_room (Nat.le_of_ble_eq_true rfl)) dR_revealedIdentity_5 (by rw [← hR]; exact ⟨Nat.le_of_ble_eq_true rfl, Nat.le_of_ble_eq_true rfl⟩)) hS (fun H locs hz hM hS => ?_)
  refine lv_lxor hx hb dR_revealedIdentity_8 ?_
  refine lv_lstore_n hx hb dR_revealedIdentity_9 rfl hl (by decide) rfl (fun ls hl => ?_)
  have hl : lv_has ls 5 [(2, .long (ch0 ^^^ (bm_h3 (f 2) (f 3) (f 1)))), (0, .ref a), (1, .ref e)] := hl
  refine lv_iconst (v := 0) hx hb dR_revealedIdentity_10 (by decide) ?_
  refine lv_istore hx hb dR_revealedIdentity_11 hl (by decide) rfl (fun ls hl => ?_)
  have hl : lv_has ls 5 [(4, .int 0), (2, .long (ch0 ^^^ (bm_h3 (f 2) (f 3) (f 1)))), (0, .ref a), (1, .ref e)] := hl
  have hl : lv_has ls 5 [(0, .ref a), (1, .ref e), (2, .long (ch0 ^^^ (bm_h3 (f 2) (f 3) (f 1)))), (4, .int 0)] := lv_sub hl [2, 3, 1, 0] rfl
  have loop : ∀ (n : Nat) (i : Nat) (ls : Array Slot) (H : Heap) (locs : List Loc), i + n = 4 → bm_rv hv f (ch0 ^^^ (bm_h3 (f 2) (f 3) (f 1))) n = bm_rv hv f (ch0 ^^^ (bm_h3 (f 2) (f 3) (f 1))) 4 → lv_has ls 5 [(0, .ref a), (1, .ref e), (2, .long (ch0 ^^^ (bm_h3 (f 2) (f 3) (f 1)))), (4, .int (nI i))] → H.size = sz → bm_M D base M H → va_S (bm_A base) s.heap H locs → W vp l ve R s vm args below meth vc H locs 0 0 Q (F0 vm 13 ls []) := by
    intro n
    induction n with
    | zero =>
      intro i ls H locs hi hrv hl hz hM hS
      obtain rfl : i = 4 := by omega
      have hl : lv_has ls 5 [(0, .ref a), (1, .ref e), (2, .long (ch0 ^^^ (bm_h3 (f 2) (f 3) (f 1)))), (4, .int 4)] := hl
      refine lv_iload hx hb dR_revealedIdentity_13 (lv_at hl 3 rfl) ?_
      refine lv_iconst (v := 4) hx hb dR_revealedIdentity_15 (by decide) ?_
      refine lv_icmp_ge (tgt := 49) hx hb dR_revealedIdentity_16 rfl (fun _ => ?_) (fun h => absurd h (by decide))
      refine lv_ldc2 hx hb hown (hts _ bw_537) dR_revealedIdentity_49 ?_
      exact bm_lret hQ hx hb hr hlk hM hS ⟨congrArg (fun z => some (Value.long z)) hrv, rfl, hz⟩ (Nat.le_refl _) (Nat.le_refl _) dR_revealedIdentity_52
    | succ n ih =>
      intro i ls H locs hi hrv hl hz hM hS
      refine lv_iload hx hb dR_revealedIdentity_13 (lv_at hl 3 rfl) ?_
      refine lv_iconst (v := 4) hx hb dR_revealedIdentity_15 (by decide) ?_
      refine lv_icmp_ge (tgt := 49) hx hb dR_revealedIdentity_16 rfl (fun h16 => absurd h16 (nI_ge (b := 4) (by omega) (by decide))) (fun h16 => ?_)
      refine lv_lload_n hx hb dR_revealedIdentity_19 rfl (lv_at hl 2 rfl) ?_
      refine lv_iload hx hb dR_revealedIdentity_20 (lv_at hl 3 rfl) ?_
      refine bm_callE (va_runSN (As := [.long (ch0 ^^^ (bm_h3 (f 2) (f 3) (f 1))), .int (nI i)]) (rest := []) ⟨hx, hb, hml, hown, hts⟩ (bc_B_isOne l D ct base ad M sz (ch0 ^^^ (bm_h3 (f 2) (f 3) (f 1))) (nI i)) ⟨va_cnB 2 hts (bm_goodW bw_196) rfl rfl rfl (hG.2.2.1.w532) (hts _ bw_1) (by decide +kernel) (by rw [← hR]; exact ⟨Nat.le_of_ble_eq_true rfl, Nat.le_of_ble_eq_true rfl⟩), hts _ bw_195, trivial⟩ (bm_preS hM hG hS hz) rfl rfl hl.1 rfl (lv_room (Nat.le_of_ble_eq_true rfl)) dR_revealedIdentity_22 (by rw [← hR]; exact ⟨Nat.le_of_ble_eq_true rfl, Nat.le_of_ble_eq_true rfl⟩)) hS (fun H locs hz hM hS => ?_)
      refine lv_if_eq (tgt := 43) hx hb dR_revealedIdentity_25 rfl (fun h25 => ?_) (fun h25 => ?_)
      · refine lv_iinc (v := nI (i + 1)) (k := 3) hx hb dR_revealedIdentity_43 hl rfl (bm_inc i) (by decide) rfl (fun ls hl => ?_)
        have hl : lv_has ls 5 [(4, .int (nI (i + 1))), (0, .ref a), (1, .ref e), (2, .long (ch0 ^^^ (bm_h3 (f 2) (f 3) (f 1))))] := hl
        refine lv_goto (tgt := 13) hx hb dR_revealedIdentity_46 rfl ?_
        have hl : lv_has ls 5 [(0, .ref a), (1, .ref e), (2, .long (ch0 ^^^ (bm_h3 (f 2) (f 3) (f 1)))), (4, .int (nI (i + 1)))] := lv_sub hl [1, 2, 3, 0] rfl
        exact ih (i + 1) ls _ _ (by omega) ((bm_rv_n (by rw [show 3 - n = i by omega]; exact bm_one_z h25)).symm.trans hrv) hl hz hM hS
      · obtain rfl : i = 3 - n := by omega
        refine lv_aload_n hx hb dR_revealedIdentity_28 rfl (lv_at hl 0 rfl) ?_
        refine bm_get (ci := 3) (v := .ref c) (C := "BlindMint$Credit") (T := bt_R) (N := 5) hx hb hts bu_R hown hK hM h0 rfl 3 (by decide) (hts _ bw_560) (fun _ h9 => h9) rfl dR_revealedIdentity_29 ?_
        refine lv_iload hx hb dR_revealedIdentity_32 (lv_at hl 3 rfl) ?_
        refine bm_lald hx hb hK hM 1 h1 rfl (3 - n) (bm_ix_nI (by omega)) (by omega) dR_revealedIdentity_34 ?_
        refine lv_aload_n hx hb dR_revealedIdentity_35 rfl (lv_at hl 1 rfl) ?_
        refine lv_iload hx hb dR_revealedIdentity_36 (lv_at hl 3 rfl) ?_
        refine bm_callE (va_runV (As := [.int (nI (3 - n))]) (rest := [.long (hv (3 - n))]) ⟨hx, hb, hml, hown, hts⟩ (bc_P_half l D ct base ad M sz e b2 f (3 - n) h2 h3 (by omega)) (cwV 1 hts (bm_goodV bw_533 bw_534 bw_535 bw_16 bw_536) rfl rfl rfl (by decide +kernel) (by rw [← hR]; exact ⟨Nat.le_of_ble_eq_true rfl, Nat.le_of_ble_eq_true rfl⟩)) (bm_preV hM hG hS hz h2 rfl) rfl rfl hl.1 rfl (lv_room (Nat.le_of_ble_eq_true rfl)) dR_revealedIdentity_38 (by rw [← hR]; exact ⟨Nat.le_of_ble_eq_true rfl, Nat.le_of_ble_eq_true rfl⟩)) hS (fun H locs hz hM hS => ?_)
        refine lv_lxor hx hb dR_revealedIdentity_41 ?_
        exact bm_lret hQ hx hb hr hlk hM hS ⟨congrArg (fun z => some (Value.long z)) ((bm_rv_y (bm_one_nz h25)).symm.trans hrv), rfl, hz⟩ (Nat.le_refl _) (Nat.le_refl _) dR_revealedIdentity_42
  exact loop 4 0 ls _ _ rfl rfl hl hz hM hS
set_option maxHeartbeats 4000000 in
set_option maxRecDepth 100000 in
theorem bc_C_make (l : Launch) (D : va_G) (ct : Nat → ClassId) (base : Nat) (ad : Nat → Nat) (M : bm_Map) (sz : Nat) (c j : Nat) (seed hid u0 u1 u2 u3 u4 u5 u6 : Int64) (h0 : M c = some (.inr (1, [.long u0, .long u1, .long u2, .long u3, .long u4, .long u5, .long u6]))) (hj : j < 6) : Met l yC_make (bm_ws yC_make cC_make 6 none) { frames := 2, cells := 0, slots := 0, locals := 48 } (bm_Pre D ct base ad M sz [.ref c, .long seed, .int (nI j), .long hid]) (bm_Post D base (bm_Is none (bm_up M c (.inr (1, [.long (bm_ca seed j), .long (bm_cc seed j), .long (bm_ce seed j), .long ((bm_ca seed j) ^^^ hid), .long (bm_h2 (bm_ca seed j) (bm_cc seed j)), .long (bm_h2 ((bm_ca seed j) ^^^ hid) (bm_ce seed j)), .long (bm_h2 (bm_h2 (bm_ca seed j) (bm_cc seed j)) (bm_h2 ((bm_ca seed j) ^^^ hid) (bm_ce seed j)))]))) sz)) 0 0 (bm_A base) := by
  refine bm_ofB (cc := cC_make) (maxL := 6) (ret := none) (by decide +kernel) (Nat.le_of_ble_eq_true rfl) ?_
  intro vp ve s vm args below meth vc hx hb hr hlk hts hown hml hnm ls hl hz hM hG R Q hR hQ
  have hown : s.vm.findClass "BlindMint$Candidate" = some vm.cls := hown
  have hK := hG.K
  have hS : va_S (bm_A base) s.heap s.heap [] := va_S.rf
  have hl : lv_has ls 6 [(0, .ref c), (1, .long seed), (3, .int (nI j)), (4, .long hid)] := hl
  refine lv_aload_n hx hb dC_make_0 rfl (lv_at hl 0 rfl) ?_
  refine lv_lload_n hx hb dC_make_1 rfl (lv_at hl 1 rfl) ?_
  refine lv_iconst (v := 3) hx hb dC_make_2 (by decide) ?_
  refine lv_iload_n hx hb dC_make_3 rfl (lv_at hl 2 rfl) ?_
  refine lv_imul hx hb dC_make_4 ?_
  refine lv_topi (fun t1 e_t1 => ?_)
  have e_t1 : t1 = nI (3 * j) := by rw [e_t1]; exact pk_mul 3 j
  subst e_t1
  refine lv_i2l (v := lN (3 * j)) hx hb dC_make_5 (nI_l (by omega)) ?_
  refine bm_callE (va_runS (As := [.long seed, .long (lN (3 * j))]) (rest := [.ref c]) ⟨hx, hb, hml, hown, hts⟩ (bc_H_of l D ct base ad M sz seed (lN (3 * j))) (va_cwS 2 hts (bm_goodS bw_331 bw_189 bw_11 bw_190) rfl rfl rfl (by decide +kernel) (by rw [← hR]; exact ⟨Nat.le_of_ble_eq_true rfl, Nat.le_of_ble_eq_true rfl⟩)) (bm_preS hM hG hS hz) rfl rfl hl.1 rfl (lv_room (Nat.le_of_ble_eq_true rfl)) dC_make_6 (by rw [← hR]; exact ⟨Nat.le_of_ble_eq_true rfl, Nat.le_of_ble_eq_true rfl⟩)) hS (fun H locs hz hM hS => ?_)
  refine lv_topl (fun t2 e_t2 => ?_)
  have e_t2 : t2 = bm_ca seed j := by rw [e_t2]; rfl
  subst e_t2
  refine bm_put (ci := 1) (v := .long (bm_ca seed j)) (ty := .long) (C := "BlindMint$Candidate") (T := bt_C) (N := 7) hx hb hts bu_C by_C bo_C bn_C hown hK hM hS h0 rfl 0 (by decide) (hts _ bw_43) (fun _ h9 => h9) rfl (by decide +kernel) rfl rfl (Nat.le_of_ble_eq_true rfl) dC_make_9 (fun H locs hz1 hM hS => ?_)
  replace hz := hz1.trans hz
  replace hM : bm_M D base (bm_up M c (.inr (1, [.long (bm_ca seed j), .long u1, .long u2, .long u3, .long u4, .long u5, .long u6]))) H := hM
  obtain ⟨M3, eM3⟩ : ∃ X, X = bm_up M c (.inr (1, [.long (bm_ca seed j), .long u1, .long u2, .long u3, .long u4, .long u5, .long u6])) := ⟨_, rfl⟩
  rw [← eM3] at hM
  replace h0 : M3 c = some (.inr (1, [.long (bm_ca seed j), .long u1, .long u2, .long u3, .long u4, .long u5, .long u6])) := by rw [eM3]; exact bm_up_self _ _ _
  refine lv_aload_n hx hb dC_make_12 rfl (lv_at hl 0 rfl) ?_
  refine lv_lload_n hx hb dC_make_13 rfl (lv_at hl 1 rfl) ?_
  refine lv_iconst (v := 3) hx hb dC_make_14 (by decide) ?_
  refine lv_iload_n hx hb dC_make_15 rfl (lv_at hl 2 rfl) ?_
  refine lv_imul hx hb dC_make_16 ?_
  refine lv_iconst (v := 1) hx hb dC_make_17 (by decide) ?_
  refine lv_iadd hx hb dC_make_18 ?_
  refine lv_topi (fun t4 e_t4 => ?_)
  have e_t4 : t4 = nI (3 * j + 1) := by rw [e_t4]; show nI 3 * nI j + nI 1 = _; rw [pk_mul, nI_add]
  subst e_t4
  refine lv_i2l (v := lN (3 * j + 1)) hx hb dC_make_19 (nI_l (by omega)) ?_
  refine bm_callE (va_runS (As := [.long seed, .long (lN (3 * j + 1))]) (rest := [.ref c]) ⟨hx, hb, hml, hown, hts⟩ (bc_H_of l D ct base ad M3 sz seed (lN (3 * j + 1))) (va_cwS 2 hts (bm_goodS bw_331 bw_189 bw_11 bw_190) rfl rfl rfl (by decide +kernel) (by rw [← hR]; exact ⟨Nat.le_of_ble_eq_true rfl, Nat.le_of_ble_eq_true rfl⟩)) (bm_preS hM hG hS hz) rfl rfl hl.1 rfl (lv_room (Nat.le_of_ble_eq_true rfl)) dC_make_20 (by rw [← hR]; exact ⟨Nat.le_of_ble_eq_true rfl, Nat.le_of_ble_eq_true rfl⟩)) hS (fun H locs hz hM hS => ?_)
  refine lv_topl (fun t5 e_t5 => ?_)
  have e_t5 : t5 = bm_cc seed j := by rw [e_t5]; rfl
  subst e_t5
  refine bm_put (ci := 1) (v := .long (bm_cc seed j)) (ty := .long) (C := "BlindMint$Candidate") (T := bt_C) (N := 7) hx hb hts bu_C by_C bo_C bn_C hown hK hM hS h0 rfl 1 (by decide) (hts _ bw_45) (fun _ h9 => h9) rfl (by decide +kernel) rfl rfl (Nat.le_of_ble_eq_true rfl) dC_make_23 (fun H locs hz1 hM hS => ?_)
  replace hz := hz1.trans hz
  replace hM : bm_M D base (bm_up M3 c (.inr (1, [.long (bm_ca seed j), .long (bm_cc seed j), .long u2, .long u3, .long u4, .long u5, .long u6]))) H := hM
  obtain ⟨M6, eM6⟩ : ∃ X, X = bm_up M3 c (.inr (1, [.long (bm_ca seed j), .long (bm_cc seed j), .long u2, .long u3, .long u4, .long u5, .long u6])) := ⟨_, rfl⟩
  rw [← eM6] at hM
  replace h0 : M6 c = some (.inr (1, [.long (bm_ca seed j), .long (bm_cc seed j), .long u2, .long u3, .long u4, .long u5, .long u6])) := by rw [eM6]; exact bm_up_self _ _ _
  refine lv_aload_n hx hb dC_make_26 rfl (lv_at hl 0 rfl) ?_
  refine lv_lload_n hx hb dC_make_27 rfl (lv_at hl 1 rfl) ?_
  refine lv_iconst (v := 3) hx hb dC_make_28 (by decide) ?_
  refine lv_iload_n hx hb dC_make_29 rfl (lv_at hl 2 rfl) ?_
  refine lv_imul hx hb dC_make_30 ?_
  refine lv_iconst (v := 2) hx hb dC_make_31 (by decide) ?_
  refine lv_iadd hx hb dC_make_32 ?_
  refine lv_topi (fun t7 e_t7 => ?_)
  have e_t7 : t7 = nI (3 * j + 2) := by rw [e_t7]; show nI 3 * nI j + nI 2 = _; rw [pk_mul, nI_add]
  subst e_t7
  refine lv_i2l (v := lN (3 * j + 2)) hx hb dC_make_33 (nI_l (by omega)) ?_
  refine bm_callE (va_runS (As := [.long seed, .long (lN (3 * j + 2))]) (rest := [.ref c]) ⟨hx, hb, hml, hown, hts⟩ (bc_H_of l D ct base ad M6 sz seed (lN (3 * j + 2))) (va_cwS 2 hts (bm_goodS bw_331 bw_189 bw_11 bw_190) rfl rfl rfl (by decide +kernel) (by rw [← hR]; exact ⟨Nat.le_of_ble_eq_true rfl, Nat.le_of_ble_eq_true rfl⟩)) (bm_preS hM hG hS hz) rfl rfl hl.1 rfl (lv_room (Nat.le_of_ble_eq_true rfl)) dC_make_34 (by rw [← hR]; exact ⟨Nat.le_of_ble_eq_true rfl, Nat.le_of_ble_eq_true rfl⟩)) hS (fun H locs hz hM hS => ?_)
  refine lv_topl (fun t8 e_t8 => ?_)
  have e_t8 : t8 = bm_ce seed j := by rw [e_t8]; rfl
  subst e_t8
  refine bm_put (ci := 1) (v := .long (bm_ce seed j)) (ty := .long) (C := "BlindMint$Candidate") (T := bt_C) (N := 7) hx hb hts bu_C by_C bo_C bn_C hown hK hM hS h0 rfl 2 (by decide) (hts _ bw_47) (fun _ h9 => h9) rfl (by decide +kernel) rfl rfl (Nat.le_of_ble_eq_true rfl) dC_make_37 (fun H locs hz1 hM hS => ?_)
  replace hz := hz1.trans hz
  replace hM : bm_M D base (bm_up M6 c (.inr (1, [.long (bm_ca seed j), .long (bm_cc seed j), .long (bm_ce seed j), .long u3, .long u4, .long u5, .long u6]))) H := hM
  obtain ⟨M9, eM9⟩ : ∃ X, X = bm_up M6 c (.inr (1, [.long (bm_ca seed j), .long (bm_cc seed j), .long (bm_ce seed j), .long u3, .long u4, .long u5, .long u6])) := ⟨_, rfl⟩
  rw [← eM9] at hM
  replace h0 : M9 c = some (.inr (1, [.long (bm_ca seed j), .long (bm_cc seed j), .long (bm_ce seed j), .long u3, .long u4, .long u5, .long u6])) := by rw [eM9]; exact bm_up_self _ _ _
  refine lv_aload_n hx hb dC_make_40 rfl (lv_at hl 0 rfl) ?_
  refine lv_aload_n hx hb dC_make_41 rfl (lv_at hl 0 rfl) ?_
  refine bm_get (ci := 1) (v := .long (bm_ca seed j)) (C := "BlindMint$Candidate") (T := bt_C) (N := 7) hx hb hts bu_C hown hK hM h0 rfl 0 (by decide) (hts _ bw_43) (fun _ h9 => h9) rfl dC_make_42 ?_
  refine lv_lload hx hb dC_make_45 (lv_at hl 3 rfl) ?_
  refine lv_lxor hx hb dC_make_47 ?_
  refine bm_put (ci := 1) (v := .long ((bm_ca seed j) ^^^ hid)) (ty := .long) (C := "BlindMint$Candidate") (T := bt_C) (N := 7) hx hb hts bu_C by_C bo_C bn_C hown hK hM hS h0 rfl 3 (by decide) (hts _ bw_49) (fun _ h9 => h9) rfl (by decide +kernel) rfl rfl (Nat.le_of_ble_eq_true rfl) dC_make_48 (fun H locs hz1 hM hS => ?_)
  replace hz := hz1.trans hz
  replace hM : bm_M D base (bm_up M9 c (.inr (1, [.long (bm_ca seed j), .long (bm_cc seed j), .long (bm_ce seed j), .long ((bm_ca seed j) ^^^ hid), .long u4, .long u5, .long u6]))) H := hM
  obtain ⟨M10, eM10⟩ : ∃ X, X = bm_up M9 c (.inr (1, [.long (bm_ca seed j), .long (bm_cc seed j), .long (bm_ce seed j), .long ((bm_ca seed j) ^^^ hid), .long u4, .long u5, .long u6])) := ⟨_, rfl⟩
  rw [← eM10] at hM
  replace h0 : M10 c = some (.inr (1, [.long (bm_ca seed j), .long (bm_cc seed j), .long (bm_ce seed j), .long ((bm_ca seed j) ^^^ hid), .long u4, .long u5, .long u6])) := by rw [eM10]; exact bm_up_self _ _ _
  refine lv_aload_n hx hb dC_make_51 rfl (lv_at hl 0 rfl) ?_
  refine lv_aload_n hx hb dC_make_52 rfl (lv_at hl 0 rfl) ?_
  refine bm_get (ci := 1) (v := .long (bm_ca seed j)) (C := "BlindMint$Candidate") (T := bt_C) (N := 7) hx hb hts bu_C hown hK hM h0 rfl 0 (by decide) (hts _ bw_43) (fun _ h9 => h9) rfl dC_make_53 ?_
  refine lv_aload_n hx hb dC_make_56 rfl (lv_at hl 0 rfl) ?_
  refine bm_get (ci := 1) (v := .long (bm_cc seed j)) (C := "BlindMint$Candidate") (T := bt_C) (N := 7) hx hb hts bu_C hown hK hM h0 rfl 1 (by decide) (hts _ bw_45) (fun _ h9 => h9) rfl dC_make_57 ?_
  refine bm_callE (va_runS (As := [.long (bm_ca seed j), .long (bm_cc seed j)]) (rest := [.ref c]) ⟨hx, hb, hml, hown, hts⟩ (bc_H_of l D ct base ad M10 sz (bm_ca seed j) (bm_cc seed j)) (va_cwS 2 hts (bm_goodS bw_331 bw_189 bw_11 bw_190) rfl rfl rfl (by decide +kernel) (by rw [← hR]; exact ⟨Nat.le_of_ble_eq_true rfl, Nat.le_of_ble_eq_true rfl⟩)) (bm_preS hM hG hS hz) rfl rfl hl.1 rfl (lv_room (Nat.le_of_ble_eq_true rfl)) dC_make_60 (by rw [← hR]; exact ⟨Nat.le_of_ble_eq_true rfl, Nat.le_of_ble_eq_true rfl⟩)) hS (fun H locs hz hM hS => ?_)
  refine bm_put (ci := 1) (v := .long (bm_h2 (bm_ca seed j) (bm_cc seed j))) (ty := .long) (C := "BlindMint$Candidate") (T := bt_C) (N := 7) hx hb hts bu_C by_C bo_C bn_C hown hK hM hS h0 rfl 4 (by decide) (hts _ bw_51) (fun _ h9 => h9) rfl (by decide +kernel) rfl rfl (Nat.le_of_ble_eq_true rfl) dC_make_63 (fun H locs hz1 hM hS => ?_)
  replace hz := hz1.trans hz
  replace hM : bm_M D base (bm_up M10 c (.inr (1, [.long (bm_ca seed j), .long (bm_cc seed j), .long (bm_ce seed j), .long ((bm_ca seed j) ^^^ hid), .long (bm_h2 (bm_ca seed j) (bm_cc seed j)), .long u5, .long u6]))) H := hM
  obtain ⟨M11, eM11⟩ : ∃ X, X = bm_up M10 c (.inr (1, [.long (bm_ca seed j), .long (bm_cc seed j), .long (bm_ce seed j), .long ((bm_ca seed j) ^^^ hid), .long (bm_h2 (bm_ca seed j) (bm_cc seed j)), .long u5, .long u6])) := ⟨_, rfl⟩
  rw [← eM11] at hM
  replace h0 : M11 c = some (.inr (1, [.long (bm_ca seed j), .long (bm_cc seed j), .long (bm_ce seed j), .long ((bm_ca seed j) ^^^ hid), .long (bm_h2 (bm_ca seed j) (bm_cc seed j)), .long u5, .long u6])) := by rw [eM11]; exact bm_up_self _ _ _
  refine lv_aload_n hx hb dC_make_66 rfl (lv_at hl 0 rfl) ?_
  refine lv_aload_n hx hb dC_make_67 rfl (lv_at hl 0 rfl) ?_
  refine bm_get (ci := 1) (v := .long ((bm_ca seed j) ^^^ hid)) (C := "BlindMint$Candidate") (T := bt_C) (N := 7) hx hb hts bu_C hown hK hM h0 rfl 3 (by decide) (hts _ bw_49) (fun _ h9 => h9) rfl dC_make_68 ?_
  refine lv_aload_n hx hb dC_make_71 rfl (lv_at hl 0 rfl) ?_
  refine bm_get (ci := 1) (v := .long (bm_ce seed j)) (C := "BlindMint$Candidate") (T := bt_C) (N := 7) hx hb hts bu_C hown hK hM h0 rfl 2 (by decide) (hts _ bw_47) (fun _ h9 => h9) rfl dC_make_72 ?_
  refine bm_callE (va_runS (As := [.long ((bm_ca seed j) ^^^ hid), .long (bm_ce seed j)]) (rest := [.ref c]) ⟨hx, hb, hml, hown, hts⟩ (bc_H_of l D ct base ad M11 sz ((bm_ca seed j) ^^^ hid) (bm_ce seed j)) (va_cwS 2 hts (bm_goodS bw_331 bw_189 bw_11 bw_190) rfl rfl rfl (by decide +kernel) (by rw [← hR]; exact ⟨Nat.le_of_ble_eq_true rfl, Nat.le_of_ble_eq_true rfl⟩)) (bm_preS hM hG hS hz) rfl rfl hl.1 rfl (lv_room (Nat.le_of_ble_eq_true rfl)) dC_make_75 (by rw [← hR]; exact ⟨Nat.le_of_ble_eq_true rfl, Nat.le_of_ble_eq_true rfl⟩)) hS (fun H locs hz hM hS => ?_)
  refine bm_put (ci := 1) (v := .long (bm_h2 ((bm_ca seed j) ^^^ hid) (bm_ce seed j))) (ty := .long) (C := "BlindMint$Candidate") (T := bt_C) (N := 7) hx hb hts bu_C by_C bo_C bn_C hown hK hM hS h0 rfl 5 (by decide) (hts _ bw_53) (fun _ h9 => h9) rfl (by decide +kernel) rfl rfl (Nat.le_of_ble_eq_true rfl) dC_make_78 (fun H locs hz1 hM hS => ?_)
  replace hz := hz1.trans hz
  replace hM : bm_M D base (bm_up M11 c (.inr (1, [.long (bm_ca seed j), .long (bm_cc seed j), .long (bm_ce seed j), .long ((bm_ca seed j) ^^^ hid), .long (bm_h2 (bm_ca seed j) (bm_cc seed j)), .long (bm_h2 ((bm_ca seed j) ^^^ hid) (bm_ce seed j)), .long u6]))) H := hM
  obtain ⟨M12, eM12⟩ : ∃ X, X = bm_up M11 c (.inr (1, [.long (bm_ca seed j), .long (bm_cc seed j), .long (bm_ce seed j), .long ((bm_ca seed j) ^^^ hid), .long (bm_h2 (bm_ca seed j) (bm_cc seed j)), .long (bm_h2 ((bm_ca seed j) ^^^ hid) (bm_ce seed j)), .long u6])) := ⟨_, rfl⟩
  rw [← eM12] at hM
  replace h0 : M12 c = some (.inr (1, [.long (bm_ca seed j), .long (bm_cc seed j), .long (bm_ce seed j), .long ((bm_ca seed j) ^^^ hid), .long (bm_h2 (bm_ca seed j) (bm_cc seed j)), .long (bm_h2 ((bm_ca seed j) ^^^ hid) (bm_ce seed j)), .long u6])) := by rw [eM12]; exact bm_up_self _ _ _
  refine lv_aload_n hx hb dC_make_81 rfl (lv_at hl 0 rfl) ?_
  refine lv_aload_n hx hb dC_make_82 rfl (lv_at hl 0 rfl) ?_
  refine bm_get (ci := 1) (v := .long (bm_h2 (bm_ca seed j) (bm_cc seed j))) (C := "BlindMint$Candidate") (T := bt_C) (N := 7) hx hb hts bu_C hown hK hM h0 rfl 4 (by decide) (hts _ bw_51) (fun _ h9 => h9) rfl dC_make_83 ?_
  refine lv_aload_n hx hb dC_make_86 rfl (lv_at hl 0 rfl) ?_
  refine bm_get (ci := 1) (v := .long (bm_h2 ((bm_ca seed j) ^^^ hid) (bm_ce seed j))) (C := "BlindMint$Candidate") (T := bt_C) (N := 7) hx hb hts bu_C hown hK hM h0 rfl 5 (by decide) (hts _ bw_53) (fun _ h9 => h9) rfl dC_make_87 ?_
  refine bm_callE (va_runS (As := [.long (bm_h2 (bm_ca seed j) (bm_cc seed j)), .long (bm_h2 ((bm_ca seed j) ^^^ hid) (bm_ce seed j))]) (rest := [.ref c]) ⟨hx, hb, hml, hown, hts⟩ (bc_H_of l D ct base ad M12 sz (bm_h2 (bm_ca seed j) (bm_cc seed j)) (bm_h2 ((bm_ca seed j) ^^^ hid) (bm_ce seed j))) (va_cwS 2 hts (bm_goodS bw_331 bw_189 bw_11 bw_190) rfl rfl rfl (by decide +kernel) (by rw [← hR]; exact ⟨Nat.le_of_ble_eq_true rfl, Nat.le_of_ble_eq_true rfl⟩)) (bm_preS hM hG hS hz) rfl rfl hl.1 rfl (lv_room (Nat.le_of_ble_eq_true rfl)) dC_make_90 (by rw [← hR]; exact ⟨Nat.le_of_ble_eq_true rfl, Nat.le_of_ble_eq_true rfl⟩)) hS (fun H locs hz hM hS => ?_)
  refine bm_put (ci := 1) (v := .long (bm_h2 (bm_h2 (bm_ca seed j) (bm_cc seed j)) (bm_h2 ((bm_ca seed j) ^^^ hid) (bm_ce seed j)))) (ty := .long) (C := "BlindMint$Candidate") (T := bt_C) (N := 7) hx hb hts bu_C by_C bo_C bn_C hown hK hM hS h0 rfl 6 (by decide) (hts _ bw_54) (fun _ h9 => h9) rfl (by decide +kernel) rfl rfl (Nat.le_of_ble_eq_true rfl) dC_make_93 (fun H locs hz1 hM hS => ?_)
  replace hz := hz1.trans hz
  replace hM : bm_M D base (bm_up M12 c (.inr (1, [.long (bm_ca seed j), .long (bm_cc seed j), .long (bm_ce seed j), .long ((bm_ca seed j) ^^^ hid), .long (bm_h2 (bm_ca seed j) (bm_cc seed j)), .long (bm_h2 ((bm_ca seed j) ^^^ hid) (bm_ce seed j)), .long (bm_h2 (bm_h2 (bm_ca seed j) (bm_cc seed j)) (bm_h2 ((bm_ca seed j) ^^^ hid) (bm_ce seed j)))]))) H := hM
  obtain ⟨M13, eM13⟩ : ∃ X, X = bm_up M12 c (.inr (1, [.long (bm_ca seed j), .long (bm_cc seed j), .long (bm_ce seed j), .long ((bm_ca seed j) ^^^ hid), .long (bm_h2 (bm_ca seed j) (bm_cc seed j)), .long (bm_h2 ((bm_ca seed j) ^^^ hid) (bm_ce seed j)), .long (bm_h2 (bm_h2 (bm_ca seed j) (bm_cc seed j)) (bm_h2 ((bm_ca seed j) ^^^ hid) (bm_ce seed j)))])) := ⟨_, rfl⟩
  rw [← eM13] at hM
  replace h0 : M13 c = some (.inr (1, [.long (bm_ca seed j), .long (bm_cc seed j), .long (bm_ce seed j), .long ((bm_ca seed j) ^^^ hid), .long (bm_h2 (bm_ca seed j) (bm_cc seed j)), .long (bm_h2 ((bm_ca seed j) ^^^ hid) (bm_ce seed j)), .long (bm_h2 (bm_h2 (bm_ca seed j) (bm_cc seed j)) (bm_h2 ((bm_ca seed j) ^^^ hid) (bm_ce seed j)))])) := by rw [eM13]; exact bm_up_self _ _ _
  exact bm_vret hQ hx hb hr hlk hM hS ⟨rfl, by rw [eM13, eM12, eM11, eM10, eM9, eM6, eM3]; simp only [bm_up_up], hz⟩ (Nat.le_refl _) (Nat.le_refl _) dC_make_96
set_option maxHeartbeats 4000000 in
set_option maxRecDepth 100000 in
theorem bc_C_hides (l : Launch) (D : va_G) (ct : Nat → ClassId) (base : Nat) (ad : Nat → Nat) (M : bm_Map) (sz : Nat) (c : Nat) (u0 u1 u2 u3 u4 u5 u6 w : Int64) (h0 : M c = some (.inr (1, [.long u0, .long u1, .long u2, .long u3, .long u4, .long u5, .long u6]))) : Met l yC_hides (bm_ws yC_hides cC_hides 3 (some .boolean)) { frames := 0, cells := 0, slots := 0, locals := 0 } (bm_Pre D ct base ad M sz [.ref c, .long w]) (bm_Post D base (bm_Is (some (.int (bm_hd u0 u3 w))) M sz)) 0 0 (bm_A base) := by
  refine bm_ofB (cc := cC_hides) (maxL := 3) (ret := (some .boolean)) (by decide +kernel) (Nat.le_of_ble_eq_true rfl) ?_
  intro vp ve s vm args below meth vc hx hb hr hlk hts hown hml hnm ls hl hz hM hG R Q hR hQ
  have hown : s.vm.findClass "BlindMint$Candidate" = some vm.cls := hown
  have hK := hG.K
  have hS : va_S (bm_A base) s.heap s.heap [] := va_S.rf
  have hl : lv_has ls 3 [(0, .ref c), (1, .long w)] := hl
  refine lv_aload_n hx hb dC_hides_0 rfl (lv_at hl 0 rfl) ?_
  refine bm_get (ci := 1) (v := .long u0) (C := "BlindMint$Candidate") (T := bt_C) (N := 7) hx hb hts bu_C hown hK hM h0 rfl 0 (by decide) (hts _ bw_43) (fun _ h9 => h9) rfl dC_hides_1 ?_
  refine lv_aload_n hx hb dC_hides_4 rfl (lv_at hl 0 rfl) ?_
  refine bm_get (ci := 1) (v := .long u3) (C := "BlindMint$Candidate") (T := bt_C) (N := 7) hx hb hts bu_C hown hK hM h0 rfl 3 (by decide) (hts _ bw_49) (fun _ h9 => h9) rfl dC_hides_5 ?_
  refine lv_lxor hx hb dC_hides_8 ?_
  refine lv_lload_n hx hb dC_hides_9 rfl (lv_at hl 1 rfl) ?_
  refine W.lcmp hx hb dC_hides_10 ?_
  refine lv_if_ne (tgt := 18) hx hb dC_hides_11 rfl (fun h11 => ?_) (fun h11 => ?_)
  · refine lv_iconst (v := 0) hx hb dC_hides_18 (by decide) ?_
    exact bm_zret hQ hx hb hr hlk (by decide) hM hS ⟨congrArg (fun z => some (Value.int z)) (if_neg (fun q => h11 ((lg_cmp_eq _ _).mpr q)) : bm_hd u0 u3 w = 0).symm, rfl, hz⟩ (Nat.le_refl _) (Nat.le_refl _) dC_hides_19
  · refine lv_iconst (v := 1) hx hb dC_hides_14 (by decide) ?_
    refine lv_goto (tgt := 19) hx hb dC_hides_15 rfl ?_
    exact bm_zret hQ hx hb hr hlk (by decide) hM hS ⟨congrArg (fun z => some (Value.int z)) (if_pos ((lg_cmp_eq _ _).mp h11) : bm_hd u0 u3 w = 1).symm, rfl, hz⟩ (Nat.le_refl _) (Nat.le_refl _) dC_hides_19
set_option maxHeartbeats 4000000 in
set_option maxRecDepth 100000 in
theorem bc_A_isWalletFull_n (l : Launch) (D : va_G) (ct : Nat → ClassId) (base : Nat) (ad : Nat → Nat) (M : bm_Map) (sz : Nat) (a wl k : Nat) (bal : Int32) (h0 : M a = some (.inr (0, [.int bal, .ref wl, .int (nI k)]))) (hk : k < 8) : Met l yA_isWalletFull (bm_ws yA_isWalletFull cA_isWalletFull 1 (some .boolean)) { frames := 0, cells := 0, slots := 0, locals := 0 } (bm_Pre D ct base ad M sz [.ref a]) (bm_Post D base (bm_Is (some (.int 0)) M sz)) 0 0 (bm_A base) := by
  refine bm_ofB (cc := cA_isWalletFull) (maxL := 1) (ret := (some .boolean)) (by decide +kernel) (Nat.le_of_ble_eq_true rfl) ?_
  intro vp ve s vm args below meth vc hx hb hr hlk hts hown hml hnm ls hl hz hM hG R Q hR hQ
  have hown : s.vm.findClass "BlindMint$Account" = some vm.cls := hown
  have hK := hG.K
  have hS : va_S (bm_A base) s.heap s.heap [] := va_S.rf
  have hl : lv_has ls 1 [(0, .ref a)] := hl
  refine lv_aload_n hx hb dA_isWalletFull_0 rfl (lv_at hl 0 rfl) ?_
  refine bm_get (ci := 0) (v := .int (nI k)) (C := "BlindMint$Account") (T := bt_A) (N := 3) hx hb hts bu_A hown hK hM h0 rfl 2 (by decide) (hts _ bw_99) (fun _ h9 => h9) rfl dA_isWalletFull_1 ?_
  refine lv_bipush (v := 8) hx hb dA_isWalletFull_4 (by decide) ?_
  refine lv_icmp_lt (tgt := 13) hx hb dA_isWalletFull_6 rfl (fun h6 => ?_) (fun h6 => absurd (nI_lt hk (by decide)) h6)
  refine lv_iconst (v := 0) hx hb dA_isWalletFull_13 (by decide) ?_
  exact bm_zret hQ hx hb hr hlk (by decide) hM hS ⟨rfl, rfl, hz⟩ (Nat.le_refl _) (Nat.le_refl _) dA_isWalletFull_14
set_option maxHeartbeats 4000000 in
set_option maxRecDepth 100000 in
theorem bc_A_isWalletFull_y (l : Launch) (D : va_G) (ct : Nat → ClassId) (base : Nat) (ad : Nat → Nat) (M : bm_Map) (sz : Nat) (a wl : Nat) (bal : Int32) (h0 : M a = some (.inr (0, [.int bal, .ref wl, .int (nI 8)]))) : Met l yA_isWalletFull (bm_ws yA_isWalletFull cA_isWalletFull 1 (some .boolean)) { frames := 0, cells := 0, slots := 0, locals := 0 } (bm_Pre D ct base ad M sz [.ref a]) (bm_Post D base (bm_Is (some (.int 1)) M sz)) 0 0 (bm_A base) := by
  refine bm_ofB (cc := cA_isWalletFull) (maxL := 1) (ret := (some .boolean)) (by decide +kernel) (Nat.le_of_ble_eq_true rfl) ?_
  intro vp ve s vm args below meth vc hx hb hr hlk hts hown hml hnm ls hl hz hM hG R Q hR hQ
  have hown : s.vm.findClass "BlindMint$Account" = some vm.cls := hown
  have hK := hG.K
  have hS : va_S (bm_A base) s.heap s.heap [] := va_S.rf
  have hl : lv_has ls 1 [(0, .ref a)] := hl
  refine lv_aload_n hx hb dA_isWalletFull_0 rfl (lv_at hl 0 rfl) ?_
  refine bm_get (ci := 0) (v := .int (nI 8)) (C := "BlindMint$Account") (T := bt_A) (N := 3) hx hb hts bu_A hown hK hM h0 rfl 2 (by decide) (hts _ bw_99) (fun _ h9 => h9) rfl dA_isWalletFull_1 ?_
  refine lv_bipush (v := 8) hx hb dA_isWalletFull_4 (by decide) ?_
  refine lv_icmp_lt (tgt := 13) hx hb dA_isWalletFull_6 rfl (fun h6 => absurd h6 (by decide)) (fun h6 => ?_)
  refine lv_iconst (v := 1) hx hb dA_isWalletFull_9 (by decide) ?_
  refine lv_goto (tgt := 14) hx hb dA_isWalletFull_10 rfl ?_
  exact bm_zret hQ hx hb hr hlk (by decide) hM hS ⟨rfl, rfl, hz⟩ (Nat.le_refl _) (Nat.le_refl _) dA_isWalletFull_14
set_option maxHeartbeats 4000000 in
set_option maxRecDepth 100000 in
theorem bc_A_hasUnspent (l : Launch) (D : va_G) (ct : Nat → ClassId) (base : Nat) (ad : Nat → Nat) (M : bm_Map) (sz : Nat) (a wl i o t1 t0 n1 : Nat) (bal cnt dn sp w : Int32) (nu sg : Int64) (wf : Nat → Option Nat) (h0 : M a = some (.inr (0, [.int bal, .ref wl, .int cnt]))) (h1 : M wl = some (.inl (ct 6, 8, .inr (.inr (.inr (.inr wf)))))) (h2 : M o = some (.inr (2, [.int dn, .long nu, .long sg, .int sp, .ref t1, .ref t0]))) (hi : i < 8) (ho : wf i = some o) : Met l yA_hasUnspent (bm_ws yA_hasUnspent cA_hasUnspent 3 (some .boolean)) { frames := 0, cells := 0, slots := 0, locals := 0 } (bm_Pre D ct base ad M sz [.ref a, .int (nI i), .int w]) (bm_Post D base (bm_Is (some (.int (bm_hu dn sp w))) M sz)) 0 0 (bm_A base) := by
  refine bm_ofB (cc := cA_hasUnspent) (maxL := 3) (ret := (some .boolean)) (by decide +kernel) (Nat.le_of_ble_eq_true rfl) ?_
  intro vp ve s vm args below meth vc hx hb hr hlk hts hown hml hnm ls hl hz hM hG R Q hR hQ
  have hown : s.vm.findClass "BlindMint$Account" = some vm.cls := hown
  have hK := hG.K
  have hS : va_S (bm_A base) s.heap s.heap [] := va_S.rf
  have hl : lv_has ls 3 [(0, .ref a), (1, .int (nI i)), (2, .int w)] := hl
  refine lv_aload_n hx hb dA_hasUnspent_0 rfl (lv_at hl 0 rfl) ?_
  refine bm_get (ci := 0) (v := .ref wl) (C := "BlindMint$Account") (T := bt_A) (N := 3) hx hb hts bu_A hown hK hM h0 rfl 1 (by decide) (hts _ bw_97) (fun _ h9 => h9) rfl dA_hasUnspent_1 ?_
  refine lv_iload_n hx hb dA_hasUnspent_4 rfl (lv_at hl 1 rfl) ?_
  refine bm_aald (v := .ref o) hx hb hK hM 6 h1 rfl i (bm_ix_nI (by omega)) (by omega) (by rw [ho]; rfl) dA_hasUnspent_5 ?_
  refine bm_get (ci := 2) (v := .int dn) (C := "BlindMint$Coin") (T := bt_O) (N := 6) hx hb hts bu_O hown hK hM h2 rfl 0 (by decide) (hts _ bw_414) (fun _ h9 => h9) rfl dA_hasUnspent_6 ?_
  refine lv_iload_n hx hb dA_hasUnspent_9 rfl (lv_at hl 2 rfl) ?_
  refine lv_icmp_ne (tgt := 29) hx hb dA_hasUnspent_10 rfl (fun h10 => ?_) (fun h10 => ?_)
  · refine lv_iconst (v := 0) hx hb dA_hasUnspent_29 (by decide) ?_
    exact bm_zret hQ hx hb hr hlk (by decide) hM hS ⟨congrArg (fun z => some (Value.int z)) (bm_hu_1 h10).symm, rfl, hz⟩ (Nat.le_refl _) (Nat.le_refl _) dA_hasUnspent_30
  · refine lv_aload_n hx hb dA_hasUnspent_13 rfl (lv_at hl 0 rfl) ?_
    refine bm_get (ci := 0) (v := .ref wl) (C := "BlindMint$Account") (T := bt_A) (N := 3) hx hb hts bu_A hown hK hM h0 rfl 1 (by decide) (hts _ bw_97) (fun _ h9 => h9) rfl dA_hasUnspent_14 ?_
    refine lv_iload_n hx hb dA_hasUnspent_17 rfl (lv_at hl 1 rfl) ?_
    refine bm_aald (v := .ref o) hx hb hK hM 6 h1 rfl i (bm_ix_nI (by omega)) (by omega) (by rw [ho]; rfl) dA_hasUnspent_18 ?_
    refine bm_get (ci := 2) (v := .int sp) (C := "BlindMint$Coin") (T := bt_O) (N := 6) hx hb hts bu_O hown hK hM h2 rfl 3 (by decide) (hts _ bw_421) (fun _ h9 => h9) rfl dA_hasUnspent_19 ?_
    refine lv_if_ne (tgt := 29) hx hb dA_hasUnspent_22 rfl (fun h22 => ?_) (fun h22 => ?_)
    · refine lv_iconst (v := 0) hx hb dA_hasUnspent_29 (by decide) ?_
      exact bm_zret hQ hx hb hr hlk (by decide) hM hS ⟨congrArg (fun z => some (Value.int z)) (bm_hu_2 h22).symm, rfl, hz⟩ (Nat.le_refl _) (Nat.le_refl _) dA_hasUnspent_30
    · refine lv_iconst (v := 1) hx hb dA_hasUnspent_25 (by decide) ?_
      refine lv_goto (tgt := 30) hx hb dA_hasUnspent_26 rfl ?_
      exact bm_zret hQ hx hb hr hlk (by decide) hM hS ⟨congrArg (fun z => some (Value.int z)) (bm_hu_3 h10 h22).symm, rfl, hz⟩ (Nat.le_refl _) (Nat.le_refl _) dA_hasUnspent_30
set_option maxHeartbeats 4000000 in
set_option maxRecDepth 100000 in
theorem bc_A_keep (l : Launch) (D : va_G) (ct : Nat → ClassId) (base : Nat) (ad : Nat → Nat) (M : bm_Map) (sz : Nat) (a wl k o t1 t0 : Nat) (bal dn sp : Int32) (nu sg : Int64) (wf : Nat → Option Nat) (h0 : M a = some (.inr (0, [.int bal, .ref wl, .int (nI k)]))) (h1 : M wl = some (.inl (ct 6, 8, .inr (.inr (.inr (.inr wf)))))) (h2 : M o = some (.inr (2, [.int dn, .long nu, .long sg, .int sp, .ref t1, .ref t0]))) (hk : k < 8) : Met l yA_keep (bm_ws yA_keep cA_keep 2 (some .int)) { frames := 0, cells := 0, slots := 0, locals := 0 } (bm_Pre D ct base ad M sz [.ref a, .ref o]) (bm_Post D base (bm_Is (some (.int (nI k))) (bm_up (bm_up M wl (.inl (ct 6, 8, .inr (.inr (.inr (.inr (va_up wf k (some o)))))))) a (.inr (0, [.int bal, .ref wl, .int (nI (k + 1))]))) sz)) 0 0 (bm_A base) := by
  refine bm_ofB (cc := cA_keep) (maxL := 2) (ret := (some .int)) (by decide +kernel) (Nat.le_of_ble_eq_true rfl) ?_
  intro vp ve s vm args below meth vc hx hb hr hlk hts hown hml hnm ls hl hz hM hG R Q hR hQ
  have hown : s.vm.findClass "BlindMint$Account" = some vm.cls := hown
  have hK := hG.K
  have hS : va_S (bm_A base) s.heap s.heap [] := va_S.rf
  have hl : lv_has ls 2 [(0, .ref a), (1, .ref o)] := hl
  refine lv_aload_n hx hb dA_keep_0 rfl (lv_at hl 0 rfl) ?_
  refine bm_get (ci := 0) (v := .ref wl) (C := "BlindMint$Account") (T := bt_A) (N := 3) hx hb hts bu_A hown hK hM h0 rfl 1 (by decide) (hts _ bw_97) (fun _ h9 => h9) rfl dA_keep_1 ?_
  refine lv_aload_n hx hb dA_keep_4 rfl (lv_at hl 0 rfl) ?_
  refine bm_get (ci := 0) (v := .int (nI k)) (C := "BlindMint$Account") (T := bt_A) (N := 3) hx hb hts bu_A hown hK hM h0 rfl 2 (by decide) (hts _ bw_99) (fun _ h9 => h9) rfl dA_keep_5 ?_
  refine lv_aload_n hx hb dA_keep_8 rfl (lv_at hl 1 rfl) ?_
  refine bm_aast hx hb hK hM hS 6 2 (r := ("BlindMint$Coin", bt_O, 6)) h1 rfl h2 rfl k (bm_ix_nI (by omega)) (by omega) dA_keep_9 (fun H locs hz1 hM hS => ?_)
  replace hz := hz1.trans hz
  replace hM : bm_M D base (bm_up M wl (.inl (ct 6, 8, .inr (.inr (.inr (.inr (va_up wf k (some o)))))))) H := hM
  obtain ⟨M1, eM1⟩ : ∃ X, X = bm_up M wl (.inl (ct 6, 8, .inr (.inr (.inr (.inr (va_up wf k (some o))))))) := ⟨_, rfl⟩
  rw [← eM1] at hM
  replace h0 : M1 a = some (.inr (0, [.int bal, .ref wl, .int (nI k)])) := by rw [eM1, bm_up_ne (bm_ne_ao h1 h0)]; exact h0
  replace h2 : M1 o = some (.inr (2, [.int dn, .long nu, .long sg, .int sp, .ref t1, .ref t0])) := by rw [eM1, bm_up_ne (bm_ne_ao h1 h2)]; exact h2
  replace h1 : M1 wl = some (.inl (ct 6, 8, .inr (.inr (.inr (.inr (va_up wf k (some o))))))) := by rw [eM1]; exact bm_up_self _ _ _
  refine lv_aload_n hx hb dA_keep_10 rfl (lv_at hl 0 rfl) ?_
  refine lv_dup hx hb dA_keep_11 rfl ?_
  refine bm_get (ci := 0) (v := .int (nI k)) (C := "BlindMint$Account") (T := bt_A) (N := 3) hx hb hts bu_A hown hK hM h0 rfl 2 (by decide) (hts _ bw_99) (fun _ h9 => h9) rfl dA_keep_12 ?_
  refine lv_iconst (v := 1) hx hb dA_keep_15 (by decide) ?_
  refine lv_iadd hx hb dA_keep_16 ?_
  refine lv_topi (fun t2 e_t2 => ?_)
  have e_t2 : t2 = nI (k + 1) := by rw [e_t2]; exact nI_add k 1
  subst e_t2
  refine bm_put (ci := 0) (v := .int (nI (k + 1))) (ty := .int) (C := "BlindMint$Account") (T := bt_A) (N := 3) hx hb hts bu_A by_A bo_A bn_A hown hK hM hS h0 rfl 2 (by decide) (hts _ bw_99) (fun _ h9 => h9) rfl (by decide +kernel) rfl rfl (Nat.le_of_ble_eq_true rfl) dA_keep_17 (fun H locs hz1 hM hS => ?_)
  replace hz := hz1.trans hz
  replace hM : bm_M D base (bm_up M1 a (.inr (0, [.int bal, .ref wl, .int (nI (k + 1))]))) H := hM
  obtain ⟨M3, eM3⟩ : ∃ X, X = bm_up M1 a (.inr (0, [.int bal, .ref wl, .int (nI (k + 1))])) := ⟨_, rfl⟩
  rw [← eM3] at hM
  replace h1 : M3 wl = some (.inl (ct 6, 8, .inr (.inr (.inr (.inr (va_up wf k (some o))))))) := by rw [eM3, bm_up_ne (bm_ne_oa h0 h1)]; exact h1
  replace h2 : M3 o = some (.inr (2, [.int dn, .long nu, .long sg, .int sp, .ref t1, .ref t0])) := by rw [eM3, bm_up_ne (bm_ne_oo h0 h2 (by decide))]; exact h2
  replace h0 : M3 a = some (.inr (0, [.int bal, .ref wl, .int (nI (k + 1))])) := by rw [eM3]; exact bm_up_self _ _ _
  refine lv_aload_n hx hb dA_keep_20 rfl (lv_at hl 0 rfl) ?_
  refine bm_get (ci := 0) (v := .int (nI (k + 1))) (C := "BlindMint$Account") (T := bt_A) (N := 3) hx hb hts bu_A hown hK hM h0 rfl 2 (by decide) (hts _ bw_99) (fun _ h9 => h9) rfl dA_keep_21 ?_
  refine lv_iconst (v := 1) hx hb dA_keep_24 (by decide) ?_
  refine lv_isub hx hb dA_keep_25 ?_
  refine lv_topi (fun t4 e_t4 => ?_)
  have e_t4 : t4 = nI k := by rw [e_t4]; exact pk_sub (a := k + 1) (b := 1) (by omega)
  subst e_t4
  exact bm_iret hQ hx hb hr hlk hM hS ⟨rfl, by rw [eM3, eM1], hz⟩ (Nat.le_refl _) (Nat.le_refl _) dA_keep_26
set_option maxHeartbeats 4000000 in
set_option maxRecDepth 100000 in
theorem bc_H_ofCoin (l : Launch) (D : va_G) (ct : Nat → ClassId) (base : Nat) (ad : Nat → Nat) (M : bm_Map) (sz : Nat) (d : Int64) (y : Nat) (h : Nat → Int64) (h0 : M y = some (.inl (ct 1, 4, .inr (.inl h)))) : Met l yH_ofCoin (bm_ws yH_ofCoin cH_ofCoin 10 (some .long)) { frames := 1, cells := 0, slots := 0, locals := 25 } (bm_Pre D ct base ad M sz [.long d, .ref y]) (bm_Post D base (bm_Is (some (.long (bm_hc d h))) M sz)) 0 0 (bm_A base) := by
  refine bm_ofB (cc := cH_ofCoin) (maxL := 10) (ret := (some .long)) (by decide +kernel) (Nat.le_of_ble_eq_true rfl) ?_
  intro vp ve s vm args below meth vc hx hb hr hlk hts hown hml hnm ls hl hz hM hG R Q hR hQ
  have hown : s.vm.findClass "BlindMint$Hash" = some vm.cls := hown
  have hK := hG.K
  have hS : va_S (bm_A base) s.heap s.heap [] := va_S.rf
  have hl : lv_has ls 10 [(0, .long d), (2, .ref y)] := hl
  refine lv_ldc2 hx hb hown (hts _ bw_191) dH_ofCoin_0 ?_
  refine lv_lload_n hx hb dH_ofCoin_3 rfl (lv_at hl 0 rfl) ?_
  refine bm_callE (va_runS (As := [.long 7, .long d]) (rest := []) ⟨hx, hb, hml, hown, hts⟩ (bc_H_step l D ct base ad M sz 7 d) (va_cwS 2 hts (bm_goodS bw_192 bw_177 bw_11 bw_178) rfl rfl rfl (by decide +kernel) (by rw [← hR]; exact ⟨Nat.le_of_ble_eq_true rfl, Nat.le_of_ble_eq_true rfl⟩)) (bm_preS hM hG hS hz) rfl rfl hl.1 rfl (lv_room (Nat.le_of_ble_eq_true rfl)) dH_ofCoin_4 (by rw [← hR]; exact ⟨Nat.le_of_ble_eq_true rfl, Nat.le_of_ble_eq_true rfl⟩)) hS (fun H locs hz hM hS => ?_)
  refine lv_topl (fun t1 e_t1 => ?_)
  have e_t1 : t1 = bm_oc d h 0 := by rw [e_t1]; rfl
  subst e_t1
  refine lv_lstore_n hx hb dH_ofCoin_7 rfl hl (by decide) rfl (fun ls hl => ?_)
  have hl : lv_has ls 10 [(3, .long (bm_oc d h 0)), (0, .long d), (2, .ref y)] := hl
  refine lv_aload_n hx hb dH_ofCoin_8 rfl (lv_at hl 2 rfl) ?_
  refine lv_astore hx hb dH_ofCoin_9 hl (by decide) rfl (fun ls hl => ?_)
  have hl : lv_has ls 10 [(5, .ref y), (3, .long (bm_oc d h 0)), (0, .long d), (2, .ref y)] := hl
  refine lv_aload hx hb dH_ofCoin_11 (lv_at hl 0 rfl) ?_
  refine bm_alen (v := 4) hx hb hK hM 1 h0 rfl (show Int32.ofNat 4 = 4 by decide) dH_ofCoin_13 ?_
  refine lv_istore hx hb dH_ofCoin_14 hl (by decide) rfl (fun ls hl => ?_)
  have hl : lv_has ls 10 [(6, .int 4), (5, .ref y), (3, .long (bm_oc d h 0)), (0, .long d), (2, .ref y)] := hl
  refine lv_iconst (v := 0) hx hb dH_ofCoin_16 (by decide) ?_
  refine lv_istore hx hb dH_ofCoin_17 hl (by decide) rfl (fun ls hl => ?_)
  have hl : lv_has ls 10 [(7, .int 0), (6, .int 4), (5, .ref y), (3, .long (bm_oc d h 0)), (0, .long d), (2, .ref y)] := hl
  have hl : lv_has ls 10 [(3, .long (bm_oc d h 0)), (5, .ref y), (6, .int 4), (7, .int 0)] := lv_sub hl [3, 2, 1, 0] rfl
  have loop : ∀ (n : Nat) (i : Nat) (ls : Array Slot) (H : Heap) (locs : List Loc), i + n = 4 → lv_has ls 10 [(3, .long (bm_oc d h i)), (5, .ref y), (6, .int 4), (7, .int (nI i))] → H.size = sz → bm_M D base M H → va_S (bm_A base) s.heap H locs → W vp l ve R s vm args below meth vc H locs 0 0 Q (F0 vm 19 ls []) := by
    intro n
    induction n with
    | zero =>
      intro i ls H locs hi hl hz hM hS
      obtain rfl : i = 4 := by omega
      have hl : lv_has ls 10 [(3, .long (bm_oc d h 4)), (5, .ref y), (6, .int 4), (7, .int 4)] := hl
      refine lv_iload hx hb dH_ofCoin_19 (lv_at hl 3 rfl) ?_
      refine lv_iload hx hb dH_ofCoin_21 (lv_at hl 2 rfl) ?_
      refine lv_icmp_ge (tgt := 46) hx hb dH_ofCoin_23 rfl (fun _ => ?_) (fun h => absurd h (by decide))
      refine lv_lload_n hx hb dH_ofCoin_46 rfl (lv_at hl 0 rfl) ?_
      refine bm_callE (va_runS (As := [.long (bm_oc d h 4)]) (rest := []) ⟨hx, hb, hml, hown, hts⟩ (bc_H_end l D ct base ad M sz (bm_oc d h 4)) (va_cwS 1 hts (bm_goodS bw_193 bw_182 bw_11 bw_183) rfl rfl rfl (by decide +kernel) (by rw [← hR]; exact ⟨Nat.le_of_ble_eq_true rfl, Nat.le_of_ble_eq_true rfl⟩)) (bm_preS hM hG hS hz) rfl rfl hl.1 rfl (lv_room (Nat.le_of_ble_eq_true rfl)) dH_ofCoin_47 (by rw [← hR]; exact ⟨Nat.le_of_ble_eq_true rfl, Nat.le_of_ble_eq_true rfl⟩)) hS (fun H locs hz hM hS => ?_)
      exact bm_lret hQ hx hb hr hlk hM hS ⟨rfl, rfl, hz⟩ (Nat.le_refl _) (Nat.le_refl _) dH_ofCoin_50
    | succ n ih =>
      intro i ls H locs hi hl hz hM hS
      refine lv_iload hx hb dH_ofCoin_19 (lv_at hl 3 rfl) ?_
      refine lv_iload hx hb dH_ofCoin_21 (lv_at hl 2 rfl) ?_
      refine lv_icmp_ge (tgt := 46) hx hb dH_ofCoin_23 rfl (fun h23 => absurd h23 (nI_ge (b := 4) (by omega) (by decide))) (fun h23 => ?_)
      refine lv_aload hx hb dH_ofCoin_26 (lv_at hl 1 rfl) ?_
      refine lv_iload hx hb dH_ofCoin_28 (lv_at hl 3 rfl) ?_
      refine bm_lald hx hb hK hM 1 h0 rfl i (bm_ix_nI (by omega)) (by omega) dH_ofCoin_30 ?_
      refine lv_lstore hx hb dH_ofCoin_31 hl (by decide) rfl (fun ls hl => ?_)
      have hl : lv_has ls 10 [(8, .long (h i)), (3, .long (bm_oc d h i)), (5, .ref y), (6, .int 4), (7, .int (nI i))] := hl
      refine lv_lload_n hx hb dH_ofCoin_33 rfl (lv_at hl 1 rfl) ?_
      refine lv_lload hx hb dH_ofCoin_34 (lv_at hl 0 rfl) ?_
      refine bm_callE (va_runS (As := [.long (bm_oc d h i), .long (h i)]) (rest := []) ⟨hx, hb, hml, hown, hts⟩ (bc_H_step l D ct base ad M sz (bm_oc d h i) (h i)) (va_cwS 2 hts (bm_goodS bw_192 bw_177 bw_11 bw_178) rfl rfl rfl (by decide +kernel) (by rw [← hR]; exact ⟨Nat.le_of_ble_eq_true rfl, Nat.le_of_ble_eq_true rfl⟩)) (bm_preS hM hG hS hz) rfl rfl hl.1 rfl (lv_room (Nat.le_of_ble_eq_true rfl)) dH_ofCoin_36 (by rw [← hR]; exact ⟨Nat.le_of_ble_eq_true rfl, Nat.le_of_ble_eq_true rfl⟩)) hS (fun H locs hz hM hS => ?_)
      refine lv_topl (fun t2 e_t2 => ?_)
      have e_t2 : t2 = bm_oc d h (i + 1) := by rw [e_t2]; rfl
      subst e_t2
      refine lv_lstore_n hx hb dH_ofCoin_39 rfl hl (by decide) rfl (fun ls hl => ?_)
      have hl : lv_has ls 10 [(3, .long (bm_oc d h (i + 1))), (8, .long (h i)), (5, .ref y), (6, .int 4), (7, .int (nI i))] := hl
      refine lv_iinc (v := nI (i + 1)) (k := 4) hx hb dH_ofCoin_40 hl rfl (bm_inc i) (by decide) rfl (fun ls hl => ?_)
      have hl : lv_has ls 10 [(7, .int (nI (i + 1))), (3, .long (bm_oc d h (i + 1))), (8, .long (h i)), (5, .ref y), (6, .int 4)] := hl
      refine lv_goto (tgt := 19) hx hb dH_ofCoin_43 rfl ?_
      have hl : lv_has ls 10 [(3, .long (bm_oc d h (i + 1))), (5, .ref y), (6, .int 4), (7, .int (nI (i + 1)))] := lv_sub hl [1, 3, 4, 0] rfl
      exact ih (i + 1) ls _ _ (by omega) hl hz hM hS
  exact loop 4 0 ls _ _ rfl hl hz hM hS
set_option maxHeartbeats 4000000 in
set_option maxRecDepth 100000 in
theorem bc_B_accountOf (l : Launch) (D : va_G) (ct : Nat → ClassId) (base : Nat) (ad : Nat → Nat) (M : bm_Map) (sz : Nat) (w : Int64) : Met l yB_accountOf (bm_ws yB_accountOf cB_accountOf 3 (some .int)) { frames := 0, cells := 0, slots := 0, locals := 0 } (bm_Pre D ct base ad M sz [.long w]) (bm_Post D base (bm_Is (some (.int (bm_ac w))) M sz)) 0 0 (bm_A base) := by
  refine bm_ofB (cc := cB_accountOf) (maxL := 3) (ret := (some .int)) (by decide +kernel) (Nat.le_of_ble_eq_true rfl) ?_
  intro vp ve s vm args below meth vc hx hb hr hlk hts hown hml hnm ls hl hz hM hG R Q hR hQ
  have hown : s.vm.findClass "BlindMint" = some vm.cls := hown
  have hK := hG.K
  have hS : va_S (bm_A base) s.heap s.heap [] := va_S.rf
  have hl : lv_has ls 3 [(0, .long w)] := hl
  refine lv_lload_n hx hb dB_accountOf_0 rfl (lv_at hl 0 rfl) ?_
  refine lv_ldc2 hx hb hown (hts _ bw_541) dB_accountOf_1 ?_
  refine W.lcmp hx hb dB_accountOf_4 ?_
  refine lv_if_lt (tgt := 20) hx hb dB_accountOf_5 rfl (fun h5 => ?_) (fun h5 => ?_)
  · refine lv_iconst (v := 0) hx hb dB_accountOf_20 (by decide) ?_
    refine lv_istore_n hx hb dB_accountOf_21 rfl hl (by decide) rfl (fun ls hl => ?_)
    have hl : lv_has ls 3 [(2, .int 0), (0, .long w)] := hl
    refine lv_iload_n hx hb dB_accountOf_22 rfl (lv_at hl 0 rfl) ?_
    refine lv_if_eq (tgt := 35) hx hb dB_accountOf_23 rfl (fun _ => ?_) (fun h => absurd h (by decide))
    refine lv_iconst (v := (-1)) hx hb dB_accountOf_35 (by decide) ?_
    exact bm_iret hQ hx hb hr hlk hM hS ⟨congrArg (fun z => some (Value.int z)) (bm_ac_1 ((lg_cmp_lt _ _).mp h5)), rfl, hz⟩ (Nat.le_refl _) (Nat.le_refl _) dB_accountOf_36
  · refine lv_lload_n hx hb dB_accountOf_8 rfl (lv_at hl 0 rfl) ?_
    refine lv_ldc2 hx hb hown (hts _ bw_542) dB_accountOf_9 ?_
    refine W.lcmp hx hb dB_accountOf_12 ?_
    refine lv_if_ge (tgt := 20) hx hb dB_accountOf_13 rfl (fun h13 => ?_) (fun h13 => ?_)
    · refine lv_iconst (v := 0) hx hb dB_accountOf_20 (by decide) ?_
      refine lv_istore_n hx hb dB_accountOf_21 rfl hl (by decide) rfl (fun ls hl => ?_)
      have hl : lv_has ls 3 [(2, .int 0), (0, .long w)] := hl
      refine lv_iload_n hx hb dB_accountOf_22 rfl (lv_at hl 0 rfl) ?_
      refine lv_if_eq (tgt := 35) hx hb dB_accountOf_23 rfl (fun _ => ?_) (fun h => absurd h (by decide))
      refine lv_iconst (v := (-1)) hx hb dB_accountOf_35 (by decide) ?_
      exact bm_iret hQ hx hb hr hlk hM hS ⟨congrArg (fun z => some (Value.int z)) (bm_ac_2 ((lg_cmp_ge _ _).mp h13)), rfl, hz⟩ (Nat.le_refl _) (Nat.le_refl _) dB_accountOf_36
    · refine lv_iconst (v := 1) hx hb dB_accountOf_16 (by decide) ?_
      refine lv_goto (tgt := 21) hx hb dB_accountOf_17 rfl ?_
      refine lv_istore_n hx hb dB_accountOf_21 rfl hl (by decide) rfl (fun ls hl => ?_)
      have hl : lv_has ls 3 [(2, .int 1), (0, .long w)] := hl
      refine lv_iload_n hx hb dB_accountOf_22 rfl (lv_at hl 0 rfl) ?_
      refine lv_if_eq (tgt := 35) hx hb dB_accountOf_23 rfl (fun h => absurd h (by decide)) (fun _ => ?_)
      refine lv_lload_n hx hb dB_accountOf_26 rfl (lv_at hl 1 rfl) ?_
      refine lv_l2i hx hb dB_accountOf_27 rfl ?_
      refine lv_sipush (v := 1000) hx hb dB_accountOf_28 (by decide) ?_
      refine lv_isub hx hb dB_accountOf_31 ?_
      refine lv_goto (tgt := 36) hx hb dB_accountOf_32 rfl ?_
      exact bm_iret hQ hx hb hr hlk hM hS ⟨congrArg (fun z => some (Value.int z)) (bm_ac_3 (fun q => h5 ((lg_cmp_lt _ _).mpr q)) (fun q => h13 ((lg_cmp_ge _ _).mpr q))), rfl, hz⟩ (Nat.le_refl _) (Nat.le_refl _) dB_accountOf_36
