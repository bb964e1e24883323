set_option maxHeartbeats 4000000 in
set_option maxRecDepth 100000 in
theorem bc_Q_open (l : Launch) (D : va_G) (ct : Nat → ClassId) (base : Nat) (ad : Nat → Nat) (M : bm_Map) (sz : Nat) (q : Nat) (fo so : Int32) (cf pt : Nat → Option Nat) (vA vC vE vB vX vY vP : Nat → Int64) (n : Nat) (h0 : M q = some (.inr (5, [.ref (q + 1), .ref (q + 2), .int fo, .int so]))) (h1 : M (q + 1) = some (.inl (ct 5, 6, .inr (.inr (.inr (.inr cf)))))) (h2 : M (q + 2) = some (.inl (ct 5, 4, .inr (.inr (.inr (.inr pt)))))) (k0 : M (q + 3) = some (.inr (1, [.long (vA 0), .long (vC 0), .long (vE 0), .long (vB 0), .long (vX 0), .long (vY 0), .long (vP 0)]))) (k1 : M (q + 4) = some (.inr (1, [.long (vA 1), .long (vC 1), .long (vE 1), .long (vB 1), .long (vX 1), .long (vY 1), .long (vP 1)]))) (k2 : M (q + 5) = some (.inr (1, [.long (vA 2), .long (vC 2), .long (vE 2), .long (vB 2), .long (vX 2), .long (vY 2), .long (vP 2)]))) (k3 : M (q + 6) = some (.inr (1, [.long (vA 3), .long (vC 3), .long (vE 3), .long (vB 3), .long (vX 3), .long (vY 3), .long (vP 3)]))) (k4 : M (q + 7) = some (.inr (1, [.long (vA 4), .long (vC 4), .long (vE 4), .long (vB 4), .long (vX 4), .long (vY 4), .long (vP 4)]))) (k5 : M (q + 8) = some (.inr (1, [.long (vA 5), .long (vC 5), .long (vE 5), .long (vB 5), .long (vX 5), .long (vY 5), .long (vP 5)]))) (hcf : ∀ j, j < 6 → cf j = some (q + (3 + j))) (ht : bm_tt vP = lN n) (hn : n < 2 ^ 59) : Met l yQ_open (bm_ws yQ_open cQ_open 6 none) { frames := 1, cells := 0, slots := 0, locals := 25 } (bm_Pre D ct base ad M sz [.ref q]) (bm_Post D base (bm_Is none (bm_up M q (.inr (5, [.ref (q + 1), .ref (q + 2), .int (nI (bm_o1 n)), .int (nI (bm_o2 n))]))) sz)) 0 0 (bm_A base) := by
  refine bm_ofB (cc := cQ_open) (maxL := 6) (ret := none) (by decide +kernel) (Nat.le_of_ble_eq_true rfl) ?_
  intro vp ve s vm args below meth vc hx hb hr hlk hts hown hml hnm ls hl hz hM hG R Q hR hQ
  have hown : s.vm.findClass "BlindMint$Proposal" = some vm.cls := hown
  have hK := hG.K
  have hS : va_S (bm_A base) s.heap s.heap [] := va_S.rf
  have hl : lv_has ls 6 [(0, .ref q)] := hl
  refine lv_ldc2 hx hb hown (hts _ bw_336) dQ_open_0 ?_
  refine lv_lstore_n hx hb dQ_open_3 rfl hl (by decide) rfl (fun ls hl => ?_)
  have hl : lv_has ls 6 [(1, .long 7), (0, .ref q)] := hl
  refine lv_iconst (v := 0) hx hb dQ_open_4 (by decide) ?_
  refine lv_istore_n hx hb dQ_open_5 rfl hl (by decide) rfl (fun ls hl => ?_)
  have hl : lv_has ls 6 [(3, .int 0), (1, .long 7), (0, .ref q)] := hl
  refine lv_iload_n hx hb dQ_open_6 rfl (lv_at hl 0 rfl) ?_
  refine lv_bipush (v := 6) hx hb dQ_open_7 (by decide) ?_
  refine lv_icmp_ge (tgt := 32) hx hb dQ_open_9 rfl (fun h => absurd h (by decide)) (fun _ => ?_)
  refine lv_lload_n hx hb dQ_open_12 rfl (lv_at hl 1 rfl) ?_
  refine lv_aload_n hx hb dQ_open_13 rfl (lv_at hl 2 rfl) ?_
  refine bm_get (ci := 5) (v := .ref (q + 1)) (C := "BlindMint$Proposal") (T := bt_Q) (N := 4) hx hb hts bu_Q hown hK hM h0 rfl 0 (by decide) (hts _ bw_71) (fun _ h9 => h9) rfl dQ_open_14 ?_
  refine lv_iload_n hx hb dQ_open_17 rfl (lv_at hl 0 rfl) ?_
  refine bm_aald (v := .ref (q + 3)) hx hb hK hM 5 h1 rfl 0 (bm_ix_nI (k := 0) (by decide)) (by decide) (by rw [hcf 0 (by decide)]; rfl) dQ_open_18 ?_
  refine bm_get (ci := 1) (v := .long (vP 0)) (C := "BlindMint$Candidate") (T := bt_C) (N := 7) hx hb hts bu_C hown hK hM k0 rfl 6 (by decide) (hts _ bw_55) (fun _ h9 => h9) rfl dQ_open_19 ?_
  refine bm_callE (va_runS (As := [.long 7, .long (vP 0)]) (rest := []) ⟨hx, hb, hml, hown, hts⟩ (bc_H_step l D ct base ad M sz 7 (vP 0)) (va_cwS 2 hts (bm_goodS bw_337 bw_177 bw_11 bw_178) rfl rfl rfl (by decide +kernel) (by rw [← hR]; exact ⟨Nat.le_of_ble_eq_true rfl, Nat.le_of_ble_eq_true rfl⟩)) (bm_preS hM hG hS hz) rfl rfl hl.1 rfl (lv_room (Nat.le_of_ble_eq_true rfl)) dQ_open_22 (by rw [← hR]; exact ⟨Nat.le_of_ble_eq_true rfl, Nat.le_of_ble_eq_true rfl⟩)) hS (fun H locs hz hM hS => ?_)
  refine lv_lstore_n hx hb dQ_open_25 rfl hl (by decide) rfl (fun ls hl => ?_)
  have hl : lv_has ls 6 [(1, .long (bm_step 7 (vP 0))), (3, .int 0), (0, .ref q)] := hl
  refine lv_iinc (v := 1) (k := 1) hx hb dQ_open_26 hl rfl (by decide) (by decide) rfl (fun ls hl => ?_)
  have hl : lv_has ls 6 [(3, .int 1), (1, .long (bm_step 7 (vP 0))), (0, .ref q)] := hl
  refine lv_goto (tgt := 6) hx hb dQ_open_29 rfl ?_
  refine lv_iload_n hx hb dQ_open_6 rfl (lv_at hl 0 rfl) ?_
  refine lv_bipush (v := 6) hx hb dQ_open_7 (by decide) ?_
  refine lv_icmp_ge (tgt := 32) hx hb dQ_open_9 rfl (fun h => absurd h (by decide)) (fun _ => ?_)
  refine lv_lload_n hx hb dQ_open_12 rfl (lv_at hl 1 rfl) ?_
  refine lv_aload_n hx hb dQ_open_13 rfl (lv_at hl 2 rfl) ?_
  refine bm_get (ci := 5) (v := .ref (q + 1)) (C := "BlindMint$Proposal") (T := bt_Q) (N := 4) hx hb hts bu_Q hown hK hM h0 rfl 0 (by decide) (hts _ bw_71) (fun _ h9 => h9) rfl dQ_open_14 ?_
  refine lv_iload_n hx hb dQ_open_17 rfl (lv_at hl 0 rfl) ?_
  refine bm_aald (v := .ref (q + 4)) hx hb hK hM 5 h1 rfl 1 (bm_ix_nI (k := 1) (by decide)) (by decide) (by rw [hcf 1 (by decide)]; rfl) dQ_open_18 ?_
  refine bm_get (ci := 1) (v := .long (vP 1)) (C := "BlindMint$Candidate") (T := bt_C) (N := 7) hx hb hts bu_C hown hK hM k1 rfl 6 (by decide) (hts _ bw_55) (fun _ h9 => h9) rfl dQ_open_19 ?_
  refine bm_callE (va_runS (As := [.long (bm_step 7 (vP 0)), .long (vP 1)]) (rest := []) ⟨hx, hb, hml, hown, hts⟩ (bc_H_step l D ct base ad M sz (bm_step 7 (vP 0)) (vP 1)) (va_cwS 2 hts (bm_goodS bw_337 bw_177 bw_11 bw_178) rfl rfl rfl (by decide +kernel) (by rw [← hR]; exact ⟨Nat.le_of_ble_eq_true rfl, Nat.le_of_ble_eq_true rfl⟩)) (bm_preS hM hG hS hz) rfl rfl hl.1 rfl (lv_room (Nat.le_of_ble_eq_true rfl)) dQ_open_22 (by rw [← hR]; exact ⟨Nat.le_of_ble_eq_true rfl, Nat.le_of_ble_eq_true rfl⟩)) hS (fun H locs hz hM hS => ?_)
  refine lv_lstore_n hx hb dQ_open_25 rfl hl (by decide) rfl (fun ls hl => ?_)
  have hl : lv_has ls 6 [(1, .long (bm_step (bm_step 7 (vP 0)) (vP 1))), (3, .int 1), (0, .ref q)] := hl
  refine lv_iinc (v := 2) (k := 1) hx hb dQ_open_26 hl rfl (by decide) (by decide) rfl (fun ls hl => ?_)
  have hl : lv_has ls 6 [(3, .int 2), (1, .long (bm_step (bm_step 7 (vP 0)) (vP 1))), (0, .ref q)] := hl
  refine lv_goto (tgt := 6) hx hb dQ_open_29 rfl ?_
  refine lv_iload_n hx hb dQ_open_6 rfl (lv_at hl 0 rfl) ?_
  refine lv_bipush (v := 6) hx hb dQ_open_7 (by decide) ?_
  refine lv_icmp_ge (tgt := 32) hx hb dQ_open_9 rfl (fun h => absurd h (by decide)) (fun _ => ?_)
  refine lv_lload_n hx hb dQ_open_12 rfl (lv_at hl 1 rfl) ?_
  refine lv_aload_n hx hb dQ_open_13 rfl (lv_at hl 2 rfl) ?_
  refine bm_get (ci := 5) (v := .ref (q + 1)) (C := "BlindMint$Proposal") (T := bt_Q) (N := 4) hx hb hts bu_Q hown hK hM h0 rfl 0 (by decide) (hts _ bw_71) (fun _ h9 => h9) rfl dQ_open_14 ?_
  refine lv_iload_n hx hb dQ_open_17 rfl (lv_at hl 0 rfl) ?_
  refine bm_aald (v := .ref (q + 5)) hx hb hK hM 5 h1 rfl 2 (bm_ix_nI (k := 2) (by decide)) (by decide) (by rw [hcf 2 (by decide)]; rfl) dQ_open_18 ?_
  refine bm_get (ci := 1) (v := .long (vP 2)) (C := "BlindMint$Candidate") (T := bt_C) (N := 7) hx hb hts bu_C hown hK hM k2 rfl 6 (by decide) (hts _ bw_55) (fun _ h9 => h9) rfl dQ_open_19 ?_
  refine bm_callE (va_runS (As := [.long (bm_step (bm_step 7 (vP 0)) (vP 1)), .long (vP 2)]) (rest := []) ⟨hx, hb, hml, hown, hts⟩ (bc_H_step l D ct base ad M sz (bm_step (bm_step 7 (vP 0)) (vP 1)) (vP 2)) (va_cwS 2 hts (bm_goodS bw_337 bw_177 bw_11 bw_178) rfl rfl rfl (by decide +kernel) (by rw [← hR]; exact ⟨Nat.le_of_ble_eq_true rfl, Nat.le_of_ble_eq_true rfl⟩)) (bm_preS hM hG hS hz) rfl rfl hl.1 rfl (lv_room (Nat.le_of_ble_eq_true rfl)) dQ_open_22 (by rw [← hR]; exact ⟨Nat.le_of_ble_eq_true rfl, Nat.le_of_ble_eq_true rfl⟩)) hS (fun H locs hz hM hS => ?_)
  refine lv_lstore_n hx hb dQ_open_25 rfl hl (by decide) rfl (fun ls hl => ?_)
  have hl : lv_has ls 6 [(1, .long (bm_step (bm_step (bm_step 7 (vP 0)) (vP 1)) (vP 2))), (3, .int 2), (0, .ref q)] := hl
  refine lv_iinc (v := 3) (k := 1) hx hb dQ_open_26 hl rfl (by decide) (by decide) rfl (fun ls hl => ?_)
  have hl : lv_has ls 6 [(3, .int 3), (1, .long (bm_step (bm_step (bm_step 7 (vP 0)) (vP 1)) (vP 2))), (0, .ref q)] := hl
  refine lv_goto (tgt := 6) hx hb dQ_open_29 rfl ?_
  refine lv_iload_n hx hb dQ_open_6 rfl (lv_at hl 0 rfl) ?_
  refine lv_bipush (v := 6) hx hb dQ_open_7 (by decide) ?_
  refine lv_icmp_ge (tgt := 32) hx hb dQ_open_9 rfl (fun h => absurd h (by decide)) (fun _ => ?_)
  refine lv_lload_n hx hb dQ_open_12 rfl (lv_at hl 1 rfl) ?_
  refine lv_aload_n hx hb dQ_open_13 rfl (lv_at hl 2 rfl) ?_
  refine bm_get (ci := 5) (v := .ref (q + 1)) (C := "BlindMint$Proposal") (T := bt_Q) (N := 4) hx hb hts bu_Q hown hK hM h0 rfl 0 (by decide) (hts _ bw_71) (fun _ h9 => h9) rfl dQ_open_14 ?_
  refine lv_iload_n hx hb dQ_open_17 rfl (lv_at hl 0 rfl) ?_
  refine bm_aald (v := .ref (q + 6)) hx hb hK hM 5 h1 rfl 3 (bm_ix_nI (k := 3) (by decide)) (by decide) (by rw [hcf 3 (by decide)]; rfl) dQ_open_18 ?_
  refine bm_get (ci := 1) (v := .long (vP 3)) (C := "BlindMint$Candidate") (T := bt_C) (N := 7) hx hb hts bu_C hown hK hM k3 rfl 6 (by decide) (hts _ bw_55) (fun _ h9 => h9) rfl dQ_open_19 ?_
  refine bm_callE (va_runS (As := [.long (bm_step (bm_step (bm_step 7 (vP 0)) (vP 1)) (vP 2)), .long (vP 3)]) (rest := []) ⟨hx, hb, hml, hown, hts⟩ (bc_H_step l D ct base ad M sz (bm_step (bm_step (bm_step 7 (vP 0)) (vP 1)) (vP 2)) (vP 3)) (va_cwS 2 hts (bm_goodS bw_337 bw_177 bw_11 bw_178) rfl rfl rfl (by decide +kernel) (by rw [← hR]; exact ⟨Nat.le_of_ble_eq_true rfl, Nat.le_of_ble_eq_true rfl⟩)) (bm_preS hM hG hS hz) rfl rfl hl.1 rfl (lv_room (Nat.le_of_ble_eq_true rfl)) dQ_open_22 (by rw [← hR]; exact ⟨Nat.le_of_ble_eq_true rfl, Nat.le_of_ble_eq_true rfl⟩)) hS (fun H locs hz hM hS => ?_)
  refine lv_lstore_n hx hb dQ_open_25 rfl hl (by decide) rfl (fun ls hl => ?_)
  have hl : lv_has ls 6 [(1, .long (bm_step (bm_step (bm_step (bm_step 7 (vP 0)) (vP 1)) (vP 2)) (vP 3))), (3, .int 3), (0, .ref q)] := hl
  refine lv_iinc (v := 4) (k := 1) hx hb dQ_open_26 hl rfl (by decide) (by decide) rfl (fun ls hl => ?_)
  have hl : lv_has ls 6 [(3, .int 4), (1, .long (bm_step (bm_step (bm_step (bm_step 7 (vP 0)) (vP 1)) (vP 2)) (vP 3))), (0, .ref q)] := hl
  refine lv_goto (tgt := 6) hx hb dQ_open_29 rfl ?_
  refine lv_iload_n hx hb dQ_open_6 rfl (lv_at hl 0 rfl) ?_
  refine lv_bipush (v := 6) hx hb dQ_open_7 (by decide) ?_
  refine lv_icmp_ge (tgt := 32) hx hb dQ_open_9 rfl (fun h => absurd h (by decide)) (fun _ => ?_)
  refine lv_lload_n hx hb dQ_open_12 rfl (lv_at hl 1 rfl) ?_
  refine lv_aload_n hx hb dQ_open_13 rfl (lv_at hl 2 rfl) ?_
  refine bm_get (ci := 5) (v := .ref (q + 1)) (C := "BlindMint$Proposal") (T := bt_Q) (N := 4) hx hb hts bu_Q hown hK hM h0 rfl 0 (by decide) (hts _ bw_71) (fun _ h9 => h9) rfl dQ_open_14 ?_
  refine lv_iload_n hx hb dQ_open_17 rfl (lv_at hl 0 rfl) ?_
  refine bm_aald (v := .ref (q + 7)) hx hb hK hM 5 h1 rfl 4 (bm_ix_nI (k := 4) (by decide)) (by decide) (by rw [hcf 4 (by decide)]; rfl) dQ_open_18 ?_
  refine bm_get (ci := 1) (v := .long (vP 4)) (C := "BlindMint$Candidate") (T := bt_C) (N := 7) hx hb hts bu_C hown hK hM k4 rfl 6 (by decide) (hts _ bw_55) (fun _ h9 => h9) rfl dQ_open_19 ?_
  refine bm_callE (va_runS (As := [.long (bm_step (bm_step (bm_step (bm_step 7 (vP 0)) (vP 1)) (vP 2)) (vP 3)), .long (vP 4)]) (rest := []) ⟨hx, hb, hml, hown, hts⟩ (bc_H_step l D ct base ad M sz (bm_step (bm_step (bm_step (bm_step 7 (vP 0)) (vP 1)) (vP 2)) (vP 3)) (vP 4)) (va_cwS 2 hts (bm_goodS bw_337 bw_177 bw_11 bw_178) rfl rfl rfl (by decide +kernel) (by rw [← hR]; exact ⟨Nat.le_of_ble_eq_true rfl, Nat.le_of_ble_eq_true rfl⟩)) (bm_preS hM hG hS hz) rfl rfl hl.1 rfl (lv_room (Nat.le_of_ble_eq_true rfl)) dQ_open_22 (by rw [← hR]; exact ⟨Nat.le_of_ble_eq_true rfl, Nat.le_of_ble_eq_true rfl⟩)) hS (fun H locs hz hM hS => ?_)
  refine lv_lstore_n hx hb dQ_open_25 rfl hl (by decide) rfl (fun ls hl => ?_)
  have hl : lv_has ls 6 [(1, .long (bm_step (bm_step (bm_step (bm_step (bm_step 7 (vP 0)) (vP 1)) (vP 2)) (vP 3)) (vP 4))), (3, .int 4), (0, .ref q)] := hl
  refine lv_iinc (v := 5) (k := 1) hx hb dQ_open_26 hl rfl (by decide) (by decide) rfl (fun ls hl => ?_)
  have hl : lv_has ls 6 [(3, .int 5), (1, .long (bm_step (bm_step (bm_step (bm_step (bm_step 7 (vP 0)) (vP 1)) (vP 2)) (vP 3)) (vP 4))), (0, .ref q)] := hl
  refine lv_goto (tgt := 6) hx hb dQ_open_29 rfl ?_
  refine lv_iload_n hx hb dQ_open_6 rfl (lv_at hl 0 rfl) ?_
  refine lv_bipush (v := 6) hx hb dQ_open_7 (by decide) ?_
  refine lv_icmp_ge (tgt := 32) hx hb dQ_open_9 rfl (fun h => absurd h (by decide)) (fun _ => ?_)
  refine lv_lload_n hx hb dQ_open_12 rfl (lv_at hl 1 rfl) ?_
  refine lv_aload_n hx hb dQ_open_13 rfl (lv_at hl 2 rfl) ?_
  refine bm_get (ci := 5) (v := .ref (q + 1)) (C := "BlindMint$Proposal") (T := bt_Q) (N := 4) hx hb hts bu_Q hown hK hM h0 rfl 0 (by decide) (hts _ bw_71) (fun _ h9 => h9) rfl dQ_open_14 ?_
  refine lv_iload_n hx hb dQ_open_17 rfl (lv_at hl 0 rfl) ?_
  refine bm_aald (v := .ref (q + 8)) hx hb hK hM 5 h1 rfl 5 (bm_ix_nI (k := 5) (by decide)) (by decide) (by rw [hcf 5 (by decide)]; rfl) dQ_open_18 ?_
  refine bm_get (ci := 1) (v := .long (vP 5)) (C := "BlindMint$Candidate") (T := bt_C) (N := 7) hx hb hts bu_C hown hK hM k5 rfl 6 (by decide) (hts _ bw_55) (fun _ h9 => h9) rfl dQ_open_19 ?_
  refine bm_callE (va_runS (As := [.long (bm_step (bm_step (bm_step (bm_step (bm_step 7 (vP 0)) (vP 1)) (vP 2)) (vP 3)) (vP 4)), .long (vP 5)]) (rest := []) ⟨hx, hb, hml, hown, hts⟩ (bc_H_step l D ct base ad M sz (bm_step (bm_step (bm_step (bm_step (bm_step 7 (vP 0)) (vP 1)) (vP 2)) (vP 3)) (vP 4)) (vP 5)) (va_cwS 2 hts (bm_goodS bw_337 bw_177 bw_11 bw_178) rfl rfl rfl (by decide +kernel) (by rw [← hR]; exact ⟨Nat.le_of_ble_eq_true rfl, Nat.le_of_ble_eq_true rfl⟩)) (bm_preS hM hG hS hz) rfl rfl hl.1 rfl (lv_room (Nat.le_of_ble_eq_true rfl)) dQ_open_22 (by rw [← hR]; exact ⟨Nat.le_of_ble_eq_true rfl, Nat.le_of_ble_eq_true rfl⟩)) hS (fun H locs hz hM hS => ?_)
  refine lv_lstore_n hx hb dQ_open_25 rfl hl (by decide) rfl (fun ls hl => ?_)
  have hl : lv_has ls 6 [(1, .long (bm_step (bm_step (bm_step (bm_step (bm_step (bm_step 7 (vP 0)) (vP 1)) (vP 2)) (vP 3)) (vP 4)) (vP 5))), (3, .int 5), (0, .ref q)] := hl
  refine lv_iinc (v := 6) (k := 1) hx hb dQ_open_26 hl rfl (by decide) (by decide) rfl (fun ls hl => ?_)
  have hl : lv_has ls 6 [(3, .int 6), (1, .long (bm_step (bm_step (bm_step (bm_step (bm_step (bm_step 7 (vP 0)) (vP 1)) (vP 2)) (vP 3)) (vP 4)) (vP 5))), (0, .ref q)] := hl
  refine lv_goto (tgt := 6) hx hb dQ_open_29 rfl ?_
  refine lv_iload_n hx hb dQ_open_6 rfl (lv_at hl 0 rfl) ?_
  refine lv_bipush (v := 6) hx hb dQ_open_7 (by decide) ?_
  refine lv_icmp_ge (tgt := 32) hx hb dQ_open_9 rfl (fun _ => ?_) (fun h => absurd h (by decide))
  refine lv_lload_n hx hb dQ_open_32 rfl (lv_at hl 1 rfl) ?_
  refine bm_callE (va_runS (As := [.long (bm_step (bm_step (bm_step (bm_step (bm_step (bm_step 7 (vP 0)) (vP 1)) (vP 2)) (vP 3)) (vP 4)) (vP 5))]) (rest := []) ⟨hx, hb, hml, hown, hts⟩ (bc_H_end l D ct base ad M sz (bm_step (bm_step (bm_step (bm_step (bm_step (bm_step 7 (vP 0)) (vP 1)) (vP 2)) (vP 3)) (vP 4)) (vP 5))) (va_cwS 1 hts (bm_goodS bw_338 bw_182 bw_11 bw_183) rfl rfl rfl (by decide +kernel) (by rw [← hR]; exact ⟨Nat.le_of_ble_eq_true rfl, Nat.le_of_ble_eq_true rfl⟩)) (bm_preS hM hG hS hz) rfl rfl hl.1 rfl (lv_room (Nat.le_of_ble_eq_true rfl)) dQ_open_33 (by rw [← hR]; exact ⟨Nat.le_of_ble_eq_true rfl, Nat.le_of_ble_eq_true rfl⟩)) hS (fun H locs hz hM hS => ?_)
  refine lv_topl (fun t1 e_t1 => ?_)
  have e_t1 : t1 = lN n := by rw [e_t1]; exact ht
  subst e_t1
  refine lv_lstore_n hx hb dQ_open_36 rfl hl (by decide) rfl (fun ls hl => ?_)
  have hl : lv_has ls 6 [(3, .long (lN n)), (1, .long (bm_step (bm_step (bm_step (bm_step (bm_step (bm_step 7 (vP 0)) (vP 1)) (vP 2)) (vP 3)) (vP 4)) (vP 5))), (0, .ref q)] := hl
  refine lv_aload_n hx hb dQ_open_37 rfl (lv_at hl 2 rfl) ?_
  refine lv_lload_n hx hb dQ_open_38 rfl (lv_at hl 0 rfl) ?_
  refine lv_ldc2 hx hb hown (hts _ bw_339) dQ_open_39 ?_
  refine lv_lrem hx hb dQ_open_42 (by decide) ?_
  refine lv_topl (fun t2 e_t2 => ?_)
  have e_t2 : t2 = lN (bm_o1 n) := by rw [e_t2]; exact pk_lRem (b := 6) (by omega) (by decide) (by decide)
  subst e_t2
  refine lv_l2i (v := nI (bm_o1 n)) hx hb dQ_open_43 (lN_i _) ?_
  refine bm_put (ci := 5) (v := .int (nI (bm_o1 n))) (ty := .int) (C := "BlindMint$Proposal") (T := bt_Q) (N := 4) hx hb hts bu_Q by_Q bo_Q bn_Q hown hK hM hS h0 rfl 2 (by decide) (hts _ bw_74) (fun _ h9 => h9) rfl (by decide +kernel) rfl rfl (Nat.le_of_ble_eq_true rfl) dQ_open_44 (fun H locs hz1 hM hS => ?_)
  replace hz := hz1.trans hz
  replace hM : bm_M D base (bm_up M q (.inr (5, [.ref (q + 1), .ref (q + 2), .int (nI (bm_o1 n)), .int so]))) H := hM
  obtain ⟨M3, eM3⟩ : ∃ X, X = bm_up M q (.inr (5, [.ref (q + 1), .ref (q + 2), .int (nI (bm_o1 n)), .int so])) := ⟨_, rfl⟩
  rw [← eM3] at hM
  replace h1 : M3 (q + 1) = some (.inl (ct 5, 6, .inr (.inr (.inr (.inr cf))))) := by rw [eM3, bm_up_ne (bm_ne1 (k := 0))]; exact h1
  replace h2 : M3 (q + 2) = some (.inl (ct 5, 4, .inr (.inr (.inr (.inr pt))))) := by rw [eM3, bm_up_ne (bm_ne1 (k := 1))]; exact h2
  replace k0 : M3 (q + 3) = some (.inr (1, [.long (vA 0), .long (vC 0), .long (vE 0), .long (vB 0), .long (vX 0), .long (vY 0), .long (vP 0)])) := by rw [eM3, bm_up_ne (bm_ne1 (k := 2))]; exact k0
  replace k1 : M3 (q + 4) = some (.inr (1, [.long (vA 1), .long (vC 1), .long (vE 1), .long (vB 1), .long (vX 1), .long (vY 1), .long (vP 1)])) := by rw [eM3, bm_up_ne (bm_ne1 (k := 3))]; exact k1
  replace k2 : M3 (q + 5) = some (.inr (1, [.long (vA 2), .long (vC 2), .long (vE 2), .long (vB 2), .long (vX 2), .long (vY 2), .long (vP 2)])) := by rw [eM3, bm_up_ne (bm_ne1 (k := 4))]; exact k2
  replace k3 : M3 (q + 6) = some (.inr (1, [.long (vA 3), .long (vC 3), .long (vE 3), .long (vB 3), .long (vX 3), .long (vY 3), .long (vP 3)])) := by rw [eM3, bm_up_ne (bm_ne1 (k := 5))]; exact k3
  replace k4 : M3 (q + 7) = some (.inr (1, [.long (vA 4), .long (vC 4), .long (vE 4), .long (vB 4), .long (vX 4), .long (vY 4), .long (vP 4)])) := by rw [eM3, bm_up_ne (bm_ne1 (k := 6))]; exact k4
  replace k5 : M3 (q + 8) = some (.inr (1, [.long (vA 5), .long (vC 5), .long (vE 5), .long (vB 5), .long (vX 5), .long (vY 5), .long (vP 5)])) := by rw [eM3, bm_up_ne (bm_ne1 (k := 7))]; exact k5
  replace h0 : M3 q = some (.inr (5, [.ref (q + 1), .ref (q + 2), .int (nI (bm_o1 n)), .int so])) := by rw [eM3]; exact bm_up_self _ _ _
  refine lv_iconst (v := 1) hx hb dQ_open_47 (by decide) ?_
  refine lv_lload_n hx hb dQ_open_48 rfl (lv_at hl 0 rfl) ?_
  refine lv_ldc2 hx hb hown (hts _ bw_339) dQ_open_49 ?_
  refine lv_ldiv hx hb dQ_open_52 (by decide) ?_
  refine lv_topl (fun t4 e_t4 => ?_)
  have e_t4 : t4 = lN (n / 6) := by rw [e_t4]; exact pk_lDiv (b := 6) (by omega) (by decide) (by decide)
  subst e_t4
  refine lv_ldc2 hx hb hown (hts _ bw_340) dQ_open_53 ?_
  refine lv_lrem hx hb dQ_open_56 (by decide) ?_
  refine lv_topl (fun t5 e_t5 => ?_)
  have e_t5 : t5 = lN (n / 6 % 5) := by rw [e_t5]; exact pk_lRem (b := 5) (by omega) (by decide) (by decide)
  subst e_t5
  refine lv_l2i (v := nI (n / 6 % 5)) hx hb dQ_open_57 (lN_i _) ?_
  refine lv_iadd hx hb dQ_open_58 ?_
  refine lv_topi (fun t6 e_t6 => ?_)
  have e_t6 : t6 = nI (1 + n / 6 % 5) := by rw [e_t6]; exact nI_add 1 _
  subst e_t6
  refine lv_istore hx hb dQ_open_59 hl (by decide) rfl (fun ls hl => ?_)
  have hl : lv_has ls 6 [(5, .int (nI (1 + n / 6 % 5))), (3, .long (lN n)), (1, .long (bm_step (bm_step (bm_step (bm_step (bm_step (bm_step 7 (vP 0)) (vP 1)) (vP 2)) (vP 3)) (vP 4)) (vP 5))), (0, .ref q)] := hl
  refine lv_aload_n hx hb dQ_open_61 rfl (lv_at hl 3 rfl) ?_
  refine lv_aload_n hx hb dQ_open_62 rfl (lv_at hl 3 rfl) ?_
  refine bm_get (ci := 5) (v := .int (nI (bm_o1 n))) (C := "BlindMint$Proposal") (T := bt_Q) (N := 4) hx hb hts bu_Q hown hK hM h0 rfl 2 (by decide) (hts _ bw_74) (fun _ h9 => h9) rfl dQ_open_63 ?_
  refine lv_iload hx hb dQ_open_66 (lv_at hl 0 rfl) ?_
  refine lv_iadd hx hb dQ_open_68 ?_
  refine lv_topi (fun t7 e_t7 => ?_)
  have e_t7 : t7 = nI (n % 6 + (1 + n / 6 % 5)) := by rw [e_t7]; exact nI_add _ _
  subst e_t7
  refine lv_bipush (v := 6) hx hb dQ_open_69 (by decide) ?_
  refine lv_irem hx hb dQ_open_71 (by decide) ?_
  refine lv_topi (fun t8 e_t8 => ?_)
  have e_t8 : t8 = nI (bm_o2 n) := by rw [e_t8]; exact bm_o2i
  subst e_t8
  refine bm_put (ci := 5) (v := .int (nI (bm_o2 n))) (ty := .int) (C := "BlindMint$Proposal") (T := bt_Q) (N := 4) hx hb hts bu_Q by_Q bo_Q bn_Q hown hK hM hS h0 rfl 3 (by decide) (hts _ bw_75) (fun _ h9 => h9) rfl (by decide +kernel) rfl rfl (Nat.le_of_ble_eq_true rfl) dQ_open_72 (fun H locs hz1 hM hS => ?_)
  replace hz := hz1.trans hz
  replace hM : bm_M D base (bm_up M3 q (.inr (5, [.ref (q + 1), .ref (q + 2), .int (nI (bm_o1 n)), .int (nI (bm_o2 n))]))) H := hM
  obtain ⟨M9, eM9⟩ : ∃ X, X = bm_up M3 q (.inr (5, [.ref (q + 1), .ref (q + 2), .int (nI (bm_o1 n)), .int (nI (bm_o2 n))])) := ⟨_, rfl⟩
  rw [← eM9] at hM
  replace h1 : M9 (q + 1) = some (.inl (ct 5, 6, .inr (.inr (.inr (.inr cf))))) := by rw [eM9, bm_up_ne (bm_ne1 (k := 0))]; exact h1
  replace h2 : M9 (q + 2) = some (.inl (ct 5, 4, .inr (.inr (.inr (.inr pt))))) := by rw [eM9, bm_up_ne (bm_ne1 (k := 1))]; exact h2
  replace k0 : M9 (q + 3) = some (.inr (1, [.long (vA 0), .long (vC 0), .long (vE 0), .long (vB 0), .long (vX 0), .long (vY 0), .long (vP 0)])) := by rw [eM9, bm_up_ne (bm_ne1 (k := 2))]; exact k0
  replace k1 : M9 (q + 4) = some (.inr (1, [.long (vA 1), .long (vC 1), .long (vE 1), .long (vB 1), .long (vX 1), .long (vY 1), .long (vP 1)])) := by rw [eM9, bm_up_ne (bm_ne1 (k := 3))]; exact k1
  replace k2 : M9 (q + 5) = some (.inr (1, [.long (vA 2), .long (vC 2), .long (vE 2), .long (vB 2), .long (vX 2), .long (vY 2), .long (vP 2)])) := by rw [eM9, bm_up_ne (bm_ne1 (k := 4))]; exact k2
  replace k3 : M9 (q + 6) = some (.inr (1, [.long (vA 3), .long (vC 3), .long (vE 3), .long (vB 3), .long (vX 3), .long (vY 3), .long (vP 3)])) := by rw [eM9, bm_up_ne (bm_ne1 (k := 5))]; exact k3
  replace k4 : M9 (q + 7) = some (.inr (1, [.long (vA 4), .long (vC 4), .long (vE 4), .long (vB 4), .long (vX 4), .long (vY 4), .long (vP 4)])) := by rw [eM9, bm_up_ne (bm_ne1 (k := 6))]; exact k4
  replace k5 : M9 (q + 8) = some (.inr (1, [.long (vA 5), .long (vC 5), .long (vE 5), .long (vB 5), .long (vX 5), .long (vY 5), .long (vP 5)])) := by rw [eM9, bm_up_ne (bm_ne1 (k := 7))]; exact k5
  replace h0 : M9 q = some (.inr (5, [.ref (q + 1), .ref (q + 2), .int (nI (bm_o1 n)), .int (nI (bm_o2 n))])) := by rw [eM9]; exact bm_up_self _ _ _
  exact bm_vret hQ hx hb hr hlk hM hS ⟨rfl, by rw [eM9, eM3]; simp only [bm_up_up], hz⟩ (Nat.le_refl _) (Nat.le_refl _) dQ_open_75
set_option maxHeartbeats 4000000 in
set_option maxRecDepth 100000 in
theorem bc_Q_openedCheats (l : Launch) (D : va_G) (ct : Nat → ClassId) (base : Nat) (ad : Nat → Nat) (M : bm_Map) (sz : Nat) (q i1 i2 : Nat) (cf pt : Nat → Option Nat) (vA vC vE vB vX vY vP : Nat → Int64) (w : Int64) (h0 : M q = some (.inr (5, [.ref (q + 1), .ref (q + 2), .int (nI i1), .int (nI i2)]))) (h1 : M (q + 1) = some (.inl (ct 5, 6, .inr (.inr (.inr (.inr cf)))))) (hcf : ∀ j, j < 6 → cf j = some (q + (3 + j))) (hi1 : i1 < 6) (hi2 : i2 < 6) (hc : ∀ j, j < 6 → M (q + (3 + j)) = some (.inr (1, [.long (vA j), .long (vC j), .long (vE j), .long (vB j), .long (vX j), .long (vY j), .long (vP j)]))) : Met l yQ_openedCheats (bm_ws yQ_openedCheats cQ_openedCheats 3 (some .int)) { frames := 1, cells := 0, slots := 0, locals := 22 } (bm_Pre D ct base ad M sz [.ref q, .long w]) (bm_Post D base (bm_Is (some (.int (bm_nh (bm_hd (vA i1) (vB i1) w) + bm_nh (bm_hd (vA i2) (vB i2) w)))) M sz)) 0 0 (bm_A base) := by
  refine bm_ofB (cc := cQ_openedCheats) (maxL := 3) (ret := (some .int)) (by decide +kernel) (Nat.le_of_ble_eq_true rfl) ?_
  intro vp ve s vm args below meth vc hx hb hr hlk hts hown hml hnm ls hl hz hM hG R Q hR hQ
  have hown : s.vm.findClass "BlindMint$Proposal" = some vm.cls := hown
  have hK := hG.K
  have hS : va_S (bm_A base) s.heap s.heap [] := va_S.rf
  have hl : lv_has ls 3 [(0, .ref q), (1, .long w)] := hl
  refine lv_aload_n hx hb dQ_openedCheats_0 rfl (lv_at hl 0 rfl) ?_
  refine bm_get (ci := 5) (v := .ref (q + 1)) (C := "BlindMint$Proposal") (T := bt_Q) (N := 4) hx hb hts bu_Q hown hK hM h0 rfl 0 (by decide) (hts _ bw_71) (fun _ h9 => h9) rfl dQ_openedCheats_1 ?_
  refine lv_aload_n hx hb dQ_openedCheats_4 rfl (lv_at hl 0 rfl) ?_
  refine bm_get (ci := 5) (v := .int (nI i1)) (C := "BlindMint$Proposal") (T := bt_Q) (N := 4) hx hb hts bu_Q hown hK hM h0 rfl 2 (by decide) (hts _ bw_74) (fun _ h9 => h9) rfl dQ_openedCheats_5 ?_
  refine bm_aald (v := .ref (q + (3 + i1))) hx hb hK hM 5 h1 rfl i1 (bm_ix_nI (by omega)) (by omega) (by rw [hcf i1 hi1]; rfl) dQ_openedCheats_8 ?_
  refine lv_lload_n hx hb dQ_openedCheats_9 rfl (lv_at hl 1 rfl) ?_
  refine bm_callE (va_runV (As := [.long w]) (rest := []) ⟨hx, hb, hml, hown, hts⟩ (bc_C_hides l D ct base ad M sz (q + (3 + i1)) (vA i1) (vC i1) (vE i1) (vB i1) (vX i1) (vY i1) (vP i1) w (hc i1 hi1)) (cwV 1 hts (bm_goodV bw_353 bw_354 bw_355 bw_3 bw_356) rfl rfl rfl (by decide +kernel) (by rw [← hR]; exact ⟨Nat.le_of_ble_eq_true rfl, Nat.le_of_ble_eq_true rfl⟩)) (bm_preV hM hG hS hz (hc i1 hi1) rfl) rfl rfl hl.1 rfl (lv_room (Nat.le_of_ble_eq_true rfl)) dQ_openedCheats_10 (by rw [← hR]; exact ⟨Nat.le_of_ble_eq_true rfl, Nat.le_of_ble_eq_true rfl⟩)) hS (fun H locs hz hM hS => ?_)
  refine lv_if_eq (tgt := 20) hx hb dQ_openedCheats_13 rfl (fun h13 => ?_) (fun h13 => ?_)
  · refine lv_iconst (v := 1) hx hb dQ_openedCheats_20 (by decide) ?_
    refine lv_aload_n hx hb dQ_openedCheats_21 rfl (lv_at hl 0 rfl) ?_
    refine bm_get (ci := 5) (v := .ref (q + 1)) (C := "BlindMint$Proposal") (T := bt_Q) (N := 4) hx hb hts bu_Q hown hK hM h0 rfl 0 (by decide) (hts _ bw_71) (fun _ h9 => h9) rfl dQ_openedCheats_22 ?_
    refine lv_aload_n hx hb dQ_openedCheats_25 rfl (lv_at hl 0 rfl) ?_
    refine bm_get (ci := 5) (v := .int (nI i2)) (C := "BlindMint$Proposal") (T := bt_Q) (N := 4) hx hb hts bu_Q hown hK hM h0 rfl 3 (by decide) (hts _ bw_75) (fun _ h9 => h9) rfl dQ_openedCheats_26 ?_
    refine bm_aald (v := .ref (q + (3 + i2))) hx hb hK hM 5 h1 rfl i2 (bm_ix_nI (by omega)) (by omega) (by rw [hcf i2 hi2]; rfl) dQ_openedCheats_29 ?_
    refine lv_lload_n hx hb dQ_openedCheats_30 rfl (lv_at hl 1 rfl) ?_
    refine bm_callE (va_runV (As := [.long w]) (rest := [.int 1]) ⟨hx, hb, hml, hown, hts⟩ (bc_C_hides l D ct base ad M sz (q + (3 + i2)) (vA i2) (vC i2) (vE i2) (vB i2) (vX i2) (vY i2) (vP i2) w (hc i2 hi2)) (cwV 1 hts (bm_goodV bw_353 bw_354 bw_355 bw_3 bw_356) rfl rfl rfl (by decide +kernel) (by rw [← hR]; exact ⟨Nat.le_of_ble_eq_true rfl, Nat.le_of_ble_eq_true rfl⟩)) (bm_preV hM hG hS hz (hc i2 hi2) rfl) rfl rfl hl.1 rfl (lv_room (Nat.le_of_ble_eq_true rfl)) dQ_openedCheats_31 (by rw [← hR]; exact ⟨Nat.le_of_ble_eq_true rfl, Nat.le_of_ble_eq_true rfl⟩)) hS (fun H locs hz hM hS => ?_)
    refine lv_if_eq (tgt := 41) hx hb dQ_openedCheats_34 rfl (fun h34 => ?_) (fun h34 => ?_)
    · refine lv_iconst (v := 1) hx hb dQ_openedCheats_41 (by decide) ?_
      refine lv_iadd hx hb dQ_openedCheats_42 ?_
      exact bm_iret hQ hx hb hr hlk hM hS ⟨congrArg (fun z => some (Value.int z)) (by first | exact bm_nh00 h13 h34 | exact bm_nh01 h13 h34 | exact bm_nh10 h13 h34 | exact bm_nh11 h13 h34), rfl, hz⟩ (Nat.le_refl _) (Nat.le_refl _) dQ_openedCheats_43
    · refine lv_iconst (v := 0) hx hb dQ_openedCheats_37 (by decide) ?_
      refine lv_goto (tgt := 42) hx hb dQ_openedCheats_38 rfl ?_
      refine lv_iadd hx hb dQ_openedCheats_42 ?_
      exact bm_iret hQ hx hb hr hlk hM hS ⟨congrArg (fun z => some (Value.int z)) (by first | exact bm_nh00 h13 h34 | exact bm_nh01 h13 h34 | exact bm_nh10 h13 h34 | exact bm_nh11 h13 h34), rfl, hz⟩ (Nat.le_refl _) (Nat.le_refl _) dQ_openedCheats_43
  · refine lv_iconst (v := 0) hx hb dQ_openedCheats_16 (by decide) ?_
    refine lv_goto (tgt := 21) hx hb dQ_openedCheats_17 rfl ?_
    refine lv_aload_n hx hb dQ_openedCheats_21 rfl (lv_at hl 0 rfl) ?_
    refine bm_get (ci := 5) (v := .ref (q + 1)) (C := "BlindMint$Proposal") (T := bt_Q) (N := 4) hx hb hts bu_Q hown hK hM h0 rfl 0 (by decide) (hts _ bw_71) (fun _ h9 => h9) rfl dQ_openedCheats_22 ?_
    refine lv_aload_n hx hb dQ_openedCheats_25 rfl (lv_at hl 0 rfl) ?_
    refine bm_get (ci := 5) (v := .int (nI i2)) (C := "BlindMint$Proposal") (T := bt_Q) (N := 4) hx hb hts bu_Q hown hK hM h0 rfl 3 (by decide) (hts _ bw_75) (fun _ h9 => h9) rfl dQ_openedCheats_26 ?_
    refine bm_aald (v := .ref (q + (3 + i2))) hx hb hK hM 5 h1 rfl i2 (bm_ix_nI (by omega)) (by omega) (by rw [hcf i2 hi2]; rfl) dQ_openedCheats_29 ?_
    refine lv_lload_n hx hb dQ_openedCheats_30 rfl (lv_at hl 1 rfl) ?_
    refine bm_callE (va_runV (As := [.long w]) (rest := [.int 0]) ⟨hx, hb, hml, hown, hts⟩ (bc_C_hides l D ct base ad M sz (q + (3 + i2)) (vA i2) (vC i2) (vE i2) (vB i2) (vX i2) (vY i2) (vP i2) w (hc i2 hi2)) (cwV 1 hts (bm_goodV bw_353 bw_354 bw_355 bw_3 bw_356) rfl rfl rfl (by decide +kernel) (by rw [← hR]; exact ⟨Nat.le_of_ble_eq_true rfl, Nat.le_of_ble_eq_true rfl⟩)) (bm_preV hM hG hS hz (hc i2 hi2) rfl) rfl rfl hl.1 rfl (lv_room (Nat.le_of_ble_eq_true rfl)) dQ_openedCheats_31 (by rw [← hR]; exact ⟨Nat.le_of_ble_eq_true rfl, Nat.le_of_ble_eq_true rfl⟩)) hS (fun H locs hz hM hS => ?_)
    refine lv_if_eq (tgt := 41) hx hb dQ_openedCheats_34 rfl (fun h34 => ?_) (fun h34 => ?_)
    · refine lv_iconst (v := 1) hx hb dQ_openedCheats_41 (by decide) ?_
      refine lv_iadd hx hb dQ_openedCheats_42 ?_
      exact bm_iret hQ hx hb hr hlk hM hS ⟨congrArg (fun z => some (Value.int z)) (by first | exact bm_nh00 h13 h34 | exact bm_nh01 h13 h34 | exact bm_nh10 h13 h34 | exact bm_nh11 h13 h34), rfl, hz⟩ (Nat.le_refl _) (Nat.le_refl _) dQ_openedCheats_43
    · refine lv_iconst (v := 0) hx hb dQ_openedCheats_37 (by decide) ?_
      refine lv_goto (tgt := 42) hx hb dQ_openedCheats_38 rfl ?_
      refine lv_iadd hx hb dQ_openedCheats_42 ?_
      exact bm_iret hQ hx hb hr hlk hM hS ⟨congrArg (fun z => some (Value.int z)) (by first | exact bm_nh00 h13 h34 | exact bm_nh01 h13 h34 | exact bm_nh10 h13 h34 | exact bm_nh11 h13 h34), rfl, hz⟩ (Nat.le_refl _) (Nat.le_refl _) dQ_openedCheats_43
set_option maxHeartbeats 4000000 in
set_option maxRecDepth 100000 in
theorem bc_Q_readPairHashes (l : Launch) (D : va_G) (ct : Nat → ClassId) (base : Nat) (ad : Nat → Nat) (M : bm_Map) (sz : Nat) (q y : Nat) (o : Nat → Nat) (fo so : Int32) (cf pt : Nat → Option Nat) (h : Nat → Int64) (vA vC vE vB vX vY vP : Nat → Int64) (h0 : M q = some (.inr (5, [.ref (q + 1), .ref (q + 2), .int fo, .int so]))) (h2 : M (q + 2) = some (.inl (ct 5, 4, .inr (.inr (.inr (.inr pt)))))) (h3 : M y = some (.inl (ct 1, 4, .inr (.inl h)))) (hyq : q + 9 ≤ y) (hpt : ∀ i, i < 4 → pt i = some (q + (3 + o i))) (ho : ∀ i, i < 4 → o i < 6) (hcM : ∀ j, j < 6 → M (q + (3 + j)) = some (.inr (1, [.long (vA j), .long (vC j), .long (vE j), .long (vB j), .long (vX j), .long (vY j), .long (vP j)]))) : Met l yQ_readPairHashes (bm_ws yQ_readPairHashes cQ_readPairHashes 3 none) { frames := 0, cells := 0, slots := 0, locals := 0 } (bm_Pre D ct base ad M sz [.ref q, .ref y]) (bm_Post D base (bm_Is none (bm_up M y (.inl (ct 1, 4, .inr (.inl (vp_updL (vp_updL (vp_updL (vp_updL (h) 0 (vP (o 0))) 1 (vP (o 1))) 2 (vP (o 2))) 3 (vP (o 3))))))) sz)) 0 0 (bm_A base) := by
  refine bm_ofB (cc := cQ_readPairHashes) (maxL := 3) (ret := none) (by decide +kernel) (Nat.le_of_ble_eq_true rfl) ?_
  intro vp ve s vm args below meth vc hx hb hr hlk hts hown hml hnm ls hl hz hM hG R Q hR hQ
  have hown : s.vm.findClass "BlindMint$Proposal" = some vm.cls := hown
  have hK := hG.K
  have hS : va_S (bm_A base) s.heap s.heap [] := va_S.rf
  have hl : lv_has ls 3 [(0, .ref q), (1, .ref y)] := hl
  refine lv_iconst (v := 0) hx hb dQ_readPairHashes_0 (by decide) ?_
  refine lv_istore_n hx hb dQ_readPairHashes_1 rfl hl (by decide) rfl (fun ls hl => ?_)
  have hl : lv_has ls 3 [(2, .int 0), (0, .ref q), (1, .ref y)] := hl
  refine lv_iload_n hx hb dQ_readPairHashes_2 rfl (lv_at hl 0 rfl) ?_
  refine lv_iconst (v := 4) hx hb dQ_readPairHashes_3 (by decide) ?_
  refine lv_icmp_ge (tgt := 25) hx hb dQ_readPairHashes_4 rfl (fun h => absurd h (by decide)) (fun _ => ?_)
  refine lv_aload_n hx hb dQ_readPairHashes_7 rfl (lv_at hl 2 rfl) ?_
  refine lv_iload_n hx hb dQ_readPairHashes_8 rfl (lv_at hl 0 rfl) ?_
  refine lv_aload_n hx hb dQ_readPairHashes_9 rfl (lv_at hl 1 rfl) ?_
  refine bm_get (ci := 5) (v := .ref (q + 2)) (C := "BlindMint$Proposal") (T := bt_Q) (N := 4) hx hb hts bu_Q hown hK hM h0 rfl 1 (by decide) (hts _ bw_72) (fun _ h9 => h9) rfl dQ_readPairHashes_10 ?_
  refine lv_iload_n hx hb dQ_readPairHashes_13 rfl (lv_at hl 0 rfl) ?_
  refine bm_aald (v := .ref (q + (3 + o 0))) hx hb hK hM 5 h2 rfl 0 (bm_ix_nI (k := 0) (by decide)) (by decide) (by rw [hpt 0 (by decide)]; rfl) dQ_readPairHashes_14 ?_
  refine bm_get (ci := 1) (v := .long (vP (o 0))) (C := "BlindMint$Candidate") (T := bt_C) (N := 7) hx hb hts bu_C hown hK hM (hcM (o 0) (ho 0 (by decide))) rfl 6 (by decide) (hts _ bw_55) (fun _ h9 => h9) rfl dQ_readPairHashes_15 ?_
  refine bm_last hx hb hK hM hS 1 h3 rfl 0 (bm_ix_nI (k := 0) (by decide)) (by decide) dQ_readPairHashes_18 (fun H locs hz1 hM hS => ?_)
  replace hz := hz1.trans hz
  replace hM : bm_M D base (bm_up M y (.inl (ct 1, 4, .inr (.inl (vp_updL h 0 (vP (o 0))))))) H := hM
  obtain ⟨M1, eM1⟩ : ∃ X, X = bm_up M y (.inl (ct 1, 4, .inr (.inl (vp_updL h 0 (vP (o 0)))))) := ⟨_, rfl⟩
  rw [← eM1] at hM
  replace h0 : M1 q = some (.inr (5, [.ref (q + 1), .ref (q + 2), .int fo, .int so])) := by rw [eM1, bm_up_ne (by omega)]; exact h0
  replace h2 : M1 (q + 2) = some (.inl (ct 5, 4, .inr (.inr (.inr (.inr pt))))) := by rw [eM1, bm_up_ne (by omega)]; exact h2
  replace h3 : M1 y = some (.inl (ct 1, 4, .inr (.inl (vp_updL h 0 (vP (o 0)))))) := by rw [eM1]; exact bm_up_self _ _ _
  have hcM1 : ∀ j, j < 6 → M1 (q + (3 + j)) = some (.inr (1, [.long (vA j), .long (vC j), .long (vE j), .long (vB j), .long (vX j), .long (vY j), .long (vP j)])) := fun j hj => by rw [eM1, bm_up_ne (by omega)]; exact hcM j hj
  refine lv_iinc (v := 1) (k := 0) hx hb dQ_readPairHashes_19 hl rfl (by decide) (by decide) rfl (fun ls hl => ?_)
  have hl : lv_has ls 3 [(2, .int 1), (0, .ref q), (1, .ref y)] := hl
  refine lv_goto (tgt := 2) hx hb dQ_readPairHashes_22 rfl ?_
  refine lv_iload_n hx hb dQ_readPairHashes_2 rfl (lv_at hl 0 rfl) ?_
  refine lv_iconst (v := 4) hx hb dQ_readPairHashes_3 (by decide) ?_
  refine lv_icmp_ge (tgt := 25) hx hb dQ_readPairHashes_4 rfl (fun h => absurd h (by decide)) (fun _ => ?_)
  refine lv_aload_n hx hb dQ_readPairHashes_7 rfl (lv_at hl 2 rfl) ?_
  refine lv_iload_n hx hb dQ_readPairHashes_8 rfl (lv_at hl 0 rfl) ?_
  refine lv_aload_n hx hb dQ_readPairHashes_9 rfl (lv_at hl 1 rfl) ?_
  refine bm_get (ci := 5) (v := .ref (q + 2)) (C := "BlindMint$Proposal") (T := bt_Q) (N := 4) hx hb hts bu_Q hown hK hM h0 rfl 1 (by decide) (hts _ bw_72) (fun _ h9 => h9) rfl dQ_readPairHashes_10 ?_
  refine lv_iload_n hx hb dQ_readPairHashes_13 rfl (lv_at hl 0 rfl) ?_
  refine bm_aald (v := .ref (q + (3 + o 1))) hx hb hK hM 5 h2 rfl 1 (bm_ix_nI (k := 1) (by decide)) (by decide) (by rw [hpt 1 (by decide)]; rfl) dQ_readPairHashes_14 ?_
  refine bm_get (ci := 1) (v := .long (vP (o 1))) (C := "BlindMint$Candidate") (T := bt_C) (N := 7) hx hb hts bu_C hown hK hM (hcM1 (o 1) (ho 1 (by decide))) rfl 6 (by decide) (hts _ bw_55) (fun _ h9 => h9) rfl dQ_readPairHashes_15 ?_
  refine bm_last hx hb hK hM hS 1 h3 rfl 1 (bm_ix_nI (k := 1) (by decide)) (by decide) dQ_readPairHashes_18 (fun H locs hz1 hM hS => ?_)
  replace hz := hz1.trans hz
  replace hM : bm_M D base (bm_up M1 y (.inl (ct 1, 4, .inr (.inl (vp_updL (vp_updL h 0 (vP (o 0))) 1 (vP (o 1))))))) H := hM
  obtain ⟨M2, eM2⟩ : ∃ X, X = bm_up M1 y (.inl (ct 1, 4, .inr (.inl (vp_updL (vp_updL h 0 (vP (o 0))) 1 (vP (o 1)))))) := ⟨_, rfl⟩
  rw [← eM2] at hM
  replace h0 : M2 q = some (.inr (5, [.ref (q + 1), .ref (q + 2), .int fo, .int so])) := by rw [eM2, bm_up_ne (by omega)]; exact h0
  replace h2 : M2 (q + 2) = some (.inl (ct 5, 4, .inr (.inr (.inr (.inr pt))))) := by rw [eM2, bm_up_ne (by omega)]; exact h2
  replace h3 : M2 y = some (.inl (ct 1, 4, .inr (.inl (vp_updL (vp_updL h 0 (vP (o 0))) 1 (vP (o 1)))))) := by rw [eM2]; exact bm_up_self _ _ _
  have hcM2 : ∀ j, j < 6 → M2 (q + (3 + j)) = some (.inr (1, [.long (vA j), .long (vC j), .long (vE j), .long (vB j), .long (vX j), .long (vY j), .long (vP j)])) := fun j hj => by rw [eM2, bm_up_ne (by omega)]; exact hcM1 j hj
  refine lv_iinc (v := 2) (k := 0) hx hb dQ_readPairHashes_19 hl rfl (by decide) (by decide) rfl (fun ls hl => ?_)
  have hl : lv_has ls 3 [(2, .int 2), (0, .ref q), (1, .ref y)] := hl
  refine lv_goto (tgt := 2) hx hb dQ_readPairHashes_22 rfl ?_
  refine lv_iload_n hx hb dQ_readPairHashes_2 rfl (lv_at hl 0 rfl) ?_
  refine lv_iconst (v := 4) hx hb dQ_readPairHashes_3 (by decide) ?_
  refine lv_icmp_ge (tgt := 25) hx hb dQ_readPairHashes_4 rfl (fun h => absurd h (by decide)) (fun _ => ?_)
  refine lv_aload_n hx hb dQ_readPairHashes_7 rfl (lv_at hl 2 rfl) ?_
  refine lv_iload_n hx hb dQ_readPairHashes_8 rfl (lv_at hl 0 rfl) ?_
  refine lv_aload_n hx hb dQ_readPairHashes_9 rfl (lv_at hl 1 rfl) ?_
  refine bm_get (ci := 5) (v := .ref (q + 2)) (C := "BlindMint$Proposal") (T := bt_Q) (N := 4) hx hb hts bu_Q hown hK hM h0 rfl 1 (by decide) (hts _ bw_72) (fun _ h9 => h9) rfl dQ_readPairHashes_10 ?_
  refine lv_iload_n hx hb dQ_readPairHashes_13 rfl (lv_at hl 0 rfl) ?_
  refine bm_aald (v := .ref (q + (3 + o 2))) hx hb hK hM 5 h2 rfl 2 (bm_ix_nI (k := 2) (by decide)) (by decide) (by rw [hpt 2 (by decide)]; rfl) dQ_readPairHashes_14 ?_
  refine bm_get (ci := 1) (v := .long (vP (o 2))) (C := "BlindMint$Candidate") (T := bt_C) (N := 7) hx hb hts bu_C hown hK hM (hcM2 (o 2) (ho 2 (by decide))) rfl 6 (by decide) (hts _ bw_55) (fun _ h9 => h9) rfl dQ_readPairHashes_15 ?_
  refine bm_last hx hb hK hM hS 1 h3 rfl 2 (bm_ix_nI (k := 2) (by decide)) (by decide) dQ_readPairHashes_18 (fun H locs hz1 hM hS => ?_)
  replace hz := hz1.trans hz
  replace hM : bm_M D base (bm_up M2 y (.inl (ct 1, 4, .inr (.inl (vp_updL (vp_updL (vp_updL h 0 (vP (o 0))) 1 (vP (o 1))) 2 (vP (o 2))))))) H := hM
  obtain ⟨M3, eM3⟩ : ∃ X, X = bm_up M2 y (.inl (ct 1, 4, .inr (.inl (vp_updL (vp_updL (vp_updL h 0 (vP (o 0))) 1 (vP (o 1))) 2 (vP (o 2)))))) := ⟨_, rfl⟩
  rw [← eM3] at hM
  replace h0 : M3 q = some (.inr (5, [.ref (q + 1), .ref (q + 2), .int fo, .int so])) := by rw [eM3, bm_up_ne (by omega)]; exact h0
  replace h2 : M3 (q + 2) = some (.inl (ct 5, 4, .inr (.inr (.inr (.inr pt))))) := by rw [eM3, bm_up_ne (by omega)]; exact h2
  replace h3 : M3 y = some (.inl (ct 1, 4, .inr (.inl (vp_updL (vp_updL (vp_updL h 0 (vP (o 0))) 1 (vP (o 1))) 2 (vP (o 2)))))) := by rw [eM3]; exact bm_up_self _ _ _
  have hcM3 : ∀ j, j < 6 → M3 (q + (3 + j)) = some (.inr (1, [.long (vA j), .long (vC j), .long (vE j), .long (vB j), .long (vX j), .long (vY j), .long (vP j)])) := fun j hj => by rw [eM3, bm_up_ne (by omega)]; exact hcM2 j hj
  refine lv_iinc (v := 3) (k := 0) hx hb dQ_readPairHashes_19 hl rfl (by decide) (by decide) rfl (fun ls hl => ?_)
  have hl : lv_has ls 3 [(2, .int 3), (0, .ref q), (1, .ref y)] := hl
  refine lv_goto (tgt := 2) hx hb dQ_readPairHashes_22 rfl ?_
  refine lv_iload_n hx hb dQ_readPairHashes_2 rfl (lv_at hl 0 rfl) ?_
  refine lv_iconst (v := 4) hx hb dQ_readPairHashes_3 (by decide) ?_
  refine lv_icmp_ge (tgt := 25) hx hb dQ_readPairHashes_4 rfl (fun h => absurd h (by decide)) (fun _ => ?_)
  refine lv_aload_n hx hb dQ_readPairHashes_7 rfl (lv_at hl 2 rfl) ?_
  refine lv_iload_n hx hb dQ_readPairHashes_8 rfl (lv_at hl 0 rfl) ?_
  refine lv_aload_n hx hb dQ_readPairHashes_9 rfl (lv_at hl 1 rfl) ?_
  refine bm_get (ci := 5) (v := .ref (q + 2)) (C := "BlindMint$Proposal") (T := bt_Q) (N := 4) hx hb hts bu_Q hown hK hM h0 rfl 1 (by decide) (hts _ bw_72) (fun _ h9 => h9) rfl dQ_readPairHashes_10 ?_
  refine lv_iload_n hx hb dQ_readPairHashes_13 rfl (lv_at hl 0 rfl) ?_
  refine bm_aald (v := .ref (q + (3 + o 3))) hx hb hK hM 5 h2 rfl 3 (bm_ix_nI (k := 3) (by decide)) (by decide) (by rw [hpt 3 (by decide)]; rfl) dQ_readPairHashes_14 ?_
  refine bm_get (ci := 1) (v := .long (vP (o 3))) (C := "BlindMint$Candidate") (T := bt_C) (N := 7) hx hb hts bu_C hown hK hM (hcM3 (o 3) (ho 3 (by decide))) rfl 6 (by decide) (hts _ bw_55) (fun _ h9 => h9) rfl dQ_readPairHashes_15 ?_
  refine bm_last hx hb hK hM hS 1 h3 rfl 3 (bm_ix_nI (k := 3) (by decide)) (by decide) dQ_readPairHashes_18 (fun H locs hz1 hM hS => ?_)
  replace hz := hz1.trans hz
  replace hM : bm_M D base (bm_up M3 y (.inl (ct 1, 4, .inr (.inl (vp_updL (vp_updL (vp_updL (vp_updL h 0 (vP (o 0))) 1 (vP (o 1))) 2 (vP (o 2))) 3 (vP (o 3))))))) H := hM
  obtain ⟨M4, eM4⟩ : ∃ X, X = bm_up M3 y (.inl (ct 1, 4, .inr (.inl (vp_updL (vp_updL (vp_updL (vp_updL h 0 (vP (o 0))) 1 (vP (o 1))) 2 (vP (o 2))) 3 (vP (o 3)))))) := ⟨_, rfl⟩
  rw [← eM4] at hM
  replace h0 : M4 q = some (.inr (5, [.ref (q + 1), .ref (q + 2), .int fo, .int so])) := by rw [eM4, bm_up_ne (by omega)]; exact h0
  replace h2 : M4 (q + 2) = some (.inl (ct 5, 4, .inr (.inr (.inr (.inr pt))))) := by rw [eM4, bm_up_ne (by omega)]; exact h2
  replace h3 : M4 y = some (.inl (ct 1, 4, .inr (.inl (vp_updL (vp_updL (vp_updL (vp_updL h 0 (vP (o 0))) 1 (vP (o 1))) 2 (vP (o 2))) 3 (vP (o 3)))))) := by rw [eM4]; exact bm_up_self _ _ _
  have hcM4 : ∀ j, j < 6 → M4 (q + (3 + j)) = some (.inr (1, [.long (vA j), .long (vC j), .long (vE j), .long (vB j), .long (vX j), .long (vY j), .long (vP j)])) := fun j hj => by rw [eM4, bm_up_ne (by omega)]; exact hcM3 j hj
  refine lv_iinc (v := 4) (k := 0) hx hb dQ_readPairHashes_19 hl rfl (by decide) (by decide) rfl (fun ls hl => ?_)
  have hl : lv_has ls 3 [(2, .int 4), (0, .ref q), (1, .ref y)] := hl
  refine lv_goto (tgt := 2) hx hb dQ_readPairHashes_22 rfl ?_
  refine lv_iload_n hx hb dQ_readPairHashes_2 rfl (lv_at hl 0 rfl) ?_
  refine lv_iconst (v := 4) hx hb dQ_readPairHashes_3 (by decide) ?_
  refine lv_icmp_ge (tgt := 25) hx hb dQ_readPairHashes_4 rfl (fun _ => ?_) (fun h => absurd h (by decide))
  exact bm_vret hQ hx hb hr hlk hM hS ⟨rfl, by rw [eM4, eM3, eM2, eM1]; simp only [bm_up_up], hz⟩ (Nat.le_refl _) (Nat.le_refl _) dQ_readPairHashes_25
