set_option maxHeartbeats 4000000 in
set_option maxRecDepth 100000 in
theorem bc_Q_make (l : Launch) (D : va_G) (ct : Nat → ClassId) (base : Nat) (ad : Nat → Nat) (M : bm_Map) (sz : Nat) (q n : Nat) (seed w : Int64) (ch fo so : Int32) (cf pt : Nat → Option Nat) (vA vC vE vB vX vY vP : Nat → Int64) (h0 : M q = some (.inr (5, [.ref (q + 1), .ref (q + 2), .int fo, .int so]))) (h1 : M (q + 1) = some (.inl (ct 5, 6, .inr (.inr (.inr (.inr cf)))))) (h2 : M (q + 2) = some (.inl (ct 5, 4, .inr (.inr (.inr (.inr pt)))))) (k0 : M (q + 3) = some (.inr (1, [.long (vA 0), .long (vC 0), .long (vE 0), .long (vB 0), .long (vX 0), .long (vY 0), .long (vP 0)]))) (k1 : M (q + 4) = some (.inr (1, [.long (vA 1), .long (vC 1), .long (vE 1), .long (vB 1), .long (vX 1), .long (vY 1), .long (vP 1)]))) (k2 : M (q + 5) = some (.inr (1, [.long (vA 2), .long (vC 2), .long (vE 2), .long (vB 2), .long (vX 2), .long (vY 2), .long (vP 2)]))) (k3 : M (q + 6) = some (.inr (1, [.long (vA 3), .long (vC 3), .long (vE 3), .long (vB 3), .long (vX 3), .long (vY 3), .long (vP 3)]))) (k4 : M (q + 7) = some (.inr (1, [.long (vA 4), .long (vC 4), .long (vE 4), .long (vB 4), .long (vX 4), .long (vY 4), .long (vP 4)]))) (k5 : M (q + 8) = some (.inr (1, [.long (vA 5), .long (vC 5), .long (vE 5), .long (vB 5), .long (vX 5), .long (vY 5), .long (vP 5)]))) (hcf : ∀ j, j < 6 → cf j = some (q + (3 + j))) (ht : bm_tt (bm_zqp seed w ch) = lN n) (hn : n < 2 ^ 59) : Met l yQ_make (bm_ws yQ_make cQ_make 7 none) { frames := 3, cells := 0, slots := 0, locals := 73 } (bm_Pre D ct base ad M sz [.ref q, .long seed, .long w, .int ch]) (bm_Post D base (fun v M1 n9 => v = none ∧ n9 = sz ∧ ∃ (wp : Nat → Option Nat) (o : Nat → Nat), M1 q = some (.inr (5, [.ref (q + 1), .ref (q + 2), .int (nI (bm_o1 n)), .int (nI (bm_o2 n))])) ∧ M1 (q + 2) = some (.inl (ct 5, 4, .inr (.inr (.inr (.inr wp))))) ∧ (∀ j, j < 6 → M1 (q + (3 + j)) = some (.inr (1, [.long (bm_ca seed j), .long (bm_cc seed j), .long (bm_ce seed j), .long (bm_zqb seed w ch j), .long (bm_zqx seed j), .long (bm_zqy seed w ch j), .long (bm_zqp seed w ch j)]))) ∧ (∀ i, i < 4 → wp i = some (q + (3 + o i))) ∧ (∀ i, i < 4 → o i < 6) ∧ (∀ i k, i < k → k < 4 → bm_lx (bm_zqp seed w ch) (o i) (o k)) ∧ (∀ x, x < 6 → ((¬ x = bm_o1 n ∧ ¬ x = bm_o2 n) ↔ ∃ i, i < 4 ∧ x = o i)) ∧ ∀ b, (b < q ∨ q + 9 ≤ b ∨ b = q + 1) → M1 b = M b)) 0 0 (bm_A base) := by
  refine bm_ofB (cc := cQ_make) (maxL := 7) (ret := none) (by decide +kernel) (Nat.le_of_ble_eq_true rfl) ?_
  intro vp ve s vm args below meth vc hx hb hr hlk hts hown hml hnm ls hl hz hM hG R Q hR hQ
  have hown : s.vm.findClass "BlindMint$Proposal" = some vm.cls := hown
  have hK := hG.K
  have hS : va_S (bm_A base) s.heap s.heap [] := va_S.rf
  have hl : lv_has ls 7 [(0, .ref q), (1, .long seed), (3, .long w), (5, .int ch)] := hl
  have hF : ∀ b, (b < q ∨ q + 9 ≤ b ∨ b = q + 1) → M b = M b := fun _ _ => rfl
  refine lv_iconst (v := 0) hx hb dQ_make_0 (by decide) ?_
  refine lv_istore hx hb dQ_make_1 hl (by decide) rfl (fun ls hl => ?_)
  have hl : lv_has ls 7 [(6, .int 0), (0, .ref q), (1, .long seed), (3, .long w), (5, .int ch)] := hl
  refine lv_iload hx hb dQ_make_3 (lv_at hl 0 rfl) ?_
  refine lv_bipush (v := 6) hx hb dQ_make_5 (by decide) ?_
  refine lv_icmp_ge (tgt := 39) hx hb dQ_make_7 rfl (fun h => absurd h (by decide)) (fun _ => ?_)
  refine lv_aload_n hx hb dQ_make_10 rfl (lv_at hl 1 rfl) ?_
  refine bm_get (ci := 5) (v := .ref (q + 1)) (C := "BlindMint$Proposal") (T := bt_Q) (N := 4) hx hb hts bu_Q hown hK hM h0 rfl 0 (by decide) (hts _ bw_71) (fun _ h9 => h9) rfl dQ_make_11 ?_
  refine lv_iload hx hb dQ_make_14 (lv_at hl 0 rfl) ?_
  refine bm_aald (v := .ref (q + 3)) hx hb hK hM 5 h1 rfl 0 (bm_ix_nI (k := 0) (by decide)) (by decide) (by rw [hcf 0 (by decide)]; rfl) dQ_make_16 ?_
  refine lv_lload_n hx hb dQ_make_17 rfl (lv_at hl 2 rfl) ?_
  refine lv_iload hx hb dQ_make_18 (lv_at hl 0 rfl) ?_
  refine lv_lload_n hx hb dQ_make_20 rfl (lv_at hl 3 rfl) ?_
  refine lv_iload hx hb dQ_make_21 (lv_at hl 4 rfl) ?_
  refine lv_iload hx hb dQ_make_23 (lv_at hl 0 rfl) ?_
  refine lv_ishr hx hb dQ_make_25 ?_
  refine lv_iconst (v := 1) hx hb dQ_make_26 (by decide) ?_
  refine lv_iand hx hb dQ_make_27 ?_
  refine lv_topi (fun t1 e_t1 => ?_)
  have e_t1 : t1 = bm_chb ch 0 := by rw [e_t1]; rfl
  subst e_t1
  refine lv_i2l hx hb dQ_make_28 rfl ?_
  refine lv_lxor hx hb dQ_make_29 ?_
  refine bm_callU (va_runV (As := [.long seed, .int 0, .long (w ^^^ ((bm_chb ch 0).toInt64))]) (rest := []) ⟨hx, hb, hml, hown, hts⟩ (bc_C_make l D ct base ad M sz (q + 3) 0 seed (w ^^^ (bm_chb ch 0).toInt64) (vA 0) (vC 0) (vE 0) (vB 0) (vX 0) (vY 0) (vP 0) k0 (by decide)) (cwV 3 hts (bm_goodV bw_327 bw_328 bw_329 bw_3 bw_330) rfl rfl rfl (by decide +kernel) (by rw [← hR]; exact ⟨Nat.le_of_ble_eq_true rfl, Nat.le_of_ble_eq_true rfl⟩)) (bm_preV hM hG hS hz k0 rfl) rfl rfl hl.1 rfl (lv_room (Nat.le_of_ble_eq_true rfl)) dQ_make_30 (by rw [← hR]; exact ⟨Nat.le_of_ble_eq_true rfl, Nat.le_of_ble_eq_true rfl⟩)) hS (fun H locs hz hM hS => ?_)
  obtain ⟨M2, eM2⟩ : ∃ X, X = bm_up M (q + 3) (.inr (1, [.long (bm_ca seed 0), .long (bm_cc seed 0), .long (bm_ce seed 0), .long (bm_zqb seed w ch 0), .long (bm_zqx seed 0), .long (bm_zqy seed w ch 0), .long (bm_zqp seed w ch 0)])) := ⟨_, rfl⟩
  replace hM : bm_M D base M2 H := by rw [eM2]; exact hM
  replace h0 : M2 q = some (.inr (5, [.ref (q + 1), .ref (q + 2), .int fo, .int so])) := by rw [eM2, bm_up_ne (bm_ne0 (k := 2))]; exact h0
  replace h1 : M2 (q + 1) = some (.inl (ct 5, 6, .inr (.inr (.inr (.inr cf))))) := by rw [eM2, bm_up_ne (bm_nea (by decide))]; exact h1
  replace h2 : M2 (q + 2) = some (.inl (ct 5, 4, .inr (.inr (.inr (.inr pt))))) := by rw [eM2, bm_up_ne (bm_nea (by decide))]; exact h2
  replace k1 : M2 (q + 4) = some (.inr (1, [.long (vA 1), .long (vC 1), .long (vE 1), .long (vB 1), .long (vX 1), .long (vY 1), .long (vP 1)])) := by rw [eM2, bm_up_ne (bm_nea (by decide))]; exact k1
  replace k2 : M2 (q + 5) = some (.inr (1, [.long (vA 2), .long (vC 2), .long (vE 2), .long (vB 2), .long (vX 2), .long (vY 2), .long (vP 2)])) := by rw [eM2, bm_up_ne (bm_nea (by decide))]; exact k2
  replace k3 : M2 (q + 6) = some (.inr (1, [.long (vA 3), .long (vC 3), .long (vE 3), .long (vB 3), .long (vX 3), .long (vY 3), .long (vP 3)])) := by rw [eM2, bm_up_ne (bm_nea (by decide))]; exact k3
  replace k4 : M2 (q + 7) = some (.inr (1, [.long (vA 4), .long (vC 4), .long (vE 4), .long (vB 4), .long (vX 4), .long (vY 4), .long (vP 4)])) := by rw [eM2, bm_up_ne (bm_nea (by decide))]; exact k4
  replace k5 : M2 (q + 8) = some (.inr (1, [.long (vA 5), .long (vC 5), .long (vE 5), .long (vB 5), .long (vX 5), .long (vY 5), .long (vP 5)])) := by rw [eM2, bm_up_ne (bm_nea (by decide))]; exact k5
  replace k0 : M2 (q + 3) = some (.inr (1, [.long (bm_ca seed 0), .long (bm_cc seed 0), .long (bm_ce seed 0), .long (bm_zqb seed w ch 0), .long (bm_zqx seed 0), .long (bm_zqy seed w ch 0), .long (bm_zqp seed w ch 0)])) := by rw [eM2]; exact bm_up_self _ _ _
  replace hF : ∀ b, (b < q ∨ q + 9 ≤ b ∨ b = q + 1) → M2 b = M b := fun b hb9 => by rw [eM2]; exact (bm_up_ne (by omega)).trans (hF b hb9)
  clear eM2
  refine lv_iinc (v := 1) (k := 0) hx hb dQ_make_33 hl rfl (by decide) (by decide) rfl (fun ls hl => ?_)
  have hl : lv_has ls 7 [(6, .int 1), (0, .ref q), (1, .long seed), (3, .long w), (5, .int ch)] := hl
  refine lv_goto (tgt := 3) hx hb dQ_make_36 rfl ?_
  refine lv_iload hx hb dQ_make_3 (lv_at hl 0 rfl) ?_
  refine lv_bipush (v := 6) hx hb dQ_make_5 (by decide) ?_
  refine lv_icmp_ge (tgt := 39) hx hb dQ_make_7 rfl (fun h => absurd h (by decide)) (fun _ => ?_)
  refine lv_aload_n hx hb dQ_make_10 rfl (lv_at hl 1 rfl) ?_
  refine bm_get (ci := 5) (v := .ref (q + 1)) (C := "BlindMint$Proposal") (T := bt_Q) (N := 4) hx hb hts bu_Q hown hK hM h0 rfl 0 (by decide) (hts _ bw_71) (fun _ h9 => h9) rfl dQ_make_11 ?_
  refine lv_iload hx hb dQ_make_14 (lv_at hl 0 rfl) ?_
  refine bm_aald (v := .ref (q + 4)) hx hb hK hM 5 h1 rfl 1 (bm_ix_nI (k := 1) (by decide)) (by decide) (by rw [hcf 1 (by decide)]; rfl) dQ_make_16 ?_
  refine lv_lload_n hx hb dQ_make_17 rfl (lv_at hl 2 rfl) ?_
  refine lv_iload hx hb dQ_make_18 (lv_at hl 0 rfl) ?_
  refine lv_lload_n hx hb dQ_make_20 rfl (lv_at hl 3 rfl) ?_
  refine lv_iload hx hb dQ_make_21 (lv_at hl 4 rfl) ?_
  refine lv_iload hx hb dQ_make_23 (lv_at hl 0 rfl) ?_
  refine lv_ishr hx hb dQ_make_25 ?_
  refine lv_iconst (v := 1) hx hb dQ_make_26 (by decide) ?_
  refine lv_iand hx hb dQ_make_27 ?_
  refine lv_topi (fun t3 e_t3 => ?_)
  have e_t3 : t3 = bm_chb ch 1 := by rw [e_t3]; rfl
  subst e_t3
  refine lv_i2l hx hb dQ_make_28 rfl ?_
  refine lv_lxor hx hb dQ_make_29 ?_
  refine bm_callU (va_runV (As := [.long seed, .int 1, .long (w ^^^ ((bm_chb ch 1).toInt64))]) (rest := []) ⟨hx, hb, hml, hown, hts⟩ (bc_C_make l D ct base ad M2 sz (q + 4) 1 seed (w ^^^ (bm_chb ch 1).toInt64) (vA 1) (vC 1) (vE 1) (vB 1) (vX 1) (vY 1) (vP 1) k1 (by decide)) (cwV 3 hts (bm_goodV bw_327 bw_328 bw_329 bw_3 bw_330) rfl rfl rfl (by decide +kernel) (by rw [← hR]; exact ⟨Nat.le_of_ble_eq_true rfl, Nat.le_of_ble_eq_true rfl⟩)) (bm_preV hM hG hS hz k1 rfl) rfl rfl hl.1 rfl (lv_room (Nat.le_of_ble_eq_true rfl)) dQ_make_30 (by rw [← hR]; exact ⟨Nat.le_of_ble_eq_true rfl, Nat.le_of_ble_eq_true rfl⟩)) hS (fun H locs hz hM hS => ?_)
  obtain ⟨M4, eM4⟩ : ∃ X, X = bm_up M2 (q + 4) (.inr (1, [.long (bm_ca seed 1), .long (bm_cc seed 1), .long (bm_ce seed 1), .long (bm_zqb seed w ch 1), .long (bm_zqx seed 1), .long (bm_zqy seed w ch 1), .long (bm_zqp seed w ch 1)])) := ⟨_, rfl⟩
  replace hM : bm_M D base M4 H := by rw [eM4]; exact hM
  replace h0 : M4 q = some (.inr (5, [.ref (q + 1), .ref (q + 2), .int fo, .int so])) := by rw [eM4, bm_up_ne (bm_ne0 (k := 3))]; exact h0
  replace h1 : M4 (q + 1) = some (.inl (ct 5, 6, .inr (.inr (.inr (.inr cf))))) := by rw [eM4, bm_up_ne (bm_nea (by decide))]; exact h1
  replace h2 : M4 (q + 2) = some (.inl (ct 5, 4, .inr (.inr (.inr (.inr pt))))) := by rw [eM4, bm_up_ne (bm_nea (by decide))]; exact h2
  replace k0 : M4 (q + 3) = some (.inr (1, [.long (bm_ca seed 0), .long (bm_cc seed 0), .long (bm_ce seed 0), .long (bm_zqb seed w ch 0), .long (bm_zqx seed 0), .long (bm_zqy seed w ch 0), .long (bm_zqp seed w ch 0)])) := by rw [eM4, bm_up_ne (bm_nea (by decide))]; exact k0
  replace k2 : M4 (q + 5) = some (.inr (1, [.long (vA 2), .long (vC 2), .long (vE 2), .long (vB 2), .long (vX 2), .long (vY 2), .long (vP 2)])) := by rw [eM4, bm_up_ne (bm_nea (by decide))]; exact k2
  replace k3 : M4 (q + 6) = some (.inr (1, [.long (vA 3), .long (vC 3), .long (vE 3), .long (vB 3), .long (vX 3), .long (vY 3), .long (vP 3)])) := by rw [eM4, bm_up_ne (bm_nea (by decide))]; exact k3
  replace k4 : M4 (q + 7) = some (.inr (1, [.long (vA 4), .long (vC 4), .long (vE 4), .long (vB 4), .long (vX 4), .long (vY 4), .long (vP 4)])) := by rw [eM4, bm_up_ne (bm_nea (by decide))]; exact k4
  replace k5 : M4 (q + 8) = some (.inr (1, [.long (vA 5), .long (vC 5), .long (vE 5), .long (vB 5), .long (vX 5), .long (vY 5), .long (vP 5)])) := by rw [eM4, bm_up_ne (bm_nea (by decide))]; exact k5
  replace k1 : M4 (q + 4) = some (.inr (1, [.long (bm_ca seed 1), .long (bm_cc seed 1), .long (bm_ce seed 1), .long (bm_zqb seed w ch 1), .long (bm_zqx seed 1), .long (bm_zqy seed w ch 1), .long (bm_zqp seed w ch 1)])) := by rw [eM4]; exact bm_up_self _ _ _
  replace hF : ∀ b, (b < q ∨ q + 9 ≤ b ∨ b = q + 1) → M4 b = M b := fun b hb9 => by rw [eM4]; exact (bm_up_ne (by omega)).trans (hF b hb9)
  clear eM4
  refine lv_iinc (v := 2) (k := 0) hx hb dQ_make_33 hl rfl (by decide) (by decide) rfl (fun ls hl => ?_)
  have hl : lv_has ls 7 [(6, .int 2), (0, .ref q), (1, .long seed), (3, .long w), (5, .int ch)] := hl
  refine lv_goto (tgt := 3) hx hb dQ_make_36 rfl ?_
  refine lv_iload hx hb dQ_make_3 (lv_at hl 0 rfl) ?_
  refine lv_bipush (v := 6) hx hb dQ_make_5 (by decide) ?_
  refine lv_icmp_ge (tgt := 39) hx hb dQ_make_7 rfl (fun h => absurd h (by decide)) (fun _ => ?_)
  refine lv_aload_n hx hb dQ_make_10 rfl (lv_at hl 1 rfl) ?_
  refine bm_get (ci := 5) (v := .ref (q + 1)) (C := "BlindMint$Proposal") (T := bt_Q) (N := 4) hx hb hts bu_Q hown hK hM h0 rfl 0 (by decide) (hts _ bw_71) (fun _ h9 => h9) rfl dQ_make_11 ?_
  refine lv_iload hx hb dQ_make_14 (lv_at hl 0 rfl) ?_
  refine bm_aald (v := .ref (q + 5)) hx hb hK hM 5 h1 rfl 2 (bm_ix_nI (k := 2) (by decide)) (by decide) (by rw [hcf 2 (by decide)]; rfl) dQ_make_16 ?_
  refine lv_lload_n hx hb dQ_make_17 rfl (lv_at hl 2 rfl) ?_
  refine lv_iload hx hb dQ_make_18 (lv_at hl 0 rfl) ?_
  refine lv_lload_n hx hb dQ_make_20 rfl (lv_at hl 3 rfl) ?_
  refine lv_iload hx hb dQ_make_21 (lv_at hl 4 rfl) ?_
  refine lv_iload hx hb dQ_make_23 (lv_at hl 0 rfl) ?_
  refine lv_ishr hx hb dQ_make_25 ?_
  refine lv_iconst (v := 1) hx hb dQ_make_26 (by decide) ?_
  refine lv_iand hx hb dQ_make_27 ?_
  refine lv_topi (fun t5 e_t5 => ?_)
  have e_t5 : t5 = bm_chb ch 2 := by rw [e_t5]; rfl
  subst e_t5
  refine lv_i2l hx hb dQ_make_28 rfl ?_
  refine lv_lxor hx hb dQ_make_29 ?_
  refine bm_callU (va_runV (As := [.long seed, .int 2, .long (w ^^^ ((bm_chb ch 2).toInt64))]) (rest := []) ⟨hx, hb, hml, hown, hts⟩ (bc_C_make l D ct base ad M4 sz (q + 5) 2 seed (w ^^^ (bm_chb ch 2).toInt64) (vA 2) (vC 2) (vE 2) (vB 2) (vX 2) (vY 2) (vP 2) k2 (by decide)) (cwV 3 hts (bm_goodV bw_327 bw_328 bw_329 bw_3 bw_330) rfl rfl rfl (by decide +kernel) (by rw [← hR]; exact ⟨Nat.le_of_ble_eq_true rfl, Nat.le_of_ble_eq_true rfl⟩)) (bm_preV hM hG hS hz k2 rfl) rfl rfl hl.1 rfl (lv_room (Nat.le_of_ble_eq_true rfl)) dQ_make_30 (by rw [← hR]; exact ⟨Nat.le_of_ble_eq_true rfl, Nat.le_of_ble_eq_true rfl⟩)) hS (fun H locs hz hM hS => ?_)
  obtain ⟨M6, eM6⟩ : ∃ X, X = bm_up M4 (q + 5) (.inr (1, [.long (bm_ca seed 2), .long (bm_cc seed 2), .long (bm_ce seed 2), .long (bm_zqb seed w ch 2), .long (bm_zqx seed 2), .long (bm_zqy seed w ch 2), .long (bm_zqp seed w ch 2)])) := ⟨_, rfl⟩
  replace hM : bm_M D base M6 H := by rw [eM6]; exact hM
  replace h0 : M6 q = some (.inr (5, [.ref (q + 1), .ref (q + 2), .int fo, .int so])) := by rw [eM6, bm_up_ne (bm_ne0 (k := 4))]; exact h0
  replace h1 : M6 (q + 1) = some (.inl (ct 5, 6, .inr (.inr (.inr (.inr cf))))) := by rw [eM6, bm_up_ne (bm_nea (by decide))]; exact h1
  replace h2 : M6 (q + 2) = some (.inl (ct 5, 4, .inr (.inr (.inr (.inr pt))))) := by rw [eM6, bm_up_ne (bm_nea (by decide))]; exact h2
  replace k0 : M6 (q + 3) = some (.inr (1, [.long (bm_ca seed 0), .long (bm_cc seed 0), .long (bm_ce seed 0), .long (bm_zqb seed w ch 0), .long (bm_zqx seed 0), .long (bm_zqy seed w ch 0), .long (bm_zqp seed w ch 0)])) := by rw [eM6, bm_up_ne (bm_nea (by decide))]; exact k0
  replace k1 : M6 (q + 4) = some (.inr (1, [.long (bm_ca seed 1), .long (bm_cc seed 1), .long (bm_ce seed 1), .long (bm_zqb seed w ch 1), .long (bm_zqx seed 1), .long (bm_zqy seed w ch 1), .long (bm_zqp seed w ch 1)])) := by rw [eM6, bm_up_ne (bm_nea (by decide))]; exact k1
  replace k3 : M6 (q + 6) = some (.inr (1, [.long (vA 3), .long (vC 3), .long (vE 3), .long (vB 3), .long (vX 3), .long (vY 3), .long (vP 3)])) := by rw [eM6, bm_up_ne (bm_nea (by decide))]; exact k3
  replace k4 : M6 (q + 7) = some (.inr (1, [.long (vA 4), .long (vC 4), .long (vE 4), .long (vB 4), .long (vX 4), .long (vY 4), .long (vP 4)])) := by rw [eM6, bm_up_ne (bm_nea (by decide))]; exact k4
  replace k5 : M6 (q + 8) = some (.inr (1, [.long (vA 5), .long (vC 5), .long (vE 5), .long (vB 5), .long (vX 5), .long (vY 5), .long (vP 5)])) := by rw [eM6, bm_up_ne (bm_nea (by decide))]; exact k5
  replace k2 : M6 (q + 5) = some (.inr (1, [.long (bm_ca seed 2), .long (bm_cc seed 2), .long (bm_ce seed 2), .long (bm_zqb seed w ch 2), .long (bm_zqx seed 2), .long (bm_zqy seed w ch 2), .long (bm_zqp seed w ch 2)])) := by rw [eM6]; exact bm_up_self _ _ _
  replace hF : ∀ b, (b < q ∨ q + 9 ≤ b ∨ b = q + 1) → M6 b = M b := fun b hb9 => by rw [eM6]; exact (bm_up_ne (by omega)).trans (hF b hb9)
  clear eM6
  refine lv_iinc (v := 3) (k := 0) hx hb dQ_make_33 hl rfl (by decide) (by decide) rfl (fun ls hl => ?_)
  have hl : lv_has ls 7 [(6, .int 3), (0, .ref q), (1, .long seed), (3, .long w), (5, .int ch)] := hl
  refine lv_goto (tgt := 3) hx hb dQ_make_36 rfl ?_
  refine lv_iload hx hb dQ_make_3 (lv_at hl 0 rfl) ?_
  refine lv_bipush (v := 6) hx hb dQ_make_5 (by decide) ?_
  refine lv_icmp_ge (tgt := 39) hx hb dQ_make_7 rfl (fun h => absurd h (by decide)) (fun _ => ?_)
  refine lv_aload_n hx hb dQ_make_10 rfl (lv_at hl 1 rfl) ?_
  refine bm_get (ci := 5) (v := .ref (q + 1)) (C := "BlindMint$Proposal") (T := bt_Q) (N := 4) hx hb hts bu_Q hown hK hM h0 rfl 0 (by decide) (hts _ bw_71) (fun _ h9 => h9) rfl dQ_make_11 ?_
  refine lv_iload hx hb dQ_make_14 (lv_at hl 0 rfl) ?_
  refine bm_aald (v := .ref (q + 6)) hx hb hK hM 5 h1 rfl 3 (bm_ix_nI (k := 3) (by decide)) (by decide) (by rw [hcf 3 (by decide)]; rfl) dQ_make_16 ?_
  refine lv_lload_n hx hb dQ_make_17 rfl (lv_at hl 2 rfl) ?_
  refine lv_iload hx hb dQ_make_18 (lv_at hl 0 rfl) ?_
  refine lv_lload_n hx hb dQ_make_20 rfl (lv_at hl 3 rfl) ?_
  refine lv_iload hx hb dQ_make_21 (lv_at hl 4 rfl) ?_
  refine lv_iload hx hb dQ_make_23 (lv_at hl 0 rfl) ?_
  refine lv_ishr hx hb dQ_make_25 ?_
  refine lv_iconst (v := 1) hx hb dQ_make_26 (by decide) ?_
  refine lv_iand hx hb dQ_make_27 ?_
  refine lv_topi (fun t7 e_t7 => ?_)
  have e_t7 : t7 = bm_chb ch 3 := by rw [e_t7]; rfl
  subst e_t7
  refine lv_i2l hx hb dQ_make_28 rfl ?_
  refine lv_lxor hx hb dQ_make_29 ?_
  refine bm_callU (va_runV (As := [.long seed, .int 3, .long (w ^^^ ((bm_chb ch 3).toInt64))]) (rest := []) ⟨hx, hb, hml, hown, hts⟩ (bc_C_make l D ct base ad M6 sz (q + 6) 3 seed (w ^^^ (bm_chb ch 3).toInt64) (vA 3) (vC 3) (vE 3) (vB 3) (vX 3) (vY 3) (vP 3) k3 (by decide)) (cwV 3 hts (bm_goodV bw_327 bw_328 bw_329 bw_3 bw_330) rfl rfl rfl (by decide +kernel) (by rw [← hR]; exact ⟨Nat.le_of_ble_eq_true rfl, Nat.le_of_ble_eq_true rfl⟩)) (bm_preV hM hG hS hz k3 rfl) rfl rfl hl.1 rfl (lv_room (Nat.le_of_ble_eq_true rfl)) dQ_make_30 (by rw [← hR]; exact ⟨Nat.le_of_ble_eq_true rfl, Nat.le_of_ble_eq_true rfl⟩)) hS (fun H locs hz hM hS => ?_)
  obtain ⟨M8, eM8⟩ : ∃ X, X = bm_up M6 (q + 6) (.inr (1, [.long (bm_ca seed 3), .long (bm_cc seed 3), .long (bm_ce seed 3), .long (bm_zqb seed w ch 3), .long (bm_zqx seed 3), .long (bm_zqy seed w ch 3), .long (bm_zqp seed w ch 3)])) := ⟨_, rfl⟩
  replace hM : bm_M D base M8 H := by rw [eM8]; exact hM
  replace h0 : M8 q = some (.inr (5, [.ref (q + 1), .ref (q + 2), .int fo, .int so])) := by rw [eM8, bm_up_ne (bm_ne0 (k := 5))]; exact h0
  replace h1 : M8 (q + 1) = some (.inl (ct 5, 6, .inr (.inr (.inr (.inr cf))))) := by rw [eM8, bm_up_ne (bm_nea (by decide))]; exact h1
  replace h2 : M8 (q + 2) = some (.inl (ct 5, 4, .inr (.inr (.inr (.inr pt))))) := by rw [eM8, bm_up_ne (bm_nea (by decide))]; exact h2
  replace k0 : M8 (q + 3) = some (.inr (1, [.long (bm_ca seed 0), .long (bm_cc seed 0), .long (bm_ce seed 0), .long (bm_zqb seed w ch 0), .long (bm_zqx seed 0), .long (bm_zqy seed w ch 0), .long (bm_zqp seed w ch 0)])) := by rw [eM8, bm_up_ne (bm_nea (by decide))]; exact k0
  replace k1 : M8 (q + 4) = some (.inr (1, [.long (bm_ca seed 1), .long (bm_cc seed 1), .long (bm_ce seed 1), .long (bm_zqb seed w ch 1), .long (bm_zqx seed 1), .long (bm_zqy seed w ch 1), .long (bm_zqp seed w ch 1)])) := by rw [eM8, bm_up_ne (bm_nea (by decide))]; exact k1
  replace k2 : M8 (q + 5) = some (.inr (1, [.long (bm_ca seed 2), .long (bm_cc seed 2), .long (bm_ce seed 2), .long (bm_zqb seed w ch 2), .long (bm_zqx seed 2), .long (bm_zqy seed w ch 2), .long (bm_zqp seed w ch 2)])) := by rw [eM8, bm_up_ne (bm_nea (by decide))]; exact k2
  replace k4 : M8 (q + 7) = some (.inr (1, [.long (vA 4), .long (vC 4), .long (vE 4), .long (vB 4), .long (vX 4), .long (vY 4), .long (vP 4)])) := by rw [eM8, bm_up_ne (bm_nea (by decide))]; exact k4
  replace k5 : M8 (q + 8) = some (.inr (1, [.long (vA 5), .long (vC 5), .long (vE 5), .long (vB 5), .long (vX 5), .long (vY 5), .long (vP 5)])) := by rw [eM8, bm_up_ne (bm_nea (by decide))]; exact k5
  replace k3 : M8 (q + 6) = some (.inr (1, [.long (bm_ca seed 3), .long (bm_cc seed 3), .long (bm_ce seed 3), .long (bm_zqb seed w ch 3), .long (bm_zqx seed 3), .long (bm_zqy seed w ch 3), .long (bm_zqp seed w ch 3)])) := by rw [eM8]; exact bm_up_self _ _ _
  replace hF : ∀ b, (b < q ∨ q + 9 ≤ b ∨ b = q + 1) → M8 b = M b := fun b hb9 => by rw [eM8]; exact (bm_up_ne (by omega)).trans (hF b hb9)
  clear eM8
  refine lv_iinc (v := 4) (k := 0) hx hb dQ_make_33 hl rfl (by decide) (by decide) rfl (fun ls hl => ?_)
  have hl : lv_has ls 7 [(6, .int 4), (0, .ref q), (1, .long seed), (3, .long w), (5, .int ch)] := hl
  refine lv_goto (tgt := 3) hx hb dQ_make_36 rfl ?_
  refine lv_iload hx hb dQ_make_3 (lv_at hl 0 rfl) ?_
  refine lv_bipush (v := 6) hx hb dQ_make_5 (by decide) ?_
  refine lv_icmp_ge (tgt := 39) hx hb dQ_make_7 rfl (fun h => absurd h (by decide)) (fun _ => ?_)
  refine lv_aload_n hx hb dQ_make_10 rfl (lv_at hl 1 rfl) ?_
  refine bm_get (ci := 5) (v := .ref (q + 1)) (C := "BlindMint$Proposal") (T := bt_Q) (N := 4) hx hb hts bu_Q hown hK hM h0 rfl 0 (by decide) (hts _ bw_71) (fun _ h9 => h9) rfl dQ_make_11 ?_
  refine lv_iload hx hb dQ_make_14 (lv_at hl 0 rfl) ?_
  refine bm_aald (v := .ref (q + 7)) hx hb hK hM 5 h1 rfl 4 (bm_ix_nI (k := 4) (by decide)) (by decide) (by rw [hcf 4 (by decide)]; rfl) dQ_make_16 ?_
  refine lv_lload_n hx hb dQ_make_17 rfl (lv_at hl 2 rfl) ?_
  refine lv_iload hx hb dQ_make_18 (lv_at hl 0 rfl) ?_
  refine lv_lload_n hx hb dQ_make_20 rfl (lv_at hl 3 rfl) ?_
  refine lv_iload hx hb dQ_make_21 (lv_at hl 4 rfl) ?_
  refine lv_iload hx hb dQ_make_23 (lv_at hl 0 rfl) ?_
  refine lv_ishr hx hb dQ_make_25 ?_
  refine lv_iconst (v := 1) hx hb dQ_make_26 (by decide) ?_
  refine lv_iand hx hb dQ_make_27 ?_
  refine lv_topi (fun t9 e_t9 => ?_)
  have e_t9 : t9 = bm_chb ch 4 := by rw [e_t9]; rfl
  subst e_t9
  refine lv_i2l hx hb dQ_make_28 rfl ?_
  refine lv_lxor hx hb dQ_make_29 ?_
  refine bm_callU (va_runV (As := [.long seed, .int 4, .long (w ^^^ ((bm_chb ch 4).toInt64))]) (rest := []) ⟨hx, hb, hml, hown, hts⟩ (bc_C_make l D ct base ad M8 sz (q + 7) 4 seed (w ^^^ (bm_chb ch 4).toInt64) (vA 4) (vC 4) (vE 4) (vB 4) (vX 4) (vY 4) (vP 4) k4 (by decide)) (cwV 3 hts (bm_goodV bw_327 bw_328 bw_329 bw_3 bw_330) rfl rfl rfl (by decide +kernel) (by rw [← hR]; exact ⟨Nat.le_of_ble_eq_true rfl, Nat.le_of_ble_eq_true rfl⟩)) (bm_preV hM hG hS hz k4 rfl) rfl rfl hl.1 rfl (lv_room (Nat.le_of_ble_eq_true rfl)) dQ_make_30 (by rw [← hR]; exact ⟨Nat.le_of_ble_eq_true rfl, Nat.le_of_ble_eq_true rfl⟩)) hS (fun H locs hz hM hS => ?_)
  obtain ⟨M10, eM10⟩ : ∃ X, X = bm_up M8 (q + 7) (.inr (1, [.long (bm_ca seed 4), .long (bm_cc seed 4), .long (bm_ce seed 4), .long (bm_zqb seed w ch 4), .long (bm_zqx seed 4), .long (bm_zqy seed w ch 4), .long (bm_zqp seed w ch 4)])) := ⟨_, rfl⟩
  replace hM : bm_M D base M10 H := by rw [eM10]; exact hM
  replace h0 : M10 q = some (.inr (5, [.ref (q + 1), .ref (q + 2), .int fo, .int so])) := by rw [eM10, bm_up_ne (bm_ne0 (k := 6))]; exact h0
  replace h1 : M10 (q + 1) = some (.inl (ct 5, 6, .inr (.inr (.inr (.inr cf))))) := by rw [eM10, bm_up_ne (bm_nea (by decide))]; exact h1
  replace h2 : M10 (q + 2) = some (.inl (ct 5, 4, .inr (.inr (.inr (.inr pt))))) := by rw [eM10, bm_up_ne (bm_nea (by decide))]; exact h2
  replace k0 : M10 (q + 3) = some (.inr (1, [.long (bm_ca seed 0), .long (bm_cc seed 0), .long (bm_ce seed 0), .long (bm_zqb seed w ch 0), .long (bm_zqx seed 0), .long (bm_zqy seed w ch 0), .long (bm_zqp seed w ch 0)])) := by rw [eM10, bm_up_ne (bm_nea (by decide))]; exact k0
  replace k1 : M10 (q + 4) = some (.inr (1, [.long (bm_ca seed 1), .long (bm_cc seed 1), .long (bm_ce seed 1), .long (bm_zqb seed w ch 1), .long (bm_zqx seed 1), .long (bm_zqy seed w ch 1), .long (bm_zqp seed w ch 1)])) := by rw [eM10, bm_up_ne (bm_nea (by decide))]; exact k1
  replace k2 : M10 (q + 5) = some (.inr (1, [.long (bm_ca seed 2), .long (bm_cc seed 2), .long (bm_ce seed 2), .long (bm_zqb seed w ch 2), .long (bm_zqx seed 2), .long (bm_zqy seed w ch 2), .long (bm_zqp seed w ch 2)])) := by rw [eM10, bm_up_ne (bm_nea (by decide))]; exact k2
  replace k3 : M10 (q + 6) = some (.inr (1, [.long (bm_ca seed 3), .long (bm_cc seed 3), .long (bm_ce seed 3), .long (bm_zqb seed w ch 3), .long (bm_zqx seed 3), .long (bm_zqy seed w ch 3), .long (bm_zqp seed w ch 3)])) := by rw [eM10, bm_up_ne (bm_nea (by decide))]; exact k3
  replace k5 : M10 (q + 8) = some (.inr (1, [.long (vA 5), .long (vC 5), .long (vE 5), .long (vB 5), .long (vX 5), .long (vY 5), .long (vP 5)])) := by rw [eM10, bm_up_ne (bm_nea (by decide))]; exact k5
  replace k4 : M10 (q + 7) = some (.inr (1, [.long (bm_ca seed 4), .long (bm_cc seed 4), .long (bm_ce seed 4), .long (bm_zqb seed w ch 4), .long (bm_zqx seed 4), .long (bm_zqy seed w ch 4), .long (bm_zqp seed w ch 4)])) := by rw [eM10]; exact bm_up_self _ _ _
  replace hF : ∀ b, (b < q ∨ q + 9 ≤ b ∨ b = q + 1) → M10 b = M b := fun b hb9 => by rw [eM10]; exact (bm_up_ne (by omega)).trans (hF b hb9)
  clear eM10
  refine lv_iinc (v := 5) (k := 0) hx hb dQ_make_33 hl rfl (by decide) (by decide) rfl (fun ls hl => ?_)
  have hl : lv_has ls 7 [(6, .int 5), (0, .ref q), (1, .long seed), (3, .long w), (5, .int ch)] := hl
  refine lv_goto (tgt := 3) hx hb dQ_make_36 rfl ?_
  refine lv_iload hx hb dQ_make_3 (lv_at hl 0 rfl) ?_
  refine lv_bipush (v := 6) hx hb dQ_make_5 (by decide) ?_
  refine lv_icmp_ge (tgt := 39) hx hb dQ_make_7 rfl (fun h => absurd h (by decide)) (fun _ => ?_)
  refine lv_aload_n hx hb dQ_make_10 rfl (lv_at hl 1 rfl) ?_
  refine bm_get (ci := 5) (v := .ref (q + 1)) (C := "BlindMint$Proposal") (T := bt_Q) (N := 4) hx hb hts bu_Q hown hK hM h0 rfl 0 (by decide) (hts _ bw_71) (fun _ h9 => h9) rfl dQ_make_11 ?_
  refine lv_iload hx hb dQ_make_14 (lv_at hl 0 rfl) ?_
  refine bm_aald (v := .ref (q + 8)) hx hb hK hM 5 h1 rfl 5 (bm_ix_nI (k := 5) (by decide)) (by decide) (by rw [hcf 5 (by decide)]; rfl) dQ_make_16 ?_
  refine lv_lload_n hx hb dQ_make_17 rfl (lv_at hl 2 rfl) ?_
  refine lv_iload hx hb dQ_make_18 (lv_at hl 0 rfl) ?_
  refine lv_lload_n hx hb dQ_make_20 rfl (lv_at hl 3 rfl) ?_
  refine lv_iload hx hb dQ_make_21 (lv_at hl 4 rfl) ?_
  refine lv_iload hx hb dQ_make_23 (lv_at hl 0 rfl) ?_
  refine lv_ishr hx hb dQ_make_25 ?_
  refine lv_iconst (v := 1) hx hb dQ_make_26 (by decide) ?_
  refine lv_iand hx hb dQ_make_27 ?_
  refine lv_topi (fun t11 e_t11 => ?_)
  have e_t11 : t11 = bm_chb ch 5 := by rw [e_t11]; rfl
  subst e_t11
  refine lv_i2l hx hb dQ_make_28 rfl ?_
  refine lv_lxor hx hb dQ_make_29 ?_
  refine bm_callU (va_runV (As := [.long seed, .int 5, .long (w ^^^ ((bm_chb ch 5).toInt64))]) (rest := []) ⟨hx, hb, hml, hown, hts⟩ (bc_C_make l D ct base ad M10 sz (q + 8) 5 seed (w ^^^ (bm_chb ch 5).toInt64) (vA 5) (vC 5) (vE 5) (vB 5) (vX 5) (vY 5) (vP 5) k5 (by decide)) (cwV 3 hts (bm_goodV bw_327 bw_328 bw_329 bw_3 bw_330) rfl rfl rfl (by decide +kernel) (by rw [← hR]; exact ⟨Nat.le_of_ble_eq_true rfl, Nat.le_of_ble_eq_true rfl⟩)) (bm_preV hM hG hS hz k5 rfl) rfl rfl hl.1 rfl (lv_room (Nat.le_of_ble_eq_true rfl)) dQ_make_30 (by rw [← hR]; exact ⟨Nat.le_of_ble_eq_true rfl, Nat.le_of_ble_eq_true rfl⟩)) hS (fun H locs hz hM hS => ?_)
  obtain ⟨M12, eM12⟩ : ∃ X, X = bm_up M10 (q + 8) (.inr (1, [.long (bm_ca seed 5), .long (bm_cc seed 5), .long (bm_ce seed 5), .long (bm_zqb seed w ch 5), .long (bm_zqx seed 5), .long (bm_zqy seed w ch 5), .long (bm_zqp seed w ch 5)])) := ⟨_, rfl⟩
  replace hM : bm_M D base M12 H := by rw [eM12]; exact hM
  replace h0 : M12 q = some (.inr (5, [.ref (q + 1), .ref (q + 2), .int fo, .int so])) := by rw [eM12, bm_up_ne (bm_ne0 (k := 7))]; exact h0
  replace h1 : M12 (q + 1) = some (.inl (ct 5, 6, .inr (.inr (.inr (.inr cf))))) := by rw [eM12, bm_up_ne (bm_nea (by decide))]; exact h1
  replace h2 : M12 (q + 2) = some (.inl (ct 5, 4, .inr (.inr (.inr (.inr pt))))) := by rw [eM12, bm_up_ne (bm_nea (by decide))]; exact h2
  replace k0 : M12 (q + 3) = some (.inr (1, [.long (bm_ca seed 0), .long (bm_cc seed 0), .long (bm_ce seed 0), .long (bm_zqb seed w ch 0), .long (bm_zqx seed 0), .long (bm_zqy seed w ch 0), .long (bm_zqp seed w ch 0)])) := by rw [eM12, bm_up_ne (bm_nea (by decide))]; exact k0
  replace k1 : M12 (q + 4) = some (.inr (1, [.long (bm_ca seed 1), .long (bm_cc seed 1), .long (bm_ce seed 1), .long (bm_zqb seed w ch 1), .long (bm_zqx seed 1), .long (bm_zqy seed w ch 1), .long (bm_zqp seed w ch 1)])) := by rw [eM12, bm_up_ne (bm_nea (by decide))]; exact k1
  replace k2 : M12 (q + 5) = some (.inr (1, [.long (bm_ca seed 2), .long (bm_cc seed 2), .long (bm_ce seed 2), .long (bm_zqb seed w ch 2), .long (bm_zqx seed 2), .long (bm_zqy seed w ch 2), .long (bm_zqp seed w ch 2)])) := by rw [eM12, bm_up_ne (bm_nea (by decide))]; exact k2
  replace k3 : M12 (q + 6) = some (.inr (1, [.long (bm_ca seed 3), .long (bm_cc seed 3), .long (bm_ce seed 3), .long (bm_zqb seed w ch 3), .long (bm_zqx seed 3), .long (bm_zqy seed w ch 3), .long (bm_zqp seed w ch 3)])) := by rw [eM12, bm_up_ne (bm_nea (by decide))]; exact k3
  replace k4 : M12 (q + 7) = some (.inr (1, [.long (bm_ca seed 4), .long (bm_cc seed 4), .long (bm_ce seed 4), .long (bm_zqb seed w ch 4), .long (bm_zqx seed 4), .long (bm_zqy seed w ch 4), .long (bm_zqp seed w ch 4)])) := by rw [eM12, bm_up_ne (bm_nea (by decide))]; exact k4
  replace k5 : M12 (q + 8) = some (.inr (1, [.long (bm_ca seed 5), .long (bm_cc seed 5), .long (bm_ce seed 5), .long (bm_zqb seed w ch 5), .long (bm_zqx seed 5), .long (bm_zqy seed w ch 5), .long (bm_zqp seed w ch 5)])) := by rw [eM12]; exact bm_up_self _ _ _
  replace hF : ∀ b, (b < q ∨ q + 9 ≤ b ∨ b = q + 1) → M12 b = M b := fun b hb9 => by rw [eM12]; exact (bm_up_ne (by omega)).trans (hF b hb9)
  clear eM12
  refine lv_iinc (v := 6) (k := 0) hx hb dQ_make_33 hl rfl (by decide) (by decide) rfl (fun ls hl => ?_)
  have hl : lv_has ls 7 [(6, .int 6), (0, .ref q), (1, .long seed), (3, .long w), (5, .int ch)] := hl
  refine lv_goto (tgt := 3) hx hb dQ_make_36 rfl ?_
  refine lv_iload hx hb dQ_make_3 (lv_at hl 0 rfl) ?_
  refine lv_bipush (v := 6) hx hb dQ_make_5 (by decide) ?_
  refine lv_icmp_ge (tgt := 39) hx hb dQ_make_7 rfl (fun _ => ?_) (fun h => absurd h (by decide))
  refine lv_aload_n hx hb dQ_make_39 rfl (lv_at hl 1 rfl) ?_
  refine bm_callU (va_runV (As := []) (rest := []) ⟨hx, hb, hml, hown, hts⟩ (bc_Q_open l D ct base ad M12 sz q fo so cf pt (bm_ca seed) (bm_cc seed) (bm_ce seed) (bm_zqb seed w ch) (bm_zqx seed) (bm_zqy seed w ch) (bm_zqp seed w ch) n h0 h1 h2 k0 k1 k2 k3 k4 k5 hcf ht hn) (cwV 0 hts (bm_goodV bw_332 bw_334 bs_3 bw_2 bw_335) rfl rfl rfl (by decide +kernel) (by rw [← hR]; exact ⟨Nat.le_of_ble_eq_true rfl, Nat.le_of_ble_eq_true rfl⟩)) (bm_preV hM hG hS hz h0 rfl) rfl rfl hl.1 rfl (lv_room (Nat.le_of_ble_eq_true rfl)) dQ_make_40 (by rw [← hR]; exact ⟨Nat.le_of_ble_eq_true rfl, Nat.le_of_ble_eq_true rfl⟩)) hS (fun H locs hz hM hS => ?_)
  obtain ⟨M13, eM13⟩ : ∃ X, X = bm_up M12 q (.inr (5, [.ref (q + 1), .ref (q + 2), .int (nI (bm_o1 n)), .int (nI (bm_o2 n))])) := ⟨_, rfl⟩
  replace hM : bm_M D base M13 H := by rw [eM13]; exact hM
  replace h1 : M13 (q + 1) = some (.inl (ct 5, 6, .inr (.inr (.inr (.inr cf))))) := by rw [eM13, bm_up_ne (bm_ne1 (k := 0))]; exact h1
  replace h2 : M13 (q + 2) = some (.inl (ct 5, 4, .inr (.inr (.inr (.inr pt))))) := by rw [eM13, bm_up_ne (bm_ne1 (k := 1))]; exact h2
  replace k0 : M13 (q + 3) = some (.inr (1, [.long (bm_ca seed 0), .long (bm_cc seed 0), .long (bm_ce seed 0), .long (bm_zqb seed w ch 0), .long (bm_zqx seed 0), .long (bm_zqy seed w ch 0), .long (bm_zqp seed w ch 0)])) := by rw [eM13, bm_up_ne (bm_ne1 (k := 2))]; exact k0
  replace k1 : M13 (q + 4) = some (.inr (1, [.long (bm_ca seed 1), .long (bm_cc seed 1), .long (bm_ce seed 1), .long (bm_zqb seed w ch 1), .long (bm_zqx seed 1), .long (bm_zqy seed w ch 1), .long (bm_zqp seed w ch 1)])) := by rw [eM13, bm_up_ne (bm_ne1 (k := 3))]; exact k1
  replace k2 : M13 (q + 5) = some (.inr (1, [.long (bm_ca seed 2), .long (bm_cc seed 2), .long (bm_ce seed 2), .long (bm_zqb seed w ch 2), .long (bm_zqx seed 2), .long (bm_zqy seed w ch 2), .long (bm_zqp seed w ch 2)])) := by rw [eM13, bm_up_ne (bm_ne1 (k := 4))]; exact k2
  replace k3 : M13 (q + 6) = some (.inr (1, [.long (bm_ca seed 3), .long (bm_cc seed 3), .long (bm_ce seed 3), .long (bm_zqb seed w ch 3), .long (bm_zqx seed 3), .long (bm_zqy seed w ch 3), .long (bm_zqp seed w ch 3)])) := by rw [eM13, bm_up_ne (bm_ne1 (k := 5))]; exact k3
  replace k4 : M13 (q + 7) = some (.inr (1, [.long (bm_ca seed 4), .long (bm_cc seed 4), .long (bm_ce seed 4), .long (bm_zqb seed w ch 4), .long (bm_zqx seed 4), .long (bm_zqy seed w ch 4), .long (bm_zqp seed w ch 4)])) := by rw [eM13, bm_up_ne (bm_ne1 (k := 6))]; exact k4
  replace k5 : M13 (q + 8) = some (.inr (1, [.long (bm_ca seed 5), .long (bm_cc seed 5), .long (bm_ce seed 5), .long (bm_zqb seed w ch 5), .long (bm_zqx seed 5), .long (bm_zqy seed w ch 5), .long (bm_zqp seed w ch 5)])) := by rw [eM13, bm_up_ne (bm_ne1 (k := 7))]; exact k5
  replace h0 : M13 q = some (.inr (5, [.ref (q + 1), .ref (q + 2), .int (nI (bm_o1 n)), .int (nI (bm_o2 n))])) := by rw [eM13]; exact bm_up_self _ _ _
  replace hF : ∀ b, (b < q ∨ q + 9 ≤ b ∨ b = q + 1) → M13 b = M b := fun b hb9 => by rw [eM13]; exact (bm_up_ne (by omega)).trans (hF b hb9)
  clear eM13
  refine lv_aload_n hx hb dQ_make_43 rfl (lv_at hl 1 rfl) ?_
  have hcX : ∀ j, j < 6 → M13 (q + (3 + j)) = some (.inr (1, [.long (bm_ca seed j), .long (bm_cc seed j), .long (bm_ce seed j), .long (bm_zqb seed w ch j), .long (bm_zqx seed j), .long (bm_zqy seed w ch j), .long (bm_zqp seed w ch j)])) := bm_al6 (p := fun j => M13 (q + (3 + j)) = some (.inr (1, [.long (bm_ca seed j), .long (bm_cc seed j), .long (bm_ce seed j), .long (bm_zqb seed w ch j), .long (bm_zqx seed j), .long (bm_zqy seed w ch j), .long (bm_zqp seed w ch j)]))) k0 k1 k2 k3 k4 k5
  refine bm_call (va_runV (As := []) (rest := []) ⟨hx, hb, hml, hown, hts⟩ (bc_Q_sortParts l D ct base ad M13 sz q (bm_o1 n) (bm_o2 n) cf pt (bm_ca seed) (bm_cc seed) (bm_ce seed) (bm_zqb seed w ch) (bm_zqx seed) (bm_zqy seed w ch) (bm_zqp seed w ch) h0 h1 h2 hcf (Nat.mod_lt _ (by decide)) (Nat.mod_lt _ (by decide)) (bm_o12 n) hcX) (cwV 0 hts (bm_goodV bw_341 bw_343 bs_4 bw_2 bw_344) rfl rfl rfl (by decide +kernel) (by rw [← hR]; exact ⟨Nat.le_of_ble_eq_true rfl, Nat.le_of_ble_eq_true rfl⟩)) (bm_preV hM hG hS hz h0 rfl) rfl rfl hl.1 rfl (lv_room (Nat.le_of_ble_eq_true rfl)) dQ_make_44 (by rw [← hR]; exact ⟨Nat.le_of_ble_eq_true rfl, Nat.le_of_ble_eq_true rfl⟩)) hS (fun v9 M14 H locs hq hM hS _ => ?_)
  obtain ⟨rfl, hz, wp, o, eM14, p1, p2, p3, p4⟩ := hq
  replace hF : ∀ b, (b < q ∨ q + 9 ≤ b ∨ b = q + 1) → M14 b = M b := fun b hb9 => by rw [eM14]; exact (bm_up_ne (by omega)).trans (hF b hb9)
  have f0 : M14 q = some (.inr (5, [.ref (q + 1), .ref (q + 2), .int (nI (bm_o1 n)), .int (nI (bm_o2 n))])) := by rw [eM14, bm_up_ne (by omega)]; exact h0
  have f2 : M14 (q + 2) = some (.inl (ct 5, 4, .inr (.inr (.inr (.inr wp))))) := by rw [eM14]; exact bm_up_self _ _ _
  have f3 : ∀ j, j < 6 → M14 (q + (3 + j)) = some (.inr (1, [.long (bm_ca seed j), .long (bm_cc seed j), .long (bm_ce seed j), .long (bm_zqb seed w ch j), .long (bm_zqx seed j), .long (bm_zqy seed w ch j), .long (bm_zqp seed w ch j)])) := fun j hj => by rw [eM14, bm_up_ne (by omega)]; exact hcX j hj
  exact bm_vret hQ hx hb hr hlk hM hS ⟨rfl, hz, wp, o, f0, f2, f3, p1, p2, p3, p4, hF⟩ (Nat.le_refl _) (Nat.le_refl _) dQ_make_47
