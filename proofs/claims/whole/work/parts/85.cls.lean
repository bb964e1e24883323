set_option maxHeartbeats 4000000 in
set_option maxRecDepth 100000 in
theorem bc_Q_init (l : Launch) (D : va_G) (ct : Nat → ClassId) (base : Nat) (ad : Nat → Nat) (M : bm_Map) (sz : Nat) (q : Nat) (h0 : M q = some (.inr (5, [.null, .null, .int 0, .int 0]))) : Met l yQ_init (bm_ws yQ_init cQ_init 2 none) { frames := 2, cells := 8, slots := 52, locals := 50 } (bm_Pre D ct base ad M (q + 1) [.ref q]) (bm_Post D base (fun v M1 n => v = none ∧ n = q + 9 ∧ ∃ cf : Nat → Option Nat, M1 q = some (.inr (5, [.ref (q + 1), .ref (q + 2), .int 0, .int 0])) ∧ M1 (q + 1) = some (.inl (ct 5, 6, .inr (.inr (.inr (.inr cf))))) ∧ (∀ j, j < 6 → cf j = some (q + (3 + j))) ∧ M1 (q + 2) = some (.inl (ct 5, 4, .inr (.inr (.inr (.inr (fun _ => none)))))) ∧ (∀ j, j < 6 → M1 (q + (3 + j)) = some (.inr (1, [.long 0, .long 0, .long 0, .long 0, .long 0, .long 0, .long 0]))) ∧ ∀ a, a < q → M1 a = M a)) 8 52 (bm_A base) := by
  refine bm_ofB (cc := cQ_init) (maxL := 2) (ret := none) (by decide +kernel) (Nat.le_of_ble_eq_true rfl) ?_
  intro vp ve s vm args below meth vc hx hb hr hlk hts hown hml hnm ls hl hz hM hG R Q hR hQ
  have hown : s.vm.findClass "BlindMint$Proposal" = some vm.cls := hown
  have hK := hG.K
  have hS : va_S (bm_A base) s.heap s.heap [] := va_S.rf
  have hl : lv_has ls 2 [(0, .ref q)] := hl
  have hF : ∀ a, a < q → M a = M a := fun _ _ => rfl
  refine lv_aload_n hx hb dQ_init_0 rfl (lv_at hl 0 rfl) ?_
  refine W.objInit hx hb hown (hts _ bw_34) (hts _ bw_25) (hts _ bw_26) rfl (by rw [hml]; exact hl.1) rfl dQ_init_1 (by rw [← hR]; exact Nat.le_of_ble_eq_true rfl) (by rw [← hR]; exact Nat.le_of_ble_eq_true rfl) ?_
  refine W.eq (g2 := F0 vm 4 ls []) rfl ?_
  refine lv_aload_n hx hb dQ_init_4 rfl (lv_at hl 0 rfl) ?_
  refine lv_bipush (v := 6) hx hb dQ_init_5 (by decide) ?_
  refine bm_newqz hz hx hb hown (hts _ bw_35) (va_AO.use hG.2.2.1.o36) hK hM hS (Nat.le_trans hG.2.1 hS.1) 5 rfl (N' := 6) (by decide) (by decide) (Nat.le_of_ble_eq_true rfl) (by rw [← hR]; exact Nat.le_of_ble_eq_true rfl) (by rw [← hR]; exact Nat.le_of_ble_eq_true rfl) dQ_init_7 (fun H hz1 hM hS => ?_)
  replace hz : H.size = q + 2 := hz1
  obtain ⟨M1, eM1⟩ : ∃ X, X = bm_up M (q + 1) (.inl (ct 5, 6, .inr (.inr (.inr (.inr (fun _ => none)))))) := ⟨_, rfl⟩
  replace hM : bm_M D base M1 H := by rw [eM1]; exact hM
  replace h0 : M1 q = some (.inr (5, [.null, .null, .int 0, .int 0])) := by rw [eM1, bm_up_ne (bm_ne0 (k := 0))]; exact h0
  have hc2 : M1 (q + 1) = some (.inl (ct 5, 6, .inr (.inr (.inr (.inr (fun _ => none)))))) := by rw [eM1]; exact bm_up_self _ _ _
  replace hF : ∀ a, a < q → M1 a = M a := fun a ha => by rw [eM1]; exact (bm_up_ne (bm_lnea ha)).trans (hF a ha)
  clear eM1 hz1
  refine bm_putF (ci := 5) (v := .ref (q + 1)) (ty := (.array (.object "BlindMint$Candidate"))) (C := "BlindMint$Proposal") (T := bt_Q) (N := 4) hx hb hts bu_Q by_Q bo_Q bn_Q hown hK hM hS h0 rfl 0 (by decide) (hts _ bw_71) (fun _ h9 => h9) rfl hnm rfl (by decide +kernel) rfl rfl (Nat.le_of_ble_eq_true rfl) dQ_init_10 (fun H locs hz1 hM hS => ?_)
  replace hz := hz1.trans hz
  replace hM : bm_M D base (bm_up M1 q (.inr (5, [.ref (q + 1), .null, .int 0, .int 0]))) H := hM
  obtain ⟨M3, eM3⟩ : ∃ X, X = bm_up M1 q (.inr (5, [.ref (q + 1), .null, .int 0, .int 0])) := ⟨_, rfl⟩
  rw [← eM3] at hM
  replace hc2 : M3 (q + 1) = some (.inl (ct 5, 6, .inr (.inr (.inr (.inr (fun _ => none)))))) := by rw [eM3, bm_up_ne (bm_ne1 (k := 0))]; exact hc2
  replace h0 : M3 q = some (.inr (5, [.ref (q + 1), .null, .int 0, .int 0])) := by rw [eM3]; exact bm_up_self _ _ _
  replace hF : ∀ a, a < q → M3 a = M a := fun a ha => by rw [eM3]; exact (bm_up_ne (bm_lne0 ha)).trans (hF a ha)
  clear eM3
  refine lv_aload_n hx hb dQ_init_13 rfl (lv_at hl 0 rfl) ?_
  refine lv_iconst (v := 4) hx hb dQ_init_14 (by decide) ?_
  refine bm_newqz hz hx hb hown (hts _ bw_35) (va_AO.use hG.2.2.1.o36) hK hM hS (Nat.le_trans hG.2.1 hS.1) 5 rfl (N' := 4) (by decide) (by decide) (Nat.le_of_ble_eq_true rfl) (by rw [← hR]; exact Nat.le_of_ble_eq_true rfl) (by rw [← hR]; exact Nat.le_of_ble_eq_true rfl) dQ_init_15 (fun H hz1 hM hS => ?_)
  replace hz : H.size = q + 3 := hz1
  obtain ⟨M4, eM4⟩ : ∃ X, X = bm_up M3 (q + 2) (.inl (ct 5, 4, .inr (.inr (.inr (.inr (fun _ => none)))))) := ⟨_, rfl⟩
  replace hM : bm_M D base M4 H := by rw [eM4]; exact hM
  replace h0 : M4 q = some (.inr (5, [.ref (q + 1), .null, .int 0, .int 0])) := by rw [eM4, bm_up_ne (bm_ne0 (k := 1))]; exact h0
  replace hc2 : M4 (q + 1) = some (.inl (ct 5, 6, .inr (.inr (.inr (.inr (fun _ => none)))))) := by rw [eM4, bm_up_ne (bm_nea (by decide))]; exact hc2
  have hc5 : M4 (q + 2) = some (.inl (ct 5, 4, .inr (.inr (.inr (.inr (fun _ => none)))))) := by rw [eM4]; exact bm_up_self _ _ _
  replace hF : ∀ a, a < q → M4 a = M a := fun a ha => by rw [eM4]; exact (bm_up_ne (bm_lnea ha)).trans (hF a ha)
  clear eM4 hz1
  refine bm_putF (ci := 5) (v := .ref (q + 2)) (ty := (.array (.object "BlindMint$Candidate"))) (C := "BlindMint$Proposal") (T := bt_Q) (N := 4) hx hb hts bu_Q by_Q bo_Q bn_Q hown hK hM hS h0 rfl 1 (by decide) (hts _ bw_72) (fun _ h9 => h9) rfl hnm rfl (by decide +kernel) rfl rfl (Nat.le_of_ble_eq_true rfl) dQ_init_18 (fun H locs hz1 hM hS => ?_)
  replace hz := hz1.trans hz
  replace hM : bm_M D base (bm_up M4 q (.inr (5, [.ref (q + 1), .ref (q + 2), .int 0, .int 0]))) H := hM
  obtain ⟨M6, eM6⟩ : ∃ X, X = bm_up M4 q (.inr (5, [.ref (q + 1), .ref (q + 2), .int 0, .int 0])) := ⟨_, rfl⟩
  rw [← eM6] at hM
  replace hc2 : M6 (q + 1) = some (.inl (ct 5, 6, .inr (.inr (.inr (.inr (fun _ => none)))))) := by rw [eM6, bm_up_ne (bm_ne1 (k := 0))]; exact hc2
  replace hc5 : M6 (q + 2) = some (.inl (ct 5, 4, .inr (.inr (.inr (.inr (fun _ => none)))))) := by rw [eM6, bm_up_ne (bm_ne1 (k := 1))]; exact hc5
  replace h0 : M6 q = some (.inr (5, [.ref (q + 1), .ref (q + 2), .int 0, .int 0])) := by rw [eM6]; exact bm_up_self _ _ _
  replace hF : ∀ a, a < q → M6 a = M a := fun a ha => by rw [eM6]; exact (bm_up_ne (bm_lne0 ha)).trans (hF a ha)
  clear eM6
  refine lv_aload_n hx hb dQ_init_21 rfl (lv_at hl 0 rfl) ?_
  refine lv_iconst (v := 0) hx hb dQ_init_22 (by decide) ?_
  refine bm_put (ci := 5) (v := .int 0) (ty := .int) (C := "BlindMint$Proposal") (T := bt_Q) (N := 4) hx hb hts bu_Q by_Q bo_Q bn_Q hown hK hM hS h0 rfl 2 (by decide) (hts _ bw_74) (fun _ h9 => h9) rfl (by decide +kernel) rfl rfl (Nat.le_of_ble_eq_true rfl) dQ_init_23 (fun H locs hz1 hM hS => ?_)
  replace hz := hz1.trans hz
  replace hM : bm_M D base (bm_up M6 q (.inr (5, [.ref (q + 1), .ref (q + 2), .int 0, .int 0]))) H := hM
  obtain ⟨M7, eM7⟩ : ∃ X, X = bm_up M6 q (.inr (5, [.ref (q + 1), .ref (q + 2), .int 0, .int 0])) := ⟨_, rfl⟩
  rw [← eM7] at hM
  replace hc2 : M7 (q + 1) = some (.inl (ct 5, 6, .inr (.inr (.inr (.inr (fun _ => none)))))) := by rw [eM7, bm_up_ne (bm_ne1 (k := 0))]; exact hc2
  replace hc5 : M7 (q + 2) = some (.inl (ct 5, 4, .inr (.inr (.inr (.inr (fun _ => none)))))) := by rw [eM7, bm_up_ne (bm_ne1 (k := 1))]; exact hc5
  replace h0 : M7 q = some (.inr (5, [.ref (q + 1), .ref (q + 2), .int 0, .int 0])) := by rw [eM7]; exact bm_up_self _ _ _
  replace hF : ∀ a, a < q → M7 a = M a := fun a ha => by rw [eM7]; exact (bm_up_ne (bm_lne0 ha)).trans (hF a ha)
  clear eM7
  refine lv_aload_n hx hb dQ_init_26 rfl (lv_at hl 0 rfl) ?_
  refine lv_iconst (v := 0) hx hb dQ_init_27 (by decide) ?_
  refine bm_put (ci := 5) (v := .int 0) (ty := .int) (C := "BlindMint$Proposal") (T := bt_Q) (N := 4) hx hb hts bu_Q by_Q bo_Q bn_Q hown hK hM hS h0 rfl 3 (by decide) (hts _ bw_75) (fun _ h9 => h9) rfl (by decide +kernel) rfl rfl (Nat.le_of_ble_eq_true rfl) dQ_init_28 (fun H locs hz1 hM hS => ?_)
  replace hz := hz1.trans hz
  replace hM : bm_M D base (bm_up M7 q (.inr (5, [.ref (q + 1), .ref (q + 2), .int 0, .int 0]))) H := hM
  obtain ⟨M8, eM8⟩ : ∃ X, X = bm_up M7 q (.inr (5, [.ref (q + 1), .ref (q + 2), .int 0, .int 0])) := ⟨_, rfl⟩
  rw [← eM8] at hM
  replace hc2 : M8 (q + 1) = some (.inl (ct 5, 6, .inr (.inr (.inr (.inr (fun _ => none)))))) := by rw [eM8, bm_up_ne (bm_ne1 (k := 0))]; exact hc2
  replace hc5 : M8 (q + 2) = some (.inl (ct 5, 4, .inr (.inr (.inr (.inr (fun _ => none)))))) := by rw [eM8, bm_up_ne (bm_ne1 (k := 1))]; exact hc5
  replace h0 : M8 q = some (.inr (5, [.ref (q + 1), .ref (q + 2), .int 0, .int 0])) := by rw [eM8]; exact bm_up_self _ _ _
  replace hF : ∀ a, a < q → M8 a = M a := fun a ha => by rw [eM8]; exact (bm_up_ne (bm_lne0 ha)).trans (hF a ha)
  clear eM8
  refine lv_iconst (v := 0) hx hb dQ_init_31 (by decide) ?_
  refine lv_istore_n hx hb dQ_init_32 rfl hl (by decide) rfl (fun ls hl => ?_)
  have hl : lv_has ls 2 [(1, .int 0), (0, .ref q)] := hl
  refine lv_iload_n hx hb dQ_init_33 rfl (lv_at hl 0 rfl) ?_
  refine lv_bipush (v := 6) hx hb dQ_init_34 (by decide) ?_
  refine lv_icmp_ge (tgt := 58) hx hb dQ_init_36 rfl (fun h => absurd h (by decide)) (fun _ => ?_)
  refine lv_aload_n hx hb dQ_init_39 rfl (lv_at hl 1 rfl) ?_
  refine bm_get (ci := 5) (v := .ref (q + 1)) (C := "BlindMint$Proposal") (T := bt_Q) (N := 4) hx hb hts bu_Q hown hK hM h0 rfl 0 (by decide) (hts _ bw_71) (fun _ h9 => h9) rfl dQ_init_40 ?_
  refine lv_iload_n hx hb dQ_init_43 rfl (lv_at hl 0 rfl) ?_
  refine bm_newz (ci := 1) (fs := [.long 0, .long 0, .long 0, .long 0, .long 0, .long 0, .long 0]) (C := "BlindMint$Candidate") (T := bt_C) (N := 7) hz hx hb hts bu_C by_C bo_C hown (hts _ bw_35) (hts _ bw_37) (hts _ bw_3) hK hM hS (Nat.le_trans hG.2.1 hS.1) rfl (fun j hj => by rcases (show j = 0 ∨ j = 1 ∨ j = 2 ∨ j = 3 ∨ j = 4 ∨ j = 5 ∨ j = 6 by omega) with rfl | rfl | rfl | rfl | rfl | rfl | rfl <;> rfl) (by rw [← hR]; exact Nat.le_of_ble_eq_true rfl) (by rw [← hR]; exact Nat.le_of_ble_eq_true rfl) dQ_init_44 (fun H hz1 hM hS => ?_)
  replace hz : H.size = q + 4 := hz1
  obtain ⟨M9, eM9⟩ : ∃ X, X = bm_up M8 (q + 3) (.inr (1, [.long 0, .long 0, .long 0, .long 0, .long 0, .long 0, .long 0])) := ⟨_, rfl⟩
  replace hM : bm_M D base M9 H := by rw [eM9]; exact hM
  replace h0 : M9 q = some (.inr (5, [.ref (q + 1), .ref (q + 2), .int 0, .int 0])) := by rw [eM9, bm_up_ne (bm_ne0 (k := 2))]; exact h0
  replace hc2 : M9 (q + 1) = some (.inl (ct 5, 6, .inr (.inr (.inr (.inr (fun _ => none)))))) := by rw [eM9, bm_up_ne (bm_nea (by decide))]; exact hc2
  replace hc5 : M9 (q + 2) = some (.inl (ct 5, 4, .inr (.inr (.inr (.inr (fun _ => none)))))) := by rw [eM9, bm_up_ne (bm_nea (by decide))]; exact hc5
  have hc10 : M9 (q + 3) = some (.inr (1, [.long 0, .long 0, .long 0, .long 0, .long 0, .long 0, .long 0])) := by rw [eM9]; exact bm_up_self _ _ _
  replace hF : ∀ a, a < q → M9 a = M a := fun a ha => by rw [eM9]; exact (bm_up_ne (bm_lnea ha)).trans (hF a ha)
  clear eM9 hz1
  refine lv_dup hx hb dQ_init_47 rfl ?_
  refine bm_callU (va_runIN (b := q + 3) (As := []) (rest := [.ref (q + 3), .int 0, .ref (q + 1)]) ⟨hx, hb, hml, hown, hts⟩ (bc_C_init l D ct base ad M9 (q + 4) (q + 3)) ⟨va_cnB 0 hts (bm_goodW bw_40) rfl rfl rfl (hG.2.2.1.w38) (hts _ bw_3) (by decide +kernel) (by rw [← hR]; exact ⟨Nat.le_of_ble_eq_true rfl, Nat.le_of_ble_eq_true rfl⟩), rfl, hts _ bw_39⟩ (bm_preS hM hG hS hz) rfl rfl hl.1 rfl (lv_room (Nat.le_of_ble_eq_true rfl)) dQ_init_48 (by rw [← hR]; exact ⟨Nat.le_of_ble_eq_true rfl, Nat.le_of_ble_eq_true rfl⟩)) hS (fun H locs hz hM hS => ?_)
  refine bm_aast hx hb hK hM hS 5 1 (r := ("BlindMint$Candidate", bt_C, 7)) hc2 rfl hc10 rfl 0 (bm_ix_nI (k := 0) (by decide)) (by decide) dQ_init_51 (fun H locs hz1 hM hS => ?_)
  replace hz := hz1.trans hz
  replace hM : bm_M D base (bm_up M9 (q + 1) (.inl (ct 5, 6, .inr (.inr (.inr (.inr (va_up (fun _ => none) 0 (some (q + 3))))))))) H := hM
  obtain ⟨M11, eM11⟩ : ∃ X, X = bm_up M9 (q + 1) (.inl (ct 5, 6, .inr (.inr (.inr (.inr (va_up (fun _ => none) 0 (some (q + 3)))))))) := ⟨_, rfl⟩
  rw [← eM11] at hM
  replace h0 : M11 q = some (.inr (5, [.ref (q + 1), .ref (q + 2), .int 0, .int 0])) := by rw [eM11, bm_up_ne (bm_ne0 (k := 0))]; exact h0
  replace hc5 : M11 (q + 2) = some (.inl (ct 5, 4, .inr (.inr (.inr (.inr (fun _ => none)))))) := by rw [eM11, bm_up_ne (bm_nea (by decide))]; exact hc5
  replace hc10 : M11 (q + 3) = some (.inr (1, [.long 0, .long 0, .long 0, .long 0, .long 0, .long 0, .long 0])) := by rw [eM11, bm_up_ne (bm_nea (by decide))]; exact hc10
  replace hc2 : M11 (q + 1) = some (.inl (ct 5, 6, .inr (.inr (.inr (.inr (va_up (fun _ => none) 0 (some (q + 3)))))))) := by rw [eM11]; exact bm_up_self _ _ _
  replace hF : ∀ a, a < q → M11 a = M a := fun a ha => by rw [eM11]; exact (bm_up_ne (bm_lnea ha)).trans (hF a ha)
  clear eM11
  refine lv_iinc (v := 1) (k := 0) hx hb dQ_init_52 hl rfl (by decide) (by decide) rfl (fun ls hl => ?_)
  have hl : lv_has ls 2 [(1, .int 1), (0, .ref q)] := hl
  refine lv_goto (tgt := 33) hx hb dQ_init_55 rfl ?_
  refine lv_iload_n hx hb dQ_init_33 rfl (lv_at hl 0 rfl) ?_
  refine lv_bipush (v := 6) hx hb dQ_init_34 (by decide) ?_
  refine lv_icmp_ge (tgt := 58) hx hb dQ_init_36 rfl (fun h => absurd h (by decide)) (fun _ => ?_)
  refine lv_aload_n hx hb dQ_init_39 rfl (lv_at hl 1 rfl) ?_
  refine bm_get (ci := 5) (v := .ref (q + 1)) (C := "BlindMint$Proposal") (T := bt_Q) (N := 4) hx hb hts bu_Q hown hK hM h0 rfl 0 (by decide) (hts _ bw_71) (fun _ h9 => h9) rfl dQ_init_40 ?_
  refine lv_iload_n hx hb dQ_init_43 rfl (lv_at hl 0 rfl) ?_
  refine bm_newz (ci := 1) (fs := [.long 0, .long 0, .long 0, .long 0, .long 0, .long 0, .long 0]) (C := "BlindMint$Candidate") (T := bt_C) (N := 7) hz hx hb hts bu_C by_C bo_C hown (hts _ bw_35) (hts _ bw_37) (hts _ bw_3) hK hM hS (Nat.le_trans hG.2.1 hS.1) rfl (fun j hj => by rcases (show j = 0 ∨ j = 1 ∨ j = 2 ∨ j = 3 ∨ j = 4 ∨ j = 5 ∨ j = 6 by omega) with rfl | rfl | rfl | rfl | rfl | rfl | rfl <;> rfl) (by rw [← hR]; exact Nat.le_of_ble_eq_true rfl) (by rw [← hR]; exact Nat.le_of_ble_eq_true rfl) dQ_init_44 (fun H hz1 hM hS => ?_)
  replace hz : H.size = q + 5 := hz1
  obtain ⟨M12, eM12⟩ : ∃ X, X = bm_up M11 (q + 4) (.inr (1, [.long 0, .long 0, .long 0, .long 0, .long 0, .long 0, .long 0])) := ⟨_, rfl⟩
  replace hM : bm_M D base M12 H := by rw [eM12]; exact hM
  replace h0 : M12 q = some (.inr (5, [.ref (q + 1), .ref (q + 2), .int 0, .int 0])) := by rw [eM12, bm_up_ne (bm_ne0 (k := 3))]; exact h0
  replace hc2 : M12 (q + 1) = some (.inl (ct 5, 6, .inr (.inr (.inr (.inr (va_up (fun _ => none) 0 (some (q + 3)))))))) := by rw [eM12, bm_up_ne (bm_nea (by decide))]; exact hc2
  replace hc5 : M12 (q + 2) = some (.inl (ct 5, 4, .inr (.inr (.inr (.inr (fun _ => none)))))) := by rw [eM12, bm_up_ne (bm_nea (by decide))]; exact hc5
  replace hc10 : M12 (q + 3) = some (.inr (1, [.long 0, .long 0, .long 0, .long 0, .long 0, .long 0, .long 0])) := by rw [eM12, bm_up_ne (bm_nea (by decide))]; exact hc10
  have hc13 : M12 (q + 4) = some (.inr (1, [.long 0, .long 0, .long 0, .long 0, .long 0, .long 0, .long 0])) := by rw [eM12]; exact bm_up_self _ _ _
  replace hF : ∀ a, a < q → M12 a = M a := fun a ha => by rw [eM12]; exact (bm_up_ne (bm_lnea ha)).trans (hF a ha)
  clear eM12 hz1
  refine lv_dup hx hb dQ_init_47 rfl ?_
  refine bm_callU (va_runIN (b := q + 4) (As := []) (rest := [.ref (q + 4), .int 1, .ref (q + 1)]) ⟨hx, hb, hml, hown, hts⟩ (bc_C_init l D ct base ad M12 (q + 5) (q + 4)) ⟨va_cnB 0 hts (bm_goodW bw_40) rfl rfl rfl (hG.2.2.1.w38) (hts _ bw_3) (by decide +kernel) (by rw [← hR]; exact ⟨Nat.le_of_ble_eq_true rfl, Nat.le_of_ble_eq_true rfl⟩), rfl, hts _ bw_39⟩ (bm_preS hM hG hS hz) rfl rfl hl.1 rfl (lv_room (Nat.le_of_ble_eq_true rfl)) dQ_init_48 (by rw [← hR]; exact ⟨Nat.le_of_ble_eq_true rfl, Nat.le_of_ble_eq_true rfl⟩)) hS (fun H locs hz hM hS => ?_)
  refine bm_aast hx hb hK hM hS 5 1 (r := ("BlindMint$Candidate", bt_C, 7)) hc2 rfl hc13 rfl 1 (bm_ix_nI (k := 1) (by decide)) (by decide) dQ_init_51 (fun H locs hz1 hM hS => ?_)
  replace hz := hz1.trans hz
  replace hM : bm_M D base (bm_up M12 (q + 1) (.inl (ct 5, 6, .inr (.inr (.inr (.inr (va_up (va_up (fun _ => none) 0 (some (q + 3))) 1 (some (q + 4))))))))) H := hM
  obtain ⟨M14, eM14⟩ : ∃ X, X = bm_up M12 (q + 1) (.inl (ct 5, 6, .inr (.inr (.inr (.inr (va_up (va_up (fun _ => none) 0 (some (q + 3))) 1 (some (q + 4)))))))) := ⟨_, rfl⟩
  rw [← eM14] at hM
  replace h0 : M14 q = some (.inr (5, [.ref (q + 1), .ref (q + 2), .int 0, .int 0])) := by rw [eM14, bm_up_ne (bm_ne0 (k := 0))]; exact h0
  replace hc5 : M14 (q + 2) = some (.inl (ct 5, 4, .inr (.inr (.inr (.inr (fun _ => none)))))) := by rw [eM14, bm_up_ne (bm_nea (by decide))]; exact hc5
  replace hc10 : M14 (q + 3) = some (.inr (1, [.long 0, .long 0, .long 0, .long 0, .long 0, .long 0, .long 0])) := by rw [eM14, bm_up_ne (bm_nea (by decide))]; exact hc10
  replace hc13 : M14 (q + 4) = some (.inr (1, [.long 0, .long 0, .long 0, .long 0, .long 0, .long 0, .long 0])) := by rw [eM14, bm_up_ne (bm_nea (by decide))]; exact hc13
  replace hc2 : M14 (q + 1) = some (.inl (ct 5, 6, .inr (.inr (.inr (.inr (va_up (va_up (fun _ => none) 0 (some (q + 3))) 1 (some (q + 4)))))))) := by rw [eM14]; exact bm_up_self _ _ _
  replace hF : ∀ a, a < q → M14 a = M a := fun a ha => by rw [eM14]; exact (bm_up_ne (bm_lnea ha)).trans (hF a ha)
  clear eM14
  refine lv_iinc (v := 2) (k := 0) hx hb dQ_init_52 hl rfl (by decide) (by decide) rfl (fun ls hl => ?_)
  have hl : lv_has ls 2 [(1, .int 2), (0, .ref q)] := hl
  refine lv_goto (tgt := 33) hx hb dQ_init_55 rfl ?_
  refine lv_iload_n hx hb dQ_init_33 rfl (lv_at hl 0 rfl) ?_
  refine lv_bipush (v := 6) hx hb dQ_init_34 (by decide) ?_
  refine lv_icmp_ge (tgt := 58) hx hb dQ_init_36 rfl (fun h => absurd h (by decide)) (fun _ => ?_)
  refine lv_aload_n hx hb dQ_init_39 rfl (lv_at hl 1 rfl) ?_
  refine bm_get (ci := 5) (v := .ref (q + 1)) (C := "BlindMint$Proposal") (T := bt_Q) (N := 4) hx hb hts bu_Q hown hK hM h0 rfl 0 (by decide) (hts _ bw_71) (fun _ h9 => h9) rfl dQ_init_40 ?_
  refine lv_iload_n hx hb dQ_init_43 rfl (lv_at hl 0 rfl) ?_
  refine bm_newz (ci := 1) (fs := [.long 0, .long 0, .long 0, .long 0, .long 0, .long 0, .long 0]) (C := "BlindMint$Candidate") (T := bt_C) (N := 7) hz hx hb hts bu_C by_C bo_C hown (hts _ bw_35) (hts _ bw_37) (hts _ bw_3) hK hM hS (Nat.le_trans hG.2.1 hS.1) rfl (fun j hj => by rcases (show j = 0 ∨ j = 1 ∨ j = 2 ∨ j = 3 ∨ j = 4 ∨ j = 5 ∨ j = 6 by omega) with rfl | rfl | rfl | rfl | rfl | rfl | rfl <;> rfl) (by rw [← hR]; exact Nat.le_of_ble_eq_true rfl) (by rw [← hR]; exact Nat.le_of_ble_eq_true rfl) dQ_init_44 (fun H hz1 hM hS => ?_)
  replace hz : H.size = q + 6 := hz1
  obtain ⟨M15, eM15⟩ : ∃ X, X = bm_up M14 (q + 5) (.inr (1, [.long 0, .long 0, .long 0, .long 0, .long 0, .long 0, .long 0])) := ⟨_, rfl⟩
  replace hM : bm_M D base M15 H := by rw [eM15]; exact hM
  replace h0 : M15 q = some (.inr (5, [.ref (q + 1), .ref (q + 2), .int 0, .int 0])) := by rw [eM15, bm_up_ne (bm_ne0 (k := 4))]; exact h0
  replace hc2 : M15 (q + 1) = some (.inl (ct 5, 6, .inr (.inr (.inr (.inr (va_up (va_up (fun _ => none) 0 (some (q + 3))) 1 (some (q + 4)))))))) := by rw [eM15, bm_up_ne (bm_nea (by decide))]; exact hc2
  replace hc5 : M15 (q + 2) = some (.inl (ct 5, 4, .inr (.inr (.inr (.inr (fun _ => none)))))) := by rw [eM15, bm_up_ne (bm_nea (by decide))]; exact hc5
  replace hc10 : M15 (q + 3) = some (.inr (1, [.long 0, .long 0, .long 0, .long 0, .long 0, .long 0, .long 0])) := by rw [eM15, bm_up_ne (bm_nea (by decide))]; exact hc10
  replace hc13 : M15 (q + 4) = some (.inr (1, [.long 0, .long 0, .long 0, .long 0, .long 0, .long 0, .long 0])) := by rw [eM15, bm_up_ne (bm_nea (by decide))]; exact hc13
  have hc16 : M15 (q + 5) = some (.inr (1, [.long 0, .long 0, .long 0, .long 0, .long 0, .long 0, .long 0])) := by rw [eM15]; exact bm_up_self _ _ _
  replace hF : ∀ a, a < q → M15 a = M a := fun a ha => by rw [eM15]; exact (bm_up_ne (bm_lnea ha)).trans (hF a ha)
  clear eM15 hz1
  refine lv_dup hx hb dQ_init_47 rfl ?_
  refine bm_callU (va_runIN (b := q + 5) (As := []) (rest := [.ref (q + 5), .int 2, .ref (q + 1)]) ⟨hx, hb, hml, hown, hts⟩ (bc_C_init l D ct base ad M15 (q + 6) (q + 5)) ⟨va_cnB 0 hts (bm_goodW bw_40) rfl rfl rfl (hG.2.2.1.w38) (hts _ bw_3) (by decide +kernel) (by rw [← hR]; exact ⟨Nat.le_of_ble_eq_true rfl, Nat.le_of_ble_eq_true rfl⟩), rfl, hts _ bw_39⟩ (bm_preS hM hG hS hz) rfl rfl hl.1 rfl (lv_room (Nat.le_of_ble_eq_true rfl)) dQ_init_48 (by rw [← hR]; exact ⟨Nat.le_of_ble_eq_true rfl, Nat.le_of_ble_eq_true rfl⟩)) hS (fun H locs hz hM hS => ?_)
  refine bm_aast hx hb hK hM hS 5 1 (r := ("BlindMint$Candidate", bt_C, 7)) hc2 rfl hc16 rfl 2 (bm_ix_nI (k := 2) (by decide)) (by decide) dQ_init_51 (fun H locs hz1 hM hS => ?_)
  replace hz := hz1.trans hz
  replace hM : bm_M D base (bm_up M15 (q + 1) (.inl (ct 5, 6, .inr (.inr (.inr (.inr (va_up (va_up (va_up (fun _ => none) 0 (some (q + 3))) 1 (some (q + 4))) 2 (some (q + 5))))))))) H := hM
  obtain ⟨M17, eM17⟩ : ∃ X, X = bm_up M15 (q + 1) (.inl (ct 5, 6, .inr (.inr (.inr (.inr (va_up (va_up (va_up (fun _ => none) 0 (some (q + 3))) 1 (some (q + 4))) 2 (some (q + 5)))))))) := ⟨_, rfl⟩
  rw [← eM17] at hM
  replace h0 : M17 q = some (.inr (5, [.ref (q + 1), .ref (q + 2), .int 0, .int 0])) := by rw [eM17, bm_up_ne (bm_ne0 (k := 0))]; exact h0
  replace hc5 : M17 (q + 2) = some (.inl (ct 5, 4, .inr (.inr (.inr (.inr (fun _ => none)))))) := by rw [eM17, bm_up_ne (bm_nea (by decide))]; exact hc5
  replace hc10 : M17 (q + 3) = some (.inr (1, [.long 0, .long 0, .long 0, .long 0, .long 0, .long 0, .long 0])) := by rw [eM17, bm_up_ne (bm_nea (by decide))]; exact hc10
  replace hc13 : M17 (q + 4) = some (.inr (1, [.long 0, .long 0, .long 0, .long 0, .long 0, .long 0, .long 0])) := by rw [eM17, bm_up_ne (bm_nea (by decide))]; exact hc13
  replace hc16 : M17 (q + 5) = some (.inr (1, [.long 0, .long 0, .long 0, .long 0, .long 0, .long 0, .long 0])) := by rw [eM17, bm_up_ne (bm_nea (by decide))]; exact hc16
  replace hc2 : M17 (q + 1) = some (.inl (ct 5, 6, .inr (.inr (.inr (.inr (va_up (va_up (va_up (fun _ => none) 0 (some (q + 3))) 1 (some (q + 4))) 2 (some (q + 5)))))))) := by rw [eM17]; exact bm_up_self _ _ _
  replace hF : ∀ a, a < q → M17 a = M a := fun a ha => by rw [eM17]; exact (bm_up_ne (bm_lnea ha)).trans (hF a ha)
  clear eM17
  refine lv_iinc (v := 3) (k := 0) hx hb dQ_init_52 hl rfl (by decide) (by decide) rfl (fun ls hl => ?_)
  have hl : lv_has ls 2 [(1, .int 3), (0, .ref q)] := hl
  refine lv_goto (tgt := 33) hx hb dQ_init_55 rfl ?_
  refine lv_iload_n hx hb dQ_init_33 rfl (lv_at hl 0 rfl) ?_
  refine lv_bipush (v := 6) hx hb dQ_init_34 (by decide) ?_
  refine lv_icmp_ge (tgt := 58) hx hb dQ_init_36 rfl (fun h => absurd h (by decide)) (fun _ => ?_)
  refine lv_aload_n hx hb dQ_init_39 rfl (lv_at hl 1 rfl) ?_
  refine bm_get (ci := 5) (v := .ref (q + 1)) (C := "BlindMint$Proposal") (T := bt_Q) (N := 4) hx hb hts bu_Q hown hK hM h0 rfl 0 (by decide) (hts _ bw_71) (fun _ h9 => h9) rfl dQ_init_40 ?_
  refine lv_iload_n hx hb dQ_init_43 rfl (lv_at hl 0 rfl) ?_
  refine bm_newz (ci := 1) (fs := [.long 0, .long 0, .long 0, .long 0, .long 0, .long 0, .long 0]) (C := "BlindMint$Candidate") (T := bt_C) (N := 7) hz hx hb hts bu_C by_C bo_C hown (hts _ bw_35) (hts _ bw_37) (hts _ bw_3) hK hM hS (Nat.le_trans hG.2.1 hS.1) rfl (fun j hj => by rcases (show j = 0 ∨ j = 1 ∨ j = 2 ∨ j = 3 ∨ j = 4 ∨ j = 5 ∨ j = 6 by omega) with rfl | rfl | rfl | rfl | rfl | rfl | rfl <;> rfl) (by rw [← hR]; exact Nat.le_of_ble_eq_true rfl) (by rw [← hR]; exact Nat.le_of_ble_eq_true rfl) dQ_init_44 (fun H hz1 hM hS => ?_)
  replace hz : H.size = q + 7 := hz1
  obtain ⟨M18, eM18⟩ : ∃ X, X = bm_up M17 (q + 6) (.inr (1, [.long 0, .long 0, .long 0, .long 0, .long 0, .long 0, .long 0])) := ⟨_, rfl⟩
  replace hM : bm_M D base M18 H := by rw [eM18]; exact hM
  replace h0 : M18 q = some (.inr (5, [.ref (q + 1), .ref (q + 2), .int 0, .int 0])) := by rw [eM18, bm_up_ne (bm_ne0 (k := 5))]; exact h0
  replace hc2 : M18 (q + 1) = some (.inl (ct 5, 6, .inr (.inr (.inr (.inr (va_up (va_up (va_up (fun _ => none) 0 (some (q + 3))) 1 (some (q + 4))) 2 (some (q + 5)))))))) := by rw [eM18, bm_up_ne (bm_nea (by decide))]; exact hc2
  replace hc5 : M18 (q + 2) = some (.inl (ct 5, 4, .inr (.inr (.inr (.inr (fun _ => none)))))) := by rw [eM18, bm_up_ne (bm_nea (by decide))]; exact hc5
  replace hc10 : M18 (q + 3) = some (.inr (1, [.long 0, .long 0, .long 0, .long 0, .long 0, .long 0, .long 0])) := by rw [eM18, bm_up_ne (bm_nea (by decide))]; exact hc10
  replace hc13 : M18 (q + 4) = some (.inr (1, [.long 0, .long 0, .long 0, .long 0, .long 0, .long 0, .long 0])) := by rw [eM18, bm_up_ne (bm_nea (by decide))]; exact hc13
  replace hc16 : M18 (q + 5) = some (.inr (1, [.long 0, .long 0, .long 0, .long 0, .long 0, .long 0, .long 0])) := by rw [eM18, bm_up_ne (bm_nea (by decide))]; exact hc16
  have hc19 : M18 (q + 6) = some (.inr (1, [.long 0, .long 0, .long 0, .long 0, .long 0, .long 0, .long 0])) := by rw [eM18]; exact bm_up_self _ _ _
  replace hF : ∀ a, a < q → M18 a = M a := fun a ha => by rw [eM18]; exact (bm_up_ne (bm_lnea ha)).trans (hF a ha)
  clear eM18 hz1
  refine lv_dup hx hb dQ_init_47 rfl ?_
  refine bm_callU (va_runIN (b := q + 6) (As := []) (rest := [.ref (q + 6), .int 3, .ref (q + 1)]) ⟨hx, hb, hml, hown, hts⟩ (bc_C_init l D ct base ad M18 (q + 7) (q + 6)) ⟨va_cnB 0 hts (bm_goodW bw_40) rfl rfl rfl (hG.2.2.1.w38) (hts _ bw_3) (by decide +kernel) (by rw [← hR]; exact ⟨Nat.le_of_ble_eq_true rfl, Nat.le_of_ble_eq_true rfl⟩), rfl, hts _ bw_39⟩ (bm_preS hM hG hS hz) rfl rfl hl.1 rfl (lv_room (Nat.le_of_ble_eq_true rfl)) dQ_init_48 (by rw [← hR]; exact ⟨Nat.le_of_ble_eq_true rfl, Nat.le_of_ble_eq_true rfl⟩)) hS (fun H locs hz hM hS => ?_)
  refine bm_aast hx hb hK hM hS 5 1 (r := ("BlindMint$Candidate", bt_C, 7)) hc2 rfl hc19 rfl 3 (bm_ix_nI (k := 3) (by decide)) (by decide) dQ_init_51 (fun H locs hz1 hM hS => ?_)
  replace hz := hz1.trans hz
  replace hM : bm_M D base (bm_up M18 (q + 1) (.inl (ct 5, 6, .inr (.inr (.inr (.inr (va_up (va_up (va_up (va_up (fun _ => none) 0 (some (q + 3))) 1 (some (q + 4))) 2 (some (q + 5))) 3 (some (q + 6))))))))) H := hM
  obtain ⟨M20, eM20⟩ : ∃ X, X = bm_up M18 (q + 1) (.inl (ct 5, 6, .inr (.inr (.inr (.inr (va_up (va_up (va_up (va_up (fun _ => none) 0 (some (q + 3))) 1 (some (q + 4))) 2 (some (q + 5))) 3 (some (q + 6)))))))) := ⟨_, rfl⟩
  rw [← eM20] at hM
  replace h0 : M20 q = some (.inr (5, [.ref (q + 1), .ref (q + 2), .int 0, .int 0])) := by rw [eM20, bm_up_ne (bm_ne0 (k := 0))]; exact h0
  replace hc5 : M20 (q + 2) = some (.inl (ct 5, 4, .inr (.inr (.inr (.inr (fun _ => none)))))) := by rw [eM20, bm_up_ne (bm_nea (by decide))]; exact hc5
  replace hc10 : M20 (q + 3) = some (.inr (1, [.long 0, .long 0, .long 0, .long 0, .long 0, .long 0, .long 0])) := by rw [eM20, bm_up_ne (bm_nea (by decide))]; exact hc10
  replace hc13 : M20 (q + 4) = some (.inr (1, [.long 0, .long 0, .long 0, .long 0, .long 0, .long 0, .long 0])) := by rw [eM20, bm_up_ne (bm_nea (by decide))]; exact hc13
  replace hc16 : M20 (q + 5) = some (.inr (1, [.long 0, .long 0, .long 0, .long 0, .long 0, .long 0, .long 0])) := by rw [eM20, bm_up_ne (bm_nea (by decide))]; exact hc16
  replace hc19 : M20 (q + 6) = some (.inr (1, [.long 0, .long 0, .long 0, .long 0, .long 0, .long 0, .long 0])) := by rw [eM20, bm_up_ne (bm_nea (by decide))]; exact hc19
  replace hc2 : M20 (q + 1) = some (.inl (ct 5, 6, .inr (.inr (.inr (.inr (va_up (va_up (va_up (va_up (fun _ => none) 0 (some (q + 3))) 1 (some (q + 4))) 2 (some (q + 5))) 3 (some (q + 6)))))))) := by rw [eM20]; exact bm_up_self _ _ _
  replace hF : ∀ a, a < q → M20 a = M a := fun a ha => by rw [eM20]; exact (bm_up_ne (bm_lnea ha)).trans (hF a ha)
  clear eM20
  refine lv_iinc (v := 4) (k := 0) hx hb dQ_init_52 hl rfl (by decide) (by decide) rfl (fun ls hl => ?_)
  have hl : lv_has ls 2 [(1, .int 4), (0, .ref q)] := hl
  refine lv_goto (tgt := 33) hx hb dQ_init_55 rfl ?_
  refine lv_iload_n hx hb dQ_init_33 rfl (lv_at hl 0 rfl) ?_
  refine lv_bipush (v := 6) hx hb dQ_init_34 (by decide) ?_
  refine lv_icmp_ge (tgt := 58) hx hb dQ_init_36 rfl (fun h => absurd h (by decide)) (fun _ => ?_)
  refine lv_aload_n hx hb dQ_init_39 rfl (lv_at hl 1 rfl) ?_
  refine bm_get (ci := 5) (v := .ref (q + 1)) (C := "BlindMint$Proposal") (T := bt_Q) (N := 4) hx hb hts bu_Q hown hK hM h0 rfl 0 (by decide) (hts _ bw_71) (fun _ h9 => h9) rfl dQ_init_40 ?_
  refine lv_iload_n hx hb dQ_init_43 rfl (lv_at hl 0 rfl) ?_
  refine bm_newz (ci := 1) (fs := [.long 0, .long 0, .long 0, .long 0, .long 0, .long 0, .long 0]) (C := "BlindMint$Candidate") (T := bt_C) (N := 7) hz hx hb hts bu_C by_C bo_C hown (hts _ bw_35) (hts _ bw_37) (hts _ bw_3) hK hM hS (Nat.le_trans hG.2.1 hS.1) rfl (fun j hj => by rcases (show j = 0 ∨ j = 1 ∨ j = 2 ∨ j = 3 ∨ j = 4 ∨ j = 5 ∨ j = 6 by omega) with rfl | rfl | rfl | rfl | rfl | rfl | rfl <;> rfl) (by rw [← hR]; exact Nat.le_of_ble_eq_true rfl) (by rw [← hR]; exact Nat.le_of_ble_eq_true rfl) dQ_init_44 (fun H hz1 hM hS => ?_)
  replace hz : H.size = q + 8 := hz1
  obtain ⟨M21, eM21⟩ : ∃ X, X = bm_up M20 (q + 7) (.inr (1, [.long 0, .long 0, .long 0, .long 0, .long 0, .long 0, .long 0])) := ⟨_, rfl⟩
  replace hM : bm_M D base M21 H := by rw [eM21]; exact hM
  replace h0 : M21 q = some (.inr (5, [.ref (q + 1), .ref (q + 2), .int 0, .int 0])) := by rw [eM21, bm_up_ne (bm_ne0 (k := 6))]; exact h0
  replace hc2 : M21 (q + 1) = some (.inl (ct 5, 6, .inr (.inr (.inr (.inr (va_up (va_up (va_up (va_up (fun _ => none) 0 (some (q + 3))) 1 (some (q + 4))) 2 (some (q + 5))) 3 (some (q + 6)))))))) := by rw [eM21, bm_up_ne (bm_nea (by decide))]; exact hc2
  replace hc5 : M21 (q + 2) = some (.inl (ct 5, 4, .inr (.inr (.inr (.inr (fun _ => none)))))) := by rw [eM21, bm_up_ne (bm_nea (by decide))]; exact hc5
  replace hc10 : M21 (q + 3) = some (.inr (1, [.long 0, .long 0, .long 0, .long 0, .long 0, .long 0, .long 0])) := by rw [eM21, bm_up_ne (bm_nea (by decide))]; exact hc10
  replace hc13 : M21 (q + 4) = some (.inr (1, [.long 0, .long 0, .long 0, .long 0, .long 0, .long 0, .long 0])) := by rw [eM21, bm_up_ne (bm_nea (by decide))]; exact hc13
  replace hc16 : M21 (q + 5) = some (.inr (1, [.long 0, .long 0, .long 0, .long 0, .long 0, .long 0, .long 0])) := by rw [eM21, bm_up_ne (bm_nea (by decide))]; exact hc16
  replace hc19 : M21 (q + 6) = some (.inr (1, [.long 0, .long 0, .long 0, .long 0, .long 0, .long 0, .long 0])) := by rw [eM21, bm_up_ne (bm_nea (by decide))]; exact hc19
  have hc22 : M21 (q + 7) = some (.inr (1, [.long 0, .long 0, .long 0, .long 0, .long 0, .long 0, .long 0])) := by rw [eM21]; exact bm_up_self _ _ _
  replace hF : ∀ a, a < q → M21 a = M a := fun a ha => by rw [eM21]; exact (bm_up_ne (bm_lnea ha)).trans (hF a ha)
  clear eM21 hz1
  refine lv_dup hx hb dQ_init_47 rfl ?_
  refine bm_callU (va_runIN (b := q + 7) (As := []) (rest := [.ref (q + 7), .int 4, .ref (q + 1)]) ⟨hx, hb, hml, hown, hts⟩ (bc_C_init l D ct base ad M21 (q + 8) (q + 7)) ⟨va_cnB 0 hts (bm_goodW bw_40) rfl rfl rfl (hG.2.2.1.w38) (hts _ bw_3) (by decide +kernel) (by rw [← hR]; exact ⟨Nat.le_of_ble_eq_true rfl, Nat.le_of_ble_eq_true rfl⟩), rfl, hts _ bw_39⟩ (bm_preS hM hG hS hz) rfl rfl hl.1 rfl (lv_room (Nat.le_of_ble_eq_true rfl)) dQ_init_48 (by rw [← hR]; exact ⟨Nat.le_of_ble_eq_true rfl, Nat.le_of_ble_eq_true rfl⟩)) hS (fun H locs hz hM hS => ?_)
  refine bm_aast hx hb hK hM hS 5 1 (r := ("BlindMint$Candidate", bt_C, 7)) hc2 rfl hc22 rfl 4 (bm_ix_nI (k := 4) (by decide)) (by decide) dQ_init_51 (fun H locs hz1 hM hS => ?_)
  replace hz := hz1.trans hz
  replace hM : bm_M D base (bm_up M21 (q + 1) (.inl (ct 5, 6, .inr (.inr (.inr (.inr (va_up (va_up (va_up (va_up (va_up (fun _ => none) 0 (some (q + 3))) 1 (some (q + 4))) 2 (some (q + 5))) 3 (some (q + 6))) 4 (some (q + 7))))))))) H := hM
  obtain ⟨M23, eM23⟩ : ∃ X, X = bm_up M21 (q + 1) (.inl (ct 5, 6, .inr (.inr (.inr (.inr (va_up (va_up (va_up (va_up (va_up (fun _ => none) 0 (some (q + 3))) 1 (some (q + 4))) 2 (some (q + 5))) 3 (some (q + 6))) 4 (some (q + 7)))))))) := ⟨_, rfl⟩
  rw [← eM23] at hM
  replace h0 : M23 q = some (.inr (5, [.ref (q + 1), .ref (q + 2), .int 0, .int 0])) := by rw [eM23, bm_up_ne (bm_ne0 (k := 0))]; exact h0
  replace hc5 : M23 (q + 2) = some (.inl (ct 5, 4, .inr (.inr (.inr (.inr (fun _ => none)))))) := by rw [eM23, bm_up_ne (bm_nea (by decide))]; exact hc5
  replace hc10 : M23 (q + 3) = some (.inr (1, [.long 0, .long 0, .long 0, .long 0, .long 0, .long 0, .long 0])) := by rw [eM23, bm_up_ne (bm_nea (by decide))]; exact hc10
  replace hc13 : M23 (q + 4) = some (.inr (1, [.long 0, .long 0, .long 0, .long 0, .long 0, .long 0, .long 0])) := by rw [eM23, bm_up_ne (bm_nea (by decide))]; exact hc13
  replace hc16 : M23 (q + 5) = some (.inr (1, [.long 0, .long 0, .long 0, .long 0, .long 0, .long 0, .long 0])) := by rw [eM23, bm_up_ne (bm_nea (by decide))]; exact hc16
  replace hc19 : M23 (q + 6) = some (.inr (1, [.long 0, .long 0, .long 0, .long 0, .long 0, .long 0, .long 0])) := by rw [eM23, bm_up_ne (bm_nea (by decide))]; exact hc19
  replace hc22 : M23 (q + 7) = some (.inr (1, [.long 0, .long 0, .long 0, .long 0, .long 0, .long 0, .long 0])) := by rw [eM23, bm_up_ne (bm_nea (by decide))]; exact hc22
  replace hc2 : M23 (q + 1) = some (.inl (ct 5, 6, .inr (.inr (.inr (.inr (va_up (va_up (va_up (va_up (va_up (fun _ => none) 0 (some (q + 3))) 1 (some (q + 4))) 2 (some (q + 5))) 3 (some (q + 6))) 4 (some (q + 7)))))))) := by rw [eM23]; exact bm_up_self _ _ _
  replace hF : ∀ a, a < q → M23 a = M a := fun a ha => by rw [eM23]; exact (bm_up_ne (bm_lnea ha)).trans (hF a ha)
  clear eM23
  refine lv_iinc (v := 5) (k := 0) hx hb dQ_init_52 hl rfl (by decide) (by decide) rfl (fun ls hl => ?_)
  have hl : lv_has ls 2 [(1, .int 5), (0, .ref q)] := hl
  refine lv_goto (tgt := 33) hx hb dQ_init_55 rfl ?_
  refine lv_iload_n hx hb dQ_init_33 rfl (lv_at hl 0 rfl) ?_
  refine lv_bipush (v := 6) hx hb dQ_init_34 (by decide) ?_
  refine lv_icmp_ge (tgt := 58) hx hb dQ_init_36 rfl (fun h => absurd h (by decide)) (fun _ => ?_)
  refine lv_aload_n hx hb dQ_init_39 rfl (lv_at hl 1 rfl) ?_
  refine bm_get (ci := 5) (v := .ref (q + 1)) (C := "BlindMint$Proposal") (T := bt_Q) (N := 4) hx hb hts bu_Q hown hK hM h0 rfl 0 (by decide) (hts _ bw_71) (fun _ h9 => h9) rfl dQ_init_40 ?_
  refine lv_iload_n hx hb dQ_init_43 rfl (lv_at hl 0 rfl) ?_
  refine bm_newz (ci := 1) (fs := [.long 0, .long 0, .long 0, .long 0, .long 0, .long 0, .long 0]) (C := "BlindMint$Candidate") (T := bt_C) (N := 7) hz hx hb hts bu_C by_C bo_C hown (hts _ bw_35) (hts _ bw_37) (hts _ bw_3) hK hM hS (Nat.le_trans hG.2.1 hS.1) rfl (fun j hj => by rcases (show j = 0 ∨ j = 1 ∨ j = 2 ∨ j = 3 ∨ j = 4 ∨ j = 5 ∨ j = 6 by omega) with rfl | rfl | rfl | rfl | rfl | rfl | rfl <;> rfl) (by rw [← hR]; exact Nat.le_of_ble_eq_true rfl) (by rw [← hR]; exact Nat.le_of_ble_eq_true rfl) dQ_init_44 (fun H hz1 hM hS => ?_)
  replace hz : H.size = q + 9 := hz1
  obtain ⟨M24, eM24⟩ : ∃ X, X = bm_up M23 (q + 8) (.inr (1, [.long 0, .long 0, .long 0, .long 0, .long 0, .long 0, .long 0])) := ⟨_, rfl⟩
  replace hM : bm_M D base M24 H := by rw [eM24]; exact hM
  replace h0 : M24 q = some (.inr (5, [.ref (q + 1), .ref (q + 2), .int 0, .int 0])) := by rw [eM24, bm_up_ne (bm_ne0 (k := 7))]; exact h0
  replace hc2 : M24 (q + 1) = some (.inl (ct 5, 6, .inr (.inr (.inr (.inr (va_up (va_up (va_up (va_up (va_up (fun _ => none) 0 (some (q + 3))) 1 (some (q + 4))) 2 (some (q + 5))) 3 (some (q + 6))) 4 (some (q + 7)))))))) := by rw [eM24, bm_up_ne (bm_nea (by decide))]; exact hc2
  replace hc5 : M24 (q + 2) = some (.inl (ct 5, 4, .inr (.inr (.inr (.inr (fun _ => none)))))) := by rw [eM24, bm_up_ne (bm_nea (by decide))]; exact hc5
  replace hc10 : M24 (q + 3) = some (.inr (1, [.long 0, .long 0, .long 0, .long 0, .long 0, .long 0, .long 0])) := by rw [eM24, bm_up_ne (bm_nea (by decide))]; exact hc10
  replace hc13 : M24 (q + 4) = some (.inr (1, [.long 0, .long 0, .long 0, .long 0, .long 0, .long 0, .long 0])) := by rw [eM24, bm_up_ne (bm_nea (by decide))]; exact hc13
  replace hc16 : M24 (q + 5) = some (.inr (1, [.long 0, .long 0, .long 0, .long 0, .long 0, .long 0, .long 0])) := by rw [eM24, bm_up_ne (bm_nea (by decide))]; exact hc16
  replace hc19 : M24 (q + 6) = some (.inr (1, [.long 0, .long 0, .long 0, .long 0, .long 0, .long 0, .long 0])) := by rw [eM24, bm_up_ne (bm_nea (by decide))]; exact hc19
  replace hc22 : M24 (q + 7) = some (.inr (1, [.long 0, .long 0, .long 0, .long 0, .long 0, .long 0, .long 0])) := by rw [eM24, bm_up_ne (bm_nea (by decide))]; exact hc22
  have hc25 : M24 (q + 8) = some (.inr (1, [.long 0, .long 0, .long 0, .long 0, .long 0, .long 0, .long 0])) := by rw [eM24]; exact bm_up_self _ _ _
  replace hF : ∀ a, a < q → M24 a = M a := fun a ha => by rw [eM24]; exact (bm_up_ne (bm_lnea ha)).trans (hF a ha)
  clear eM24 hz1
  refine lv_dup hx hb dQ_init_47 rfl ?_
  refine bm_callU (va_runIN (b := q + 8) (As := []) (rest := [.ref (q + 8), .int 5, .ref (q + 1)]) ⟨hx, hb, hml, hown, hts⟩ (bc_C_init l D ct base ad M24 (q + 9) (q + 8)) ⟨va_cnB 0 hts (bm_goodW bw_40) rfl rfl rfl (hG.2.2.1.w38) (hts _ bw_3) (by decide +kernel) (by rw [← hR]; exact ⟨Nat.le_of_ble_eq_true rfl, Nat.le_of_ble_eq_true rfl⟩), rfl, hts _ bw_39⟩ (bm_preS hM hG hS hz) rfl rfl hl.1 rfl (lv_room (Nat.le_of_ble_eq_true rfl)) dQ_init_48 (by rw [← hR]; exact ⟨Nat.le_of_ble_eq_true rfl, Nat.le_of_ble_eq_true rfl⟩)) hS (fun H locs hz hM hS => ?_)
  refine bm_aast hx hb hK hM hS 5 1 (r := ("BlindMint$Candidate", bt_C, 7)) hc2 rfl hc25 rfl 5 (bm_ix_nI (k := 5) (by decide)) (by decide) dQ_init_51 (fun H locs hz1 hM hS => ?_)
  replace hz := hz1.trans hz
  replace hM : bm_M D base (bm_up M24 (q + 1) (.inl (ct 5, 6, .inr (.inr (.inr (.inr (va_up (va_up (va_up (va_up (va_up (va_up (fun _ => none) 0 (some (q + 3))) 1 (some (q + 4))) 2 (some (q + 5))) 3 (some (q + 6))) 4 (some (q + 7))) 5 (some (q + 8))))))))) H := hM
  obtain ⟨M26, eM26⟩ : ∃ X, X = bm_up M24 (q + 1) (.inl (ct 5, 6, .inr (.inr (.inr (.inr (va_up (va_up (va_up (va_up (va_up (va_up (fun _ => none) 0 (some (q + 3))) 1 (some (q + 4))) 2 (some (q + 5))) 3 (some (q + 6))) 4 (some (q + 7))) 5 (some (q + 8)))))))) := ⟨_, rfl⟩
  rw [← eM26] at hM
  replace h0 : M26 q = some (.inr (5, [.ref (q + 1), .ref (q + 2), .int 0, .int 0])) := by rw [eM26, bm_up_ne (bm_ne0 (k := 0))]; exact h0
  replace hc5 : M26 (q + 2) = some (.inl (ct 5, 4, .inr (.inr (.inr (.inr (fun _ => none)))))) := by rw [eM26, bm_up_ne (bm_nea (by decide))]; exact hc5
  replace hc10 : M26 (q + 3) = some (.inr (1, [.long 0, .long 0, .long 0, .long 0, .long 0, .long 0, .long 0])) := by rw [eM26, bm_up_ne (bm_nea (by decide))]; exact hc10
  replace hc13 : M26 (q + 4) = some (.inr (1, [.long 0, .long 0, .long 0, .long 0, .long 0, .long 0, .long 0])) := by rw [eM26, bm_up_ne (bm_nea (by decide))]; exact hc13
  replace hc16 : M26 (q + 5) = some (.inr (1, [.long 0, .long 0, .long 0, .long 0, .long 0, .long 0, .long 0])) := by rw [eM26, bm_up_ne (bm_nea (by decide))]; exact hc16
  replace hc19 : M26 (q + 6) = some (.inr (1, [.long 0, .long 0, .long 0, .long 0, .long 0, .long 0, .long 0])) := by rw [eM26, bm_up_ne (bm_nea (by decide))]; exact hc19
  replace hc22 : M26 (q + 7) = some (.inr (1, [.long 0, .long 0, .long 0, .long 0, .long 0, .long 0, .long 0])) := by rw [eM26, bm_up_ne (bm_nea (by decide))]; exact hc22
  replace hc25 : M26 (q + 8) = some (.inr (1, [.long 0, .long 0, .long 0, .long 0, .long 0, .long 0, .long 0])) := by rw [eM26, bm_up_ne (bm_nea (by decide))]; exact hc25
  replace hc2 : M26 (q + 1) = some (.inl (ct 5, 6, .inr (.inr (.inr (.inr (va_up (va_up (va_up (va_up (va_up (va_up (fun _ => none) 0 (some (q + 3))) 1 (some (q + 4))) 2 (some (q + 5))) 3 (some (q + 6))) 4 (some (q + 7))) 5 (some (q + 8)))))))) := by rw [eM26]; exact bm_up_self _ _ _
  replace hF : ∀ a, a < q → M26 a = M a := fun a ha => by rw [eM26]; exact (bm_up_ne (bm_lnea ha)).trans (hF a ha)
  clear eM26
  refine lv_iinc (v := 6) (k := 0) hx hb dQ_init_52 hl rfl (by decide) (by decide) rfl (fun ls hl => ?_)
  have hl : lv_has ls 2 [(1, .int 6), (0, .ref q)] := hl
  refine lv_goto (tgt := 33) hx hb dQ_init_55 rfl ?_
  refine lv_iload_n hx hb dQ_init_33 rfl (lv_at hl 0 rfl) ?_
  refine lv_bipush (v := 6) hx hb dQ_init_34 (by decide) ?_
  refine lv_icmp_ge (tgt := 58) hx hb dQ_init_36 rfl (fun _ => ?_) (fun h => absurd h (by decide))
  exact bm_vret hQ hx hb hr hlk hM hS ⟨rfl, hz, _, h0, hc2, bm_cf6, hc5, bm_al6 (p := fun j => M26 (q + (3 + j)) = some (.inr (1, [.long 0, .long 0, .long 0, .long 0, .long 0, .long 0, .long 0]))) hc10 hc13 hc16 hc19 hc22 hc25, hF⟩ (Nat.le_of_ble_eq_true rfl) (Nat.le_of_ble_eq_true rfl) dQ_init_58
