set_option maxHeartbeats 4000000 in
set_option maxRecDepth 100000 in
theorem bc_B_init (l : Launch) (D : va_G) (ct : Nat → ClassId) (base : Nat) (ad : Nat → Nat) (M : bm_Map) (sz : Nat) (x : Nat) (h0 : M x = some (.inr (6, [.null, .null, .null, .int 0, .null, .null, .int 0, .long 0, .int 0, .int 0, .int 0, .int 0]))) : Met l yB_init (bm_ws yB_init cB_init 2 none) { frames := 3, cells := 20, slots := 132, locals := 71 } (bm_Pre D ct base ad M (x + 1) [.ref x]) (bm_Post D base (fun v M1 n => v = none ∧ n = x + 21 ∧ ∃ cf ac : Nat → Option Nat, M1 x = some (.inr (6, [.ref (x + 1), .ref (x + 2), .ref (x + 11), .int 0, .ref (x + 12), .null, .int (-1), .long (-1), .int 0, .int 0, .int 0, .int 0])) ∧ M1 (x + 1) = some (.inl (ct 3, 4, .inr (.inr (.inr (.inr ac))))) ∧ (∀ a, a < 4 → ac a = some (x + (13 + 2 * a))) ∧ M1 (x + 2) = some (.inr (5, [.ref (x + 3), .ref (x + 4), .int 0, .int 0])) ∧ M1 (x + 3) = some (.inl (ct 5, 6, .inr (.inr (.inr (.inr cf))))) ∧ (∀ j, j < 6 → cf j = some (x + (5 + j))) ∧ M1 (x + 4) = some (.inl (ct 5, 4, .inr (.inr (.inr (.inr (fun _ => none)))))) ∧ (∀ j, j < 6 → M1 (x + (5 + j)) = some (.inr (1, [.long 0, .long 0, .long 0, .long 0, .long 0, .long 0, .long 0]))) ∧ M1 (x + 11) = some (.inl (ct 4, 20, .inr (.inr (.inr (.inr (fun _ => none)))))) ∧ M1 (x + 12) = some (.inl (ct 1, 4, .inr (.inl (fun _ => 0)))) ∧ (∀ a, a < 4 → M1 (x + (13 + 2 * a)) = some (.inr (0, [.int 100, .ref (x + (14 + 2 * a)), .int 0]))) ∧ (∀ a, a < 4 → M1 (x + (14 + 2 * a)) = some (.inl (ct 6, 8, .inr (.inr (.inr (.inr (fun _ => none))))))) ∧ ∀ a, a < x → M1 a = M a)) 20 132 (bm_A base) := by
  refine bm_ofB (cc := cB_init) (maxL := 2) (ret := none) (by decide +kernel) (Nat.le_of_ble_eq_true rfl) ?_
  intro vp ve s vm args below meth vc hx hb hr hlk hts hown hml hnm ls hl hz hM hG R Q hR hQ
  have hown : s.vm.findClass "BlindMint" = some vm.cls := hown
  have hK := hG.K
  have hS : va_S (bm_A base) s.heap s.heap [] := va_S.rf
  have hl : lv_has ls 2 [(0, .ref x)] := hl
  have hF : ∀ a, a < x → M a = M a := fun _ _ => rfl
  refine lv_aload_n hx hb dB_init_0 rfl (lv_at hl 0 rfl) ?_
  refine W.objInit hx hb hown (hts _ bw_24) (hts _ bw_25) (hts _ bw_26) rfl (by rw [hml]; exact hl.1) rfl dB_init_1 (by rw [← hR]; exact Nat.le_of_ble_eq_true rfl) (by rw [← hR]; exact Nat.le_of_ble_eq_true rfl) ?_
  refine W.eq (g2 := F0 vm 4 ls []) rfl ?_
  refine lv_aload_n hx hb dB_init_4 rfl (lv_at hl 0 rfl) ?_
  refine lv_iconst (v := 4) hx hb dB_init_5 (by decide) ?_
  refine bm_newqz hz hx hb hown (hts _ bw_27) (va_AO.use hG.2.2.1.o28) hK hM hS (Nat.le_trans hG.2.1 hS.1) 3 rfl (N' := 4) (by decide) (by decide) (Nat.le_of_ble_eq_true rfl) (by rw [← hR]; exact Nat.le_of_ble_eq_true rfl) (by rw [← hR]; exact Nat.le_of_ble_eq_true rfl) dB_init_6 (fun H hz1 hM hS => ?_)
  replace hz : H.size = x + 2 := hz1
  obtain ⟨M1, eM1⟩ : ∃ X, X = bm_up M (x + 1) (.inl (ct 3, 4, .inr (.inr (.inr (.inr (fun _ => none)))))) := ⟨_, rfl⟩
  replace hM : bm_M D base M1 H := by rw [eM1]; exact hM
  replace h0 : M1 x = some (.inr (6, [.null, .null, .null, .int 0, .null, .null, .int 0, .long 0, .int 0, .int 0, .int 0, .int 0])) := by rw [eM1, bm_up_ne (bm_ne0 (k := 0))]; exact h0
  have hc2 : M1 (x + 1) = some (.inl (ct 3, 4, .inr (.inr (.inr (.inr (fun _ => none)))))) := by rw [eM1]; exact bm_up_self _ _ _
  replace hF : ∀ a, a < x → M1 a = M a := fun a ha => by rw [eM1]; exact (bm_up_ne (bm_lnea ha)).trans (hF a ha)
  clear eM1 hz1
  refine bm_putF (ci := 6) (v := .ref (x + 1)) (ty := (.array (.object "BlindMint$Account"))) (C := "BlindMint") (T := bt_B) (N := 12) hx hb hts bu_B by_B bo_B bn_B hown hK hM hS h0 rfl 0 (by decide) (hts _ bw_109) (fun _ h9 => h9) rfl hnm rfl (by decide +kernel) rfl rfl (Nat.le_of_ble_eq_true rfl) dB_init_9 (fun H locs hz1 hM hS => ?_)
  replace hz := hz1.trans hz
  replace hM : bm_M D base (bm_up M1 x (.inr (6, [.ref (x + 1), .null, .null, .int 0, .null, .null, .int 0, .long 0, .int 0, .int 0, .int 0, .int 0]))) H := hM
  obtain ⟨M3, eM3⟩ : ∃ X, X = bm_up M1 x (.inr (6, [.ref (x + 1), .null, .null, .int 0, .null, .null, .int 0, .long 0, .int 0, .int 0, .int 0, .int 0])) := ⟨_, rfl⟩
  rw [← eM3] at hM
  replace hc2 : M3 (x + 1) = some (.inl (ct 3, 4, .inr (.inr (.inr (.inr (fun _ => none)))))) := by rw [eM3, bm_up_ne (bm_ne1 (k := 0))]; exact hc2
  replace h0 : M3 x = some (.inr (6, [.ref (x + 1), .null, .null, .int 0, .null, .null, .int 0, .long 0, .int 0, .int 0, .int 0, .int 0])) := by rw [eM3]; exact bm_up_self _ _ _
  replace hF : ∀ a, a < x → M3 a = M a := fun a ha => by rw [eM3]; exact (bm_up_ne (bm_lne0 ha)).trans (hF a ha)
  clear eM3
  refine lv_aload_n hx hb dB_init_12 rfl (lv_at hl 0 rfl) ?_
  refine bm_newz (ci := 5) (fs := [.null, .null, .int 0, .int 0]) (C := "BlindMint$Proposal") (T := bt_Q) (N := 4) hz hx hb hts bu_Q by_Q bo_Q hown (hts _ bw_29) (hts _ bw_30) (hts _ bw_2) hK hM hS (Nat.le_trans hG.2.1 hS.1) rfl (fun j hj => by rcases (show j = 0 ∨ j = 1 ∨ j = 2 ∨ j = 3 by omega) with rfl | rfl | rfl | rfl <;> rfl) (by rw [← hR]; exact Nat.le_of_ble_eq_true rfl) (by rw [← hR]; exact Nat.le_of_ble_eq_true rfl) dB_init_13 (fun H hz1 hM hS => ?_)
  replace hz : H.size = x + 3 := hz1
  obtain ⟨M4, eM4⟩ : ∃ X, X = bm_up M3 (x + 2) (.inr (5, [.null, .null, .int 0, .int 0])) := ⟨_, rfl⟩
  replace hM : bm_M D base M4 H := by rw [eM4]; exact hM
  replace h0 : M4 x = some (.inr (6, [.ref (x + 1), .null, .null, .int 0, .null, .null, .int 0, .long 0, .int 0, .int 0, .int 0, .int 0])) := by rw [eM4, bm_up_ne (bm_ne0 (k := 1))]; exact h0
  replace hc2 : M4 (x + 1) = some (.inl (ct 3, 4, .inr (.inr (.inr (.inr (fun _ => none)))))) := by rw [eM4, bm_up_ne (bm_nea (by decide))]; exact hc2
  have hc5 : M4 (x + 2) = some (.inr (5, [.null, .null, .int 0, .int 0])) := by rw [eM4]; exact bm_up_self _ _ _
  replace hF : ∀ a, a < x → M4 a = M a := fun a ha => by rw [eM4]; exact (bm_up_ne (bm_lnea ha)).trans (hF a ha)
  clear eM4 hz1
  refine lv_dup hx hb dB_init_16 rfl ?_
  refine bm_call (va_runI (b := x + 2) (As := []) (rest := [.ref (x + 2), .ref x]) ⟨hx, hb, hml, hown, hts⟩ (bc_Q_init l D ct base ad M4 (x + 3) (x + 2) hc5) (cwI 0 hts (bm_goodW bw_33) rfl rfl rfl (hts _ bw_2) (hts _ bw_31) (hts _ bw_32) rfl (by decide +kernel) (by rw [← hR]; exact ⟨Nat.le_of_ble_eq_true rfl, Nat.le_of_ble_eq_true rfl⟩)) (bm_preS hM hG hS hz) rfl rfl hl.1 rfl (lv_room (Nat.le_of_ble_eq_true rfl)) dB_init_17 (by rw [← hR]; exact ⟨Nat.le_of_ble_eq_true rfl, Nat.le_of_ble_eq_true rfl⟩)) hS (fun v9 M6 H locs hq hM hS _ => ?_)
  obtain ⟨rfl, hz, cf, f0, f1, hcf, f2, f4, hfr⟩ := hq
  replace hz : H.size = x + 11 := hz
  replace h0 : M6 x = some (.inr (6, [.ref (x + 1), .null, .null, .int 0, .null, .null, .int 0, .long 0, .int 0, .int 0, .int 0, .int 0])) := by rw [hfr x (by omega)]; exact h0
  replace hc2 : M6 (x + 1) = some (.inl (ct 3, 4, .inr (.inr (.inr (.inr (fun _ => none)))))) := by rw [hfr (x + 1) (by omega)]; exact hc2
  replace f0 : M6 (x + 2) = some (.inr (5, [.ref (x + 3), .ref (x + 4), .int 0, .int 0])) := f0
  replace f1 : M6 (x + 3) = some (.inl (ct 5, 6, .inr (.inr (.inr (.inr cf))))) := f1
  replace f2 : M6 (x + 4) = some (.inl (ct 5, 4, .inr (.inr (.inr (.inr (fun _ => none)))))) := f2
  have k0 : M6 (x + 5) = some (.inr (1, [.long 0, .long 0, .long 0, .long 0, .long 0, .long 0, .long 0])) := f4 0 (by decide)
  have k1 : M6 (x + 6) = some (.inr (1, [.long 0, .long 0, .long 0, .long 0, .long 0, .long 0, .long 0])) := f4 1 (by decide)
  have k2 : M6 (x + 7) = some (.inr (1, [.long 0, .long 0, .long 0, .long 0, .long 0, .long 0, .long 0])) := f4 2 (by decide)
  have k3 : M6 (x + 8) = some (.inr (1, [.long 0, .long 0, .long 0, .long 0, .long 0, .long 0, .long 0])) := f4 3 (by decide)
  have k4 : M6 (x + 9) = some (.inr (1, [.long 0, .long 0, .long 0, .long 0, .long 0, .long 0, .long 0])) := f4 4 (by decide)
  have k5 : M6 (x + 10) = some (.inr (1, [.long 0, .long 0, .long 0, .long 0, .long 0, .long 0, .long 0])) := f4 5 (by decide)
  replace hF : ∀ a, a < x → M6 a = M a := fun a ha => (hfr a (by omega)).trans (hF a ha)
  clear hfr f4
  refine bm_putF (ci := 6) (v := .ref (x + 2)) (ty := (.object "BlindMint$Proposal")) (C := "BlindMint") (T := bt_B) (N := 12) hx hb hts bu_B by_B bo_B bn_B hown hK hM hS h0 rfl 1 (by decide) (hts _ bw_110) (fun _ h9 => h9) rfl hnm rfl (by decide +kernel) rfl rfl (Nat.le_of_ble_eq_true rfl) dB_init_20 (fun H locs hz1 hM hS => ?_)
  replace hz := hz1.trans hz
  replace hM : bm_M D base (bm_up M6 x (.inr (6, [.ref (x + 1), .ref (x + 2), .null, .int 0, .null, .null, .int 0, .long 0, .int 0, .int 0, .int 0, .int 0]))) H := hM
  obtain ⟨M7, eM7⟩ : ∃ X, X = bm_up M6 x (.inr (6, [.ref (x + 1), .ref (x + 2), .null, .int 0, .null, .null, .int 0, .long 0, .int 0, .int 0, .int 0, .int 0])) := ⟨_, rfl⟩
  rw [← eM7] at hM
  replace hc2 : M7 (x + 1) = some (.inl (ct 3, 4, .inr (.inr (.inr (.inr (fun _ => none)))))) := by rw [eM7, bm_up_ne (bm_ne1 (k := 0))]; exact hc2
  replace f0 : M7 (x + 2) = some (.inr (5, [.ref (x + 3), .ref (x + 4), .int 0, .int 0])) := by rw [eM7, bm_up_ne (bm_ne1 (k := 1))]; exact f0
  replace f1 : M7 (x + 3) = some (.inl (ct 5, 6, .inr (.inr (.inr (.inr cf))))) := by rw [eM7, bm_up_ne (bm_ne1 (k := 2))]; exact f1
  replace f2 : M7 (x + 4) = some (.inl (ct 5, 4, .inr (.inr (.inr (.inr (fun _ => none)))))) := by rw [eM7, bm_up_ne (bm_ne1 (k := 3))]; exact f2
  replace k0 : M7 (x + 5) = some (.inr (1, [.long 0, .long 0, .long 0, .long 0, .long 0, .long 0, .long 0])) := by rw [eM7, bm_up_ne (bm_ne1 (k := 4))]; exact k0
  replace k1 : M7 (x + 6) = some (.inr (1, [.long 0, .long 0, .long 0, .long 0, .long 0, .long 0, .long 0])) := by rw [eM7, bm_up_ne (bm_ne1 (k := 5))]; exact k1
  replace k2 : M7 (x + 7) = some (.inr (1, [.long 0, .long 0, .long 0, .long 0, .long 0, .long 0, .long 0])) := by rw [eM7, bm_up_ne (bm_ne1 (k := 6))]; exact k2
  replace k3 : M7 (x + 8) = some (.inr (1, [.long 0, .long 0, .long 0, .long 0, .long 0, .long 0, .long 0])) := by rw [eM7, bm_up_ne (bm_ne1 (k := 7))]; exact k3
  replace k4 : M7 (x + 9) = some (.inr (1, [.long 0, .long 0, .long 0, .long 0, .long 0, .long 0, .long 0])) := by rw [eM7, bm_up_ne (bm_ne1 (k := 8))]; exact k4
  replace k5 : M7 (x + 10) = some (.inr (1, [.long 0, .long 0, .long 0, .long 0, .long 0, .long 0, .long 0])) := by rw [eM7, bm_up_ne (bm_ne1 (k := 9))]; exact k5
  replace h0 : M7 x = some (.inr (6, [.ref (x + 1), .ref (x + 2), .null, .int 0, .null, .null, .int 0, .long 0, .int 0, .int 0, .int 0, .int 0])) := by rw [eM7]; exact bm_up_self _ _ _
  replace hF : ∀ a, a < x → M7 a = M a := fun a ha => by rw [eM7]; exact (bm_up_ne (bm_lne0 ha)).trans (hF a ha)
  clear eM7
  refine lv_aload_n hx hb dB_init_23 rfl (lv_at hl 0 rfl) ?_
  refine lv_bipush (v := 20) hx hb dB_init_24 (by decide) ?_
  refine bm_newqz hz hx hb hown (hts _ bw_85) (va_AO.use hG.2.2.1.o86) hK hM hS (Nat.le_trans hG.2.1 hS.1) 4 rfl (N' := 20) (by decide) (by decide) (Nat.le_of_ble_eq_true rfl) (by rw [← hR]; exact Nat.le_of_ble_eq_true rfl) (by rw [← hR]; exact Nat.le_of_ble_eq_true rfl) dB_init_26 (fun H hz1 hM hS => ?_)
  replace hz : H.size = x + 12 := hz1
  obtain ⟨M8, eM8⟩ : ∃ X, X = bm_up M7 (x + 11) (.inl (ct 4, 20, .inr (.inr (.inr (.inr (fun _ => none)))))) := ⟨_, rfl⟩
  replace hM : bm_M D base M8 H := by rw [eM8]; exact hM
  replace h0 : M8 x = some (.inr (6, [.ref (x + 1), .ref (x + 2), .null, .int 0, .null, .null, .int 0, .long 0, .int 0, .int 0, .int 0, .int 0])) := by rw [eM8, bm_up_ne (bm_ne0 (k := 10))]; exact h0
  replace hc2 : M8 (x + 1) = some (.inl (ct 3, 4, .inr (.inr (.inr (.inr (fun _ => none)))))) := by rw [eM8, bm_up_ne (bm_nea (by decide))]; exact hc2
  replace f0 : M8 (x + 2) = some (.inr (5, [.ref (x + 3), .ref (x + 4), .int 0, .int 0])) := by rw [eM8, bm_up_ne (bm_nea (by decide))]; exact f0
  replace f1 : M8 (x + 3) = some (.inl (ct 5, 6, .inr (.inr (.inr (.inr cf))))) := by rw [eM8, bm_up_ne (bm_nea (by decide))]; exact f1
  replace f2 : M8 (x + 4) = some (.inl (ct 5, 4, .inr (.inr (.inr (.inr (fun _ => none)))))) := by rw [eM8, bm_up_ne (bm_nea (by decide))]; exact f2
  replace k0 : M8 (x + 5) = some (.inr (1, [.long 0, .long 0, .long 0, .long 0, .long 0, .long 0, .long 0])) := by rw [eM8, bm_up_ne (bm_nea (by decide))]; exact k0
  replace k1 : M8 (x + 6) = some (.inr (1, [.long 0, .long 0, .long 0, .long 0, .long 0, .long 0, .long 0])) := by rw [eM8, bm_up_ne (bm_nea (by decide))]; exact k1
  replace k2 : M8 (x + 7) = some (.inr (1, [.long 0, .long 0, .long 0, .long 0, .long 0, .long 0, .long 0])) := by rw [eM8, bm_up_ne (bm_nea (by decide))]; exact k2
  replace k3 : M8 (x + 8) = some (.inr (1, [.long 0, .long 0, .long 0, .long 0, .long 0, .long 0, .long 0])) := by rw [eM8, bm_up_ne (bm_nea (by decide))]; exact k3
  replace k4 : M8 (x + 9) = some (.inr (1, [.long 0, .long 0, .long 0, .long 0, .long 0, .long 0, .long 0])) := by rw [eM8, bm_up_ne (bm_nea (by decide))]; exact k4
  replace k5 : M8 (x + 10) = some (.inr (1, [.long 0, .long 0, .long 0, .long 0, .long 0, .long 0, .long 0])) := by rw [eM8, bm_up_ne (bm_nea (by decide))]; exact k5
  have hc9 : M8 (x + 11) = some (.inl (ct 4, 20, .inr (.inr (.inr (.inr (fun _ => none)))))) := by rw [eM8]; exact bm_up_self _ _ _
  replace hF : ∀ a, a < x → M8 a = M a := fun a ha => by rw [eM8]; exact (bm_up_ne (bm_lnea ha)).trans (hF a ha)
  clear eM8 hz1
  refine bm_putF (ci := 6) (v := .ref (x + 11)) (ty := (.array (.object "BlindMint$Payment"))) (C := "BlindMint") (T := bt_B) (N := 12) hx hb hts bu_B by_B bo_B bn_B hown hK hM hS h0 rfl 2 (by decide) (hts _ bw_111) (fun _ h9 => h9) rfl hnm rfl (by decide +kernel) rfl rfl (Nat.le_of_ble_eq_true rfl) dB_init_29 (fun H locs hz1 hM hS => ?_)
  replace hz := hz1.trans hz
  replace hM : bm_M D base (bm_up M8 x (.inr (6, [.ref (x + 1), .ref (x + 2), .ref (x + 11), .int 0, .null, .null, .int 0, .long 0, .int 0, .int 0, .int 0, .int 0]))) H := hM
  obtain ⟨M10, eM10⟩ : ∃ X, X = bm_up M8 x (.inr (6, [.ref (x + 1), .ref (x + 2), .ref (x + 11), .int 0, .null, .null, .int 0, .long 0, .int 0, .int 0, .int 0, .int 0])) := ⟨_, rfl⟩
  rw [← eM10] at hM
  replace hc2 : M10 (x + 1) = some (.inl (ct 3, 4, .inr (.inr (.inr (.inr (fun _ => none)))))) := by rw [eM10, bm_up_ne (bm_ne1 (k := 0))]; exact hc2
  replace f0 : M10 (x + 2) = some (.inr (5, [.ref (x + 3), .ref (x + 4), .int 0, .int 0])) := by rw [eM10, bm_up_ne (bm_ne1 (k := 1))]; exact f0
  replace f1 : M10 (x + 3) = some (.inl (ct 5, 6, .inr (.inr (.inr (.inr cf))))) := by rw [eM10, bm_up_ne (bm_ne1 (k := 2))]; exact f1
  replace f2 : M10 (x + 4) = some (.inl (ct 5, 4, .inr (.inr (.inr (.inr (fun _ => none)))))) := by rw [eM10, bm_up_ne (bm_ne1 (k := 3))]; exact f2
  replace k0 : M10 (x + 5) = some (.inr (1, [.long 0, .long 0, .long 0, .long 0, .long 0, .long 0, .long 0])) := by rw [eM10, bm_up_ne (bm_ne1 (k := 4))]; exact k0
  replace k1 : M10 (x + 6) = some (.inr (1, [.long 0, .long 0, .long 0, .long 0, .long 0, .long 0, .long 0])) := by rw [eM10, bm_up_ne (bm_ne1 (k := 5))]; exact k1
  replace k2 : M10 (x + 7) = some (.inr (1, [.long 0, .long 0, .long 0, .long 0, .long 0, .long 0, .long 0])) := by rw [eM10, bm_up_ne (bm_ne1 (k := 6))]; exact k2
  replace k3 : M10 (x + 8) = some (.inr (1, [.long 0, .long 0, .long 0, .long 0, .long 0, .long 0, .long 0])) := by rw [eM10, bm_up_ne (bm_ne1 (k := 7))]; exact k3
  replace k4 : M10 (x + 9) = some (.inr (1, [.long 0, .long 0, .long 0, .long 0, .long 0, .long 0, .long 0])) := by rw [eM10, bm_up_ne (bm_ne1 (k := 8))]; exact k4
  replace k5 : M10 (x + 10) = some (.inr (1, [.long 0, .long 0, .long 0, .long 0, .long 0, .long 0, .long 0])) := by rw [eM10, bm_up_ne (bm_ne1 (k := 9))]; exact k5
  replace hc9 : M10 (x + 11) = some (.inl (ct 4, 20, .inr (.inr (.inr (.inr (fun _ => none)))))) := by rw [eM10, bm_up_ne (bm_ne1 (k := 10))]; exact hc9
  replace h0 : M10 x = some (.inr (6, [.ref (x + 1), .ref (x + 2), .ref (x + 11), .int 0, .null, .null, .int 0, .long 0, .int 0, .int 0, .int 0, .int 0])) := by rw [eM10]; exact bm_up_self _ _ _
  replace hF : ∀ a, a < x → M10 a = M a := fun a ha => by rw [eM10]; exact (bm_up_ne (bm_lne0 ha)).trans (hF a ha)
  clear eM10
  refine lv_aload_n hx hb dB_init_32 rfl (lv_at hl 0 rfl) ?_
  refine lv_iconst (v := 0) hx hb dB_init_33 (by decide) ?_
  refine bm_put (ci := 6) (v := .int 0) (ty := .int) (C := "BlindMint") (T := bt_B) (N := 12) hx hb hts bu_B by_B bo_B bn_B hown hK hM hS h0 rfl 3 (by decide) (hts _ bw_112) (fun _ h9 => h9) rfl (by decide +kernel) rfl rfl (Nat.le_of_ble_eq_true rfl) dB_init_34 (fun H locs hz1 hM hS => ?_)
  replace hz := hz1.trans hz
  replace hM : bm_M D base (bm_up M10 x (.inr (6, [.ref (x + 1), .ref (x + 2), .ref (x + 11), .int 0, .null, .null, .int 0, .long 0, .int 0, .int 0, .int 0, .int 0]))) H := hM
  obtain ⟨M11, eM11⟩ : ∃ X, X = bm_up M10 x (.inr (6, [.ref (x + 1), .ref (x + 2), .ref (x + 11), .int 0, .null, .null, .int 0, .long 0, .int 0, .int 0, .int 0, .int 0])) := ⟨_, rfl⟩
  rw [← eM11] at hM
  replace hc2 : M11 (x + 1) = some (.inl (ct 3, 4, .inr (.inr (.inr (.inr (fun _ => none)))))) := by rw [eM11, bm_up_ne (bm_ne1 (k := 0))]; exact hc2
  replace f0 : M11 (x + 2) = some (.inr (5, [.ref (x + 3), .ref (x + 4), .int 0, .int 0])) := by rw [eM11, bm_up_ne (bm_ne1 (k := 1))]; exact f0
  replace f1 : M11 (x + 3) = some (.inl (ct 5, 6, .inr (.inr (.inr (.inr cf))))) := by rw [eM11, bm_up_ne (bm_ne1 (k := 2))]; exact f1
  replace f2 : M11 (x + 4) = some (.inl (ct 5, 4, .inr (.inr (.inr (.inr (fun _ => none)))))) := by rw [eM11, bm_up_ne (bm_ne1 (k := 3))]; exact f2
  replace k0 : M11 (x + 5) = some (.inr (1, [.long 0, .long 0, .long 0, .long 0, .long 0, .long 0, .long 0])) := by rw [eM11, bm_up_ne (bm_ne1 (k := 4))]; exact k0
  replace k1 : M11 (x + 6) = some (.inr (1, [.long 0, .long 0, .long 0, .long 0, .long 0, .long 0, .long 0])) := by rw [eM11, bm_up_ne (bm_ne1 (k := 5))]; exact k1
  replace k2 : M11 (x + 7) = some (.inr (1, [.long 0, .long 0, .long 0, .long 0, .long 0, .long 0, .long 0])) := by rw [eM11, bm_up_ne (bm_ne1 (k := 6))]; exact k2
  replace k3 : M11 (x + 8) = some (.inr (1, [.long 0, .long 0, .long 0, .long 0, .long 0, .long 0, .long 0])) := by rw [eM11, bm_up_ne (bm_ne1 (k := 7))]; exact k3
  replace k4 : M11 (x + 9) = some (.inr (1, [.long 0, .long 0, .long 0, .long 0, .long 0, .long 0, .long 0])) := by rw [eM11, bm_up_ne (bm_ne1 (k := 8))]; exact k4
  replace k5 : M11 (x + 10) = some (.inr (1, [.long 0, .long 0, .long 0, .long 0, .long 0, .long 0, .long 0])) := by rw [eM11, bm_up_ne (bm_ne1 (k := 9))]; exact k5
  replace hc9 : M11 (x + 11) = some (.inl (ct 4, 20, .inr (.inr (.inr (.inr (fun _ => none)))))) := by rw [eM11, bm_up_ne (bm_ne1 (k := 10))]; exact hc9
  replace h0 : M11 x = some (.inr (6, [.ref (x + 1), .ref (x + 2), .ref (x + 11), .int 0, .null, .null, .int 0, .long 0, .int 0, .int 0, .int 0, .int 0])) := by rw [eM11]; exact bm_up_self _ _ _
  replace hF : ∀ a, a < x → M11 a = M a := fun a ha => by rw [eM11]; exact (bm_up_ne (bm_lne0 ha)).trans (hF a ha)
  clear eM11
  refine lv_aload_n hx hb dB_init_37 rfl (lv_at hl 0 rfl) ?_
  refine lv_iconst (v := 4) hx hb dB_init_38 (by decide) ?_
  refine bm_newaz (atype := .long) (a0 := (4, .inr (.inl (fun _ => 0)))) hz hx hb (hts _ bw_108) (ty := .long) rfl hK hM hS (Nat.le_trans hG.2.1 hS.1) 1 rfl (fun C h => by cases h) (bm_aL 4) (by decide) (by decide) (Nat.le_of_ble_eq_true rfl) (by rw [← hR]; exact Nat.le_of_ble_eq_true rfl) (by rw [← hR]; exact Nat.le_of_ble_eq_true rfl) dB_init_39 (fun H hz1 hM hS => ?_)
  replace hz : H.size = x + 13 := hz1
  obtain ⟨M12, eM12⟩ : ∃ X, X = bm_up M11 (x + 12) (.inl (ct 1, 4, .inr (.inl (fun _ => 0)))) := ⟨_, rfl⟩
  replace hM : bm_M D base M12 H := by rw [eM12]; exact hM
  replace h0 : M12 x = some (.inr (6, [.ref (x + 1), .ref (x + 2), .ref (x + 11), .int 0, .null, .null, .int 0, .long 0, .int 0, .int 0, .int 0, .int 0])) := by rw [eM12, bm_up_ne (bm_ne0 (k := 11))]; exact h0
  replace hc2 : M12 (x + 1) = some (.inl (ct 3, 4, .inr (.inr (.inr (.inr (fun _ => none)))))) := by rw [eM12, bm_up_ne (bm_nea (by decide))]; exact hc2
  replace f0 : M12 (x + 2) = some (.inr (5, [.ref (x + 3), .ref (x + 4), .int 0, .int 0])) := by rw [eM12, bm_up_ne (bm_nea (by decide))]; exact f0
  replace f1 : M12 (x + 3) = some (.inl (ct 5, 6, .inr (.inr (.inr (.inr cf))))) := by rw [eM12, bm_up_ne (bm_nea (by decide))]; exact f1
  replace f2 : M12 (x + 4) = some (.inl (ct 5, 4, .inr (.inr (.inr (.inr (fun _ => none)))))) := by rw [eM12, bm_up_ne (bm_nea (by decide))]; exact f2
  replace k0 : M12 (x + 5) = some (.inr (1, [.long 0, .long 0, .long 0, .long 0, .long 0, .long 0, .long 0])) := by rw [eM12, bm_up_ne (bm_nea (by decide))]; exact k0
  replace k1 : M12 (x + 6) = some (.inr (1, [.long 0, .long 0, .long 0, .long 0, .long 0, .long 0, .long 0])) := by rw [eM12, bm_up_ne (bm_nea (by decide))]; exact k1
  replace k2 : M12 (x + 7) = some (.inr (1, [.long 0, .long 0, .long 0, .long 0, .long 0, .long 0, .long 0])) := by rw [eM12, bm_up_ne (bm_nea (by decide))]; exact k2
  replace k3 : M12 (x + 8) = some (.inr (1, [.long 0, .long 0, .long 0, .long 0, .long 0, .long 0, .long 0])) := by rw [eM12, bm_up_ne (bm_nea (by decide))]; exact k3
  replace k4 : M12 (x + 9) = some (.inr (1, [.long 0, .long 0, .long 0, .long 0, .long 0, .long 0, .long 0])) := by rw [eM12, bm_up_ne (bm_nea (by decide))]; exact k4
  replace k5 : M12 (x + 10) = some (.inr (1, [.long 0, .long 0, .long 0, .long 0, .long 0, .long 0, .long 0])) := by rw [eM12, bm_up_ne (bm_nea (by decide))]; exact k5
  replace hc9 : M12 (x + 11) = some (.inl (ct 4, 20, .inr (.inr (.inr (.inr (fun _ => none)))))) := by rw [eM12, bm_up_ne (bm_nea (by decide))]; exact hc9
  have hc13 : M12 (x + 12) = some (.inl (ct 1, 4, .inr (.inl (fun _ => 0)))) := by rw [eM12]; exact bm_up_self _ _ _
  replace hF : ∀ a, a < x → M12 a = M a := fun a ha => by rw [eM12]; exact (bm_up_ne (bm_lnea ha)).trans (hF a ha)
  clear eM12 hz1
  refine bm_putF (ci := 6) (v := .ref (x + 12)) (ty := (.array .long)) (C := "BlindMint") (T := bt_B) (N := 12) hx hb hts bu_B by_B bo_B bn_B hown hK hM hS h0 rfl 4 (by decide) (hts _ bw_113) (fun _ h9 => h9) rfl hnm rfl (by decide +kernel) rfl rfl (Nat.le_of_ble_eq_true rfl) dB_init_41 (fun H locs hz1 hM hS => ?_)
  replace hz := hz1.trans hz
  replace hM : bm_M D base (bm_up M12 x (.inr (6, [.ref (x + 1), .ref (x + 2), .ref (x + 11), .int 0, .ref (x + 12), .null, .int 0, .long 0, .int 0, .int 0, .int 0, .int 0]))) H := hM
  obtain ⟨M14, eM14⟩ : ∃ X, X = bm_up M12 x (.inr (6, [.ref (x + 1), .ref (x + 2), .ref (x + 11), .int 0, .ref (x + 12), .null, .int 0, .long 0, .int 0, .int 0, .int 0, .int 0])) := ⟨_, rfl⟩
  rw [← eM14] at hM
  replace hc2 : M14 (x + 1) = some (.inl (ct 3, 4, .inr (.inr (.inr (.inr (fun _ => none)))))) := by rw [eM14, bm_up_ne (bm_ne1 (k := 0))]; exact hc2
  replace f0 : M14 (x + 2) = some (.inr (5, [.ref (x + 3), .ref (x + 4), .int 0, .int 0])) := by rw [eM14, bm_up_ne (bm_ne1 (k := 1))]; exact f0
  replace f1 : M14 (x + 3) = some (.inl (ct 5, 6, .inr (.inr (.inr (.inr cf))))) := by rw [eM14, bm_up_ne (bm_ne1 (k := 2))]; exact f1
  replace f2 : M14 (x + 4) = some (.inl (ct 5, 4, .inr (.inr (.inr (.inr (fun _ => none)))))) := by rw [eM14, bm_up_ne (bm_ne1 (k := 3))]; exact f2
  replace k0 : M14 (x + 5) = some (.inr (1, [.long 0, .long 0, .long 0, .long 0, .long 0, .long 0, .long 0])) := by rw [eM14, bm_up_ne (bm_ne1 (k := 4))]; exact k0
  replace k1 : M14 (x + 6) = some (.inr (1, [.long 0, .long 0, .long 0, .long 0, .long 0, .long 0, .long 0])) := by rw [eM14, bm_up_ne (bm_ne1 (k := 5))]; exact k1
  replace k2 : M14 (x + 7) = some (.inr (1, [.long 0, .long 0, .long 0, .long 0, .long 0, .long 0, .long 0])) := by rw [eM14, bm_up_ne (bm_ne1 (k := 6))]; exact k2
  replace k3 : M14 (x + 8) = some (.inr (1, [.long 0, .long 0, .long 0, .long 0, .long 0, .long 0, .long 0])) := by rw [eM14, bm_up_ne (bm_ne1 (k := 7))]; exact k3
  replace k4 : M14 (x + 9) = some (.inr (1, [.long 0, .long 0, .long 0, .long 0, .long 0, .long 0, .long 0])) := by rw [eM14, bm_up_ne (bm_ne1 (k := 8))]; exact k4
  replace k5 : M14 (x + 10) = some (.inr (1, [.long 0, .long 0, .long 0, .long 0, .long 0, .long 0, .long 0])) := by rw [eM14, bm_up_ne (bm_ne1 (k := 9))]; exact k5
  replace hc9 : M14 (x + 11) = some (.inl (ct 4, 20, .inr (.inr (.inr (.inr (fun _ => none)))))) := by rw [eM14, bm_up_ne (bm_ne1 (k := 10))]; exact hc9
  replace hc13 : M14 (x + 12) = some (.inl (ct 1, 4, .inr (.inl (fun _ => 0)))) := by rw [eM14, bm_up_ne (bm_ne1 (k := 11))]; exact hc13
  replace h0 : M14 x = some (.inr (6, [.ref (x + 1), .ref (x + 2), .ref (x + 11), .int 0, .ref (x + 12), .null, .int 0, .long 0, .int 0, .int 0, .int 0, .int 0])) := by rw [eM14]; exact bm_up_self _ _ _
  replace hF : ∀ a, a < x → M14 a = M a := fun a ha => by rw [eM14]; exact (bm_up_ne (bm_lne0 ha)).trans (hF a ha)
  clear eM14
  refine lv_aload_n hx hb dB_init_44 rfl (lv_at hl 0 rfl) ?_
  refine lv_null hx hb dB_init_45 ?_
  refine bm_put (ci := 6) (v := .null) (ty := (.object "BlindMint$Credit")) (C := "BlindMint") (T := bt_B) (N := 12) hx hb hts bu_B by_B bo_B bn_B hown hK hM hS h0 rfl 5 (by decide) (hts _ bw_114) (fun _ h9 => h9) rfl (by decide +kernel) rfl rfl (Nat.le_of_ble_eq_true rfl) dB_init_46 (fun H locs hz1 hM hS => ?_)
  replace hz := hz1.trans hz
  replace hM : bm_M D base (bm_up M14 x (.inr (6, [.ref (x + 1), .ref (x + 2), .ref (x + 11), .int 0, .ref (x + 12), .null, .int 0, .long 0, .int 0, .int 0, .int 0, .int 0]))) H := hM
  obtain ⟨M15, eM15⟩ : ∃ X, X = bm_up M14 x (.inr (6, [.ref (x + 1), .ref (x + 2), .ref (x + 11), .int 0, .ref (x + 12), .null, .int 0, .long 0, .int 0, .int 0, .int 0, .int 0])) := ⟨_, rfl⟩
  rw [← eM15] at hM
  replace hc2 : M15 (x + 1) = some (.inl (ct 3, 4, .inr (.inr (.inr (.inr (fun _ => none)))))) := by rw [eM15, bm_up_ne (bm_ne1 (k := 0))]; exact hc2
  replace f0 : M15 (x + 2) = some (.inr (5, [.ref (x + 3), .ref (x + 4), .int 0, .int 0])) := by rw [eM15, bm_up_ne (bm_ne1 (k := 1))]; exact f0
  replace f1 : M15 (x + 3) = some (.inl (ct 5, 6, .inr (.inr (.inr (.inr cf))))) := by rw [eM15, bm_up_ne (bm_ne1 (k := 2))]; exact f1
  replace f2 : M15 (x + 4) = some (.inl (ct 5, 4, .inr (.inr (.inr (.inr (fun _ => none)))))) := by rw [eM15, bm_up_ne (bm_ne1 (k := 3))]; exact f2
  replace k0 : M15 (x + 5) = some (.inr (1, [.long 0, .long 0, .long 0, .long 0, .long 0, .long 0, .long 0])) := by rw [eM15, bm_up_ne (bm_ne1 (k := 4))]; exact k0
  replace k1 : M15 (x + 6) = some (.inr (1, [.long 0, .long 0, .long 0, .long 0, .long 0, .long 0, .long 0])) := by rw [eM15, bm_up_ne (bm_ne1 (k := 5))]; exact k1
  replace k2 : M15 (x + 7) = some (.inr (1, [.long 0, .long 0, .long 0, .long 0, .long 0, .long 0, .long 0])) := by rw [eM15, bm_up_ne (bm_ne1 (k := 6))]; exact k2
  replace k3 : M15 (x + 8) = some (.inr (1, [.long 0, .long 0, .long 0, .long 0, .long 0, .long 0, .long 0])) := by rw [eM15, bm_up_ne (bm_ne1 (k := 7))]; exact k3
  replace k4 : M15 (x + 9) = some (.inr (1, [.long 0, .long 0, .long 0, .long 0, .long 0, .long 0, .long 0])) := by rw [eM15, bm_up_ne (bm_ne1 (k := 8))]; exact k4
  replace k5 : M15 (x + 10) = some (.inr (1, [.long 0, .long 0, .long 0, .long 0, .long 0, .long 0, .long 0])) := by rw [eM15, bm_up_ne (bm_ne1 (k := 9))]; exact k5
  replace hc9 : M15 (x + 11) = some (.inl (ct 4, 20, .inr (.inr (.inr (.inr (fun _ => none)))))) := by rw [eM15, bm_up_ne (bm_ne1 (k := 10))]; exact hc9
  replace hc13 : M15 (x + 12) = some (.inl (ct 1, 4, .inr (.inl (fun _ => 0)))) := by rw [eM15, bm_up_ne (bm_ne1 (k := 11))]; exact hc13
  replace h0 : M15 x = some (.inr (6, [.ref (x + 1), .ref (x + 2), .ref (x + 11), .int 0, .ref (x + 12), .null, .int 0, .long 0, .int 0, .int 0, .int 0, .int 0])) := by rw [eM15]; exact bm_up_self _ _ _
  replace hF : ∀ a, a < x → M15 a = M a := fun a ha => by rw [eM15]; exact (bm_up_ne (bm_lne0 ha)).trans (hF a ha)
  clear eM15
  refine lv_aload_n hx hb dB_init_49 rfl (lv_at hl 0 rfl) ?_
  refine lv_iconst (v := (-1)) hx hb dB_init_50 (by decide) ?_
  refine bm_put (ci := 6) (v := .int (-1)) (ty := .int) (C := "BlindMint") (T := bt_B) (N := 12) hx hb hts bu_B by_B bo_B bn_B hown hK hM hS h0 rfl 6 (by decide) (hts _ bw_115) (fun _ h9 => h9) rfl (by decide +kernel) rfl rfl (Nat.le_of_ble_eq_true rfl) dB_init_51 (fun H locs hz1 hM hS => ?_)
  replace hz := hz1.trans hz
  replace hM : bm_M D base (bm_up M15 x (.inr (6, [.ref (x + 1), .ref (x + 2), .ref (x + 11), .int 0, .ref (x + 12), .null, .int (-1), .long 0, .int 0, .int 0, .int 0, .int 0]))) H := hM
  obtain ⟨M16, eM16⟩ : ∃ X, X = bm_up M15 x (.inr (6, [.ref (x + 1), .ref (x + 2), .ref (x + 11), .int 0, .ref (x + 12), .null, .int (-1), .long 0, .int 0, .int 0, .int 0, .int 0])) := ⟨_, rfl⟩
  rw [← eM16] at hM
  replace hc2 : M16 (x + 1) = some (.inl (ct 3, 4, .inr (.inr (.inr (.inr (fun _ => none)))))) := by rw [eM16, bm_up_ne (bm_ne1 (k := 0))]; exact hc2
  replace f0 : M16 (x + 2) = some (.inr (5, [.ref (x + 3), .ref (x + 4), .int 0, .int 0])) := by rw [eM16, bm_up_ne (bm_ne1 (k := 1))]; exact f0
  replace f1 : M16 (x + 3) = some (.inl (ct 5, 6, .inr (.inr (.inr (.inr cf))))) := by rw [eM16, bm_up_ne (bm_ne1 (k := 2))]; exact f1
  replace f2 : M16 (x + 4) = some (.inl (ct 5, 4, .inr (.inr (.inr (.inr (fun _ => none)))))) := by rw [eM16, bm_up_ne (bm_ne1 (k := 3))]; exact f2
  replace k0 : M16 (x + 5) = some (.inr (1, [.long 0, .long 0, .long 0, .long 0, .long 0, .long 0, .long 0])) := by rw [eM16, bm_up_ne (bm_ne1 (k := 4))]; exact k0
  replace k1 : M16 (x + 6) = some (.inr (1, [.long 0, .long 0, .long 0, .long 0, .long 0, .long 0, .long 0])) := by rw [eM16, bm_up_ne (bm_ne1 (k := 5))]; exact k1
  replace k2 : M16 (x + 7) = some (.inr (1, [.long 0, .long 0, .long 0, .long 0, .long 0, .long 0, .long 0])) := by rw [eM16, bm_up_ne (bm_ne1 (k := 6))]; exact k2
  replace k3 : M16 (x + 8) = some (.inr (1, [.long 0, .long 0, .long 0, .long 0, .long 0, .long 0, .long 0])) := by rw [eM16, bm_up_ne (bm_ne1 (k := 7))]; exact k3
  replace k4 : M16 (x + 9) = some (.inr (1, [.long 0, .long 0, .long 0, .long 0, .long 0, .long 0, .long 0])) := by rw [eM16, bm_up_ne (bm_ne1 (k := 8))]; exact k4
  replace k5 : M16 (x + 10) = some (.inr (1, [.long 0, .long 0, .long 0, .long 0, .long 0, .long 0, .long 0])) := by rw [eM16, bm_up_ne (bm_ne1 (k := 9))]; exact k5
  replace hc9 : M16 (x + 11) = some (.inl (ct 4, 20, .inr (.inr (.inr (.inr (fun _ => none)))))) := by rw [eM16, bm_up_ne (bm_ne1 (k := 10))]; exact hc9
  replace hc13 : M16 (x + 12) = some (.inl (ct 1, 4, .inr (.inl (fun _ => 0)))) := by rw [eM16, bm_up_ne (bm_ne1 (k := 11))]; exact hc13
  replace h0 : M16 x = some (.inr (6, [.ref (x + 1), .ref (x + 2), .ref (x + 11), .int 0, .ref (x + 12), .null, .int (-1), .long 0, .int 0, .int 0, .int 0, .int 0])) := by rw [eM16]; exact bm_up_self _ _ _
  replace hF : ∀ a, a < x → M16 a = M a := fun a ha => by rw [eM16]; exact (bm_up_ne (bm_lne0 ha)).trans (hF a ha)
  clear eM16
  refine lv_aload_n hx hb dB_init_54 rfl (lv_at hl 0 rfl) ?_
  refine lv_ldc2 hx hb hown (hts _ bw_87) dB_init_55 ?_
  refine bm_put (ci := 6) (v := .long (-1)) (ty := .long) (C := "BlindMint") (T := bt_B) (N := 12) hx hb hts bu_B by_B bo_B bn_B hown hK hM hS h0 rfl 7 (by decide) (hts _ bw_116) (fun _ h9 => h9) rfl (by decide +kernel) rfl rfl (Nat.le_of_ble_eq_true rfl) dB_init_58 (fun H locs hz1 hM hS => ?_)
  replace hz := hz1.trans hz
  replace hM : bm_M D base (bm_up M16 x (.inr (6, [.ref (x + 1), .ref (x + 2), .ref (x + 11), .int 0, .ref (x + 12), .null, .int (-1), .long (-1), .int 0, .int 0, .int 0, .int 0]))) H := hM
  obtain ⟨M17, eM17⟩ : ∃ X, X = bm_up M16 x (.inr (6, [.ref (x + 1), .ref (x + 2), .ref (x + 11), .int 0, .ref (x + 12), .null, .int (-1), .long (-1), .int 0, .int 0, .int 0, .int 0])) := ⟨_, rfl⟩
  rw [← eM17] at hM
  replace hc2 : M17 (x + 1) = some (.inl (ct 3, 4, .inr (.inr (.inr (.inr (fun _ => none)))))) := by rw [eM17, bm_up_ne (bm_ne1 (k := 0))]; exact hc2
  replace f0 : M17 (x + 2) = some (.inr (5, [.ref (x + 3), .ref (x + 4), .int 0, .int 0])) := by rw [eM17, bm_up_ne (bm_ne1 (k := 1))]; exact f0
  replace f1 : M17 (x + 3) = some (.inl (ct 5, 6, .inr (.inr (.inr (.inr cf))))) := by rw [eM17, bm_up_ne (bm_ne1 (k := 2))]; exact f1
  replace f2 : M17 (x + 4) = some (.inl (ct 5, 4, .inr (.inr (.inr (.inr (fun _ => none)))))) := by rw [eM17, bm_up_ne (bm_ne1 (k := 3))]; exact f2
  replace k0 : M17 (x + 5) = some (.inr (1, [.long 0, .long 0, .long 0, .long 0, .long 0, .long 0, .long 0])) := by rw [eM17, bm_up_ne (bm_ne1 (k := 4))]; exact k0
  replace k1 : M17 (x + 6) = some (.inr (1, [.long 0, .long 0, .long 0, .long 0, .long 0, .long 0, .long 0])) := by rw [eM17, bm_up_ne (bm_ne1 (k := 5))]; exact k1
  replace k2 : M17 (x + 7) = some (.inr (1, [.long 0, .long 0, .long 0, .long 0, .long 0, .long 0, .long 0])) := by rw [eM17, bm_up_ne (bm_ne1 (k := 6))]; exact k2
  replace k3 : M17 (x + 8) = some (.inr (1, [.long 0, .long 0, .long 0, .long 0, .long 0, .long 0, .long 0])) := by rw [eM17, bm_up_ne (bm_ne1 (k := 7))]; exact k3
  replace k4 : M17 (x + 9) = some (.inr (1, [.long 0, .long 0, .long 0, .long 0, .long 0, .long 0, .long 0])) := by rw [eM17, bm_up_ne (bm_ne1 (k := 8))]; exact k4
  replace k5 : M17 (x + 10) = some (.inr (1, [.long 0, .long 0, .long 0, .long 0, .long 0, .long 0, .long 0])) := by rw [eM17, bm_up_ne (bm_ne1 (k := 9))]; exact k5
  replace hc9 : M17 (x + 11) = some (.inl (ct 4, 20, .inr (.inr (.inr (.inr (fun _ => none)))))) := by rw [eM17, bm_up_ne (bm_ne1 (k := 10))]; exact hc9
  replace hc13 : M17 (x + 12) = some (.inl (ct 1, 4, .inr (.inl (fun _ => 0)))) := by rw [eM17, bm_up_ne (bm_ne1 (k := 11))]; exact hc13
  replace h0 : M17 x = some (.inr (6, [.ref (x + 1), .ref (x + 2), .ref (x + 11), .int 0, .ref (x + 12), .null, .int (-1), .long (-1), .int 0, .int 0, .int 0, .int 0])) := by rw [eM17]; exact bm_up_self _ _ _
  replace hF : ∀ a, a < x → M17 a = M a := fun a ha => by rw [eM17]; exact (bm_up_ne (bm_lne0 ha)).trans (hF a ha)
  clear eM17
  refine lv_aload_n hx hb dB_init_61 rfl (lv_at hl 0 rfl) ?_
  refine lv_iconst (v := 0) hx hb dB_init_62 (by decide) ?_
  refine bm_put (ci := 6) (v := .int 0) (ty := .int) (C := "BlindMint") (T := bt_B) (N := 12) hx hb hts bu_B by_B bo_B bn_B hown hK hM hS h0 rfl 8 (by decide) (hts _ bw_117) (fun _ h9 => h9) rfl (by decide +kernel) rfl rfl (Nat.le_of_ble_eq_true rfl) dB_init_63 (fun H locs hz1 hM hS => ?_)
  replace hz := hz1.trans hz
  replace hM : bm_M D base (bm_up M17 x (.inr (6, [.ref (x + 1), .ref (x + 2), .ref (x + 11), .int 0, .ref (x + 12), .null, .int (-1), .long (-1), .int 0, .int 0, .int 0, .int 0]))) H := hM
  obtain ⟨M18, eM18⟩ : ∃ X, X = bm_up M17 x (.inr (6, [.ref (x + 1), .ref (x + 2), .ref (x + 11), .int 0, .ref (x + 12), .null, .int (-1), .long (-1), .int 0, .int 0, .int 0, .int 0])) := ⟨_, rfl⟩
  rw [← eM18] at hM
  replace hc2 : M18 (x + 1) = some (.inl (ct 3, 4, .inr (.inr (.inr (.inr (fun _ => none)))))) := by rw [eM18, bm_up_ne (bm_ne1 (k := 0))]; exact hc2
  replace f0 : M18 (x + 2) = some (.inr (5, [.ref (x + 3), .ref (x + 4), .int 0, .int 0])) := by rw [eM18, bm_up_ne (bm_ne1 (k := 1))]; exact f0
  replace f1 : M18 (x + 3) = some (.inl (ct 5, 6, .inr (.inr (.inr (.inr cf))))) := by rw [eM18, bm_up_ne (bm_ne1 (k := 2))]; exact f1
  replace f2 : M18 (x + 4) = some (.inl (ct 5, 4, .inr (.inr (.inr (.inr (fun _ => none)))))) := by rw [eM18, bm_up_ne (bm_ne1 (k := 3))]; exact f2
  replace k0 : M18 (x + 5) = some (.inr (1, [.long 0, .long 0, .long 0, .long 0, .long 0, .long 0, .long 0])) := by rw [eM18, bm_up_ne (bm_ne1 (k := 4))]; exact k0
  replace k1 : M18 (x + 6) = some (.inr (1, [.long 0, .long 0, .long 0, .long 0, .long 0, .long 0, .long 0])) := by rw [eM18, bm_up_ne (bm_ne1 (k := 5))]; exact k1
  replace k2 : M18 (x + 7) = some (.inr (1, [.long 0, .long 0, .long 0, .long 0, .long 0, .long 0, .long 0])) := by rw [eM18, bm_up_ne (bm_ne1 (k := 6))]; exact k2
  replace k3 : M18 (x + 8) = some (.inr (1, [.long 0, .long 0, .long 0, .long 0, .long 0, .long 0, .long 0])) := by rw [eM18, bm_up_ne (bm_ne1 (k := 7))]; exact k3
  replace k4 : M18 (x + 9) = some (.inr (1, [.long 0, .long 0, .long 0, .long 0, .long 0, .long 0, .long 0])) := by rw [eM18, bm_up_ne (bm_ne1 (k := 8))]; exact k4
  replace k5 : M18 (x + 10) = some (.inr (1, [.long 0, .long 0, .long 0, .long 0, .long 0, .long 0, .long 0])) := by rw [eM18, bm_up_ne (bm_ne1 (k := 9))]; exact k5
  replace hc9 : M18 (x + 11) = some (.inl (ct 4, 20, .inr (.inr (.inr (.inr (fun _ => none)))))) := by rw [eM18, bm_up_ne (bm_ne1 (k := 10))]; exact hc9
  replace hc13 : M18 (x + 12) = some (.inl (ct 1, 4, .inr (.inl (fun _ => 0)))) := by rw [eM18, bm_up_ne (bm_ne1 (k := 11))]; exact hc13
  replace h0 : M18 x = some (.inr (6, [.ref (x + 1), .ref (x + 2), .ref (x + 11), .int 0, .ref (x + 12), .null, .int (-1), .long (-1), .int 0, .int 0, .int 0, .int 0])) := by rw [eM18]; exact bm_up_self _ _ _
  replace hF : ∀ a, a < x → M18 a = M a := fun a ha => by rw [eM18]; exact (bm_up_ne (bm_lne0 ha)).trans (hF a ha)
  clear eM18
  refine lv_aload_n hx hb dB_init_66 rfl (lv_at hl 0 rfl) ?_
  refine lv_iconst (v := 0) hx hb dB_init_67 (by decide) ?_
  refine bm_put (ci := 6) (v := .int 0) (ty := .int) (C := "BlindMint") (T := bt_B) (N := 12) hx hb hts bu_B by_B bo_B bn_B hown hK hM hS h0 rfl 9 (by decide) (hts _ bw_118) (fun _ h9 => h9) rfl (by decide +kernel) rfl rfl (Nat.le_of_ble_eq_true rfl) dB_init_68 (fun H locs hz1 hM hS => ?_)
  replace hz := hz1.trans hz
  replace hM : bm_M D base (bm_up M18 x (.inr (6, [.ref (x + 1), .ref (x + 2), .ref (x + 11), .int 0, .ref (x + 12), .null, .int (-1), .long (-1), .int 0, .int 0, .int 0, .int 0]))) H := hM
  obtain ⟨M19, eM19⟩ : ∃ X, X = bm_up M18 x (.inr (6, [.ref (x + 1), .ref (x + 2), .ref (x + 11), .int 0, .ref (x + 12), .null, .int (-1), .long (-1), .int 0, .int 0, .int 0, .int 0])) := ⟨_, rfl⟩
  rw [← eM19] at hM
  replace hc2 : M19 (x + 1) = some (.inl (ct 3, 4, .inr (.inr (.inr (.inr (fun _ => none)))))) := by rw [eM19, bm_up_ne (bm_ne1 (k := 0))]; exact hc2
  replace f0 : M19 (x + 2) = some (.inr (5, [.ref (x + 3), .ref (x + 4), .int 0, .int 0])) := by rw [eM19, bm_up_ne (bm_ne1 (k := 1))]; exact f0
  replace f1 : M19 (x + 3) = some (.inl (ct 5, 6, .inr (.inr (.inr (.inr cf))))) := by rw [eM19, bm_up_ne (bm_ne1 (k := 2))]; exact f1
  replace f2 : M19 (x + 4) = some (.inl (ct 5, 4, .inr (.inr (.inr (.inr (fun _ => none)))))) := by rw [eM19, bm_up_ne (bm_ne1 (k := 3))]; exact f2
  replace k0 : M19 (x + 5) = some (.inr (1, [.long 0, .long 0, .long 0, .long 0, .long 0, .long 0, .long 0])) := by rw [eM19, bm_up_ne (bm_ne1 (k := 4))]; exact k0
  replace k1 : M19 (x + 6) = some (.inr (1, [.long 0, .long 0, .long 0, .long 0, .long 0, .long 0, .long 0])) := by rw [eM19, bm_up_ne (bm_ne1 (k := 5))]; exact k1
  replace k2 : M19 (x + 7) = some (.inr (1, [.long 0, .long 0, .long 0, .long 0, .long 0, .long 0, .long 0])) := by rw [eM19, bm_up_ne (bm_ne1 (k := 6))]; exact k2
  replace k3 : M19 (x + 8) = some (.inr (1, [.long 0, .long 0, .long 0, .long 0, .long 0, .long 0, .long 0])) := by rw [eM19, bm_up_ne (bm_ne1 (k := 7))]; exact k3
  replace k4 : M19 (x + 9) = some (.inr (1, [.long 0, .long 0, .long 0, .long 0, .long 0, .long 0, .long 0])) := by rw [eM19, bm_up_ne (bm_ne1 (k := 8))]; exact k4
  replace k5 : M19 (x + 10) = some (.inr (1, [.long 0, .long 0, .long 0, .long 0, .long 0, .long 0, .long 0])) := by rw [eM19, bm_up_ne (bm_ne1 (k := 9))]; exact k5
  replace hc9 : M19 (x + 11) = some (.inl (ct 4, 20, .inr (.inr (.inr (.inr (fun _ => none)))))) := by rw [eM19, bm_up_ne (bm_ne1 (k := 10))]; exact hc9
  replace hc13 : M19 (x + 12) = some (.inl (ct 1, 4, .inr (.inl (fun _ => 0)))) := by rw [eM19, bm_up_ne (bm_ne1 (k := 11))]; exact hc13
  replace h0 : M19 x = some (.inr (6, [.ref (x + 1), .ref (x + 2), .ref (x + 11), .int 0, .ref (x + 12), .null, .int (-1), .long (-1), .int 0, .int 0, .int 0, .int 0])) := by rw [eM19]; exact bm_up_self _ _ _
  replace hF : ∀ a, a < x → M19 a = M a := fun a ha => by rw [eM19]; exact (bm_up_ne (bm_lne0 ha)).trans (hF a ha)
  clear eM19
  refine lv_aload_n hx hb dB_init_71 rfl (lv_at hl 0 rfl) ?_
  refine lv_iconst (v := 0) hx hb dB_init_72 (by decide) ?_
  refine bm_put (ci := 6) (v := .int 0) (ty := .int) (C := "BlindMint") (T := bt_B) (N := 12) hx hb hts bu_B by_B bo_B bn_B hown hK hM hS h0 rfl 10 (by decide) (hts _ bw_119) (fun _ h9 => h9) rfl (by decide +kernel) rfl rfl (Nat.le_of_ble_eq_true rfl) dB_init_73 (fun H locs hz1 hM hS => ?_)
  replace hz := hz1.trans hz
  replace hM : bm_M D base (bm_up M19 x (.inr (6, [.ref (x + 1), .ref (x + 2), .ref (x + 11), .int 0, .ref (x + 12), .null, .int (-1), .long (-1), .int 0, .int 0, .int 0, .int 0]))) H := hM
  obtain ⟨M20, eM20⟩ : ∃ X, X = bm_up M19 x (.inr (6, [.ref (x + 1), .ref (x + 2), .ref (x + 11), .int 0, .ref (x + 12), .null, .int (-1), .long (-1), .int 0, .int 0, .int 0, .int 0])) := ⟨_, rfl⟩
  rw [← eM20] at hM
  replace hc2 : M20 (x + 1) = some (.inl (ct 3, 4, .inr (.inr (.inr (.inr (fun _ => none)))))) := by rw [eM20, bm_up_ne (bm_ne1 (k := 0))]; exact hc2
  replace f0 : M20 (x + 2) = some (.inr (5, [.ref (x + 3), .ref (x + 4), .int 0, .int 0])) := by rw [eM20, bm_up_ne (bm_ne1 (k := 1))]; exact f0
  replace f1 : M20 (x + 3) = some (.inl (ct 5, 6, .inr (.inr (.inr (.inr cf))))) := by rw [eM20, bm_up_ne (bm_ne1 (k := 2))]; exact f1
  replace f2 : M20 (x + 4) = some (.inl (ct 5, 4, .inr (.inr (.inr (.inr (fun _ => none)))))) := by rw [eM20, bm_up_ne (bm_ne1 (k := 3))]; exact f2
  replace k0 : M20 (x + 5) = some (.inr (1, [.long 0, .long 0, .long 0, .long 0, .long 0, .long 0, .long 0])) := by rw [eM20, bm_up_ne (bm_ne1 (k := 4))]; exact k0
  replace k1 : M20 (x + 6) = some (.inr (1, [.long 0, .long 0, .long 0, .long 0, .long 0, .long 0, .long 0])) := by rw [eM20, bm_up_ne (bm_ne1 (k := 5))]; exact k1
  replace k2 : M20 (x + 7) = some (.inr (1, [.long 0, .long 0, .long 0, .long 0, .long 0, .long 0, .long 0])) := by rw [eM20, bm_up_ne (bm_ne1 (k := 6))]; exact k2
  replace k3 : M20 (x + 8) = some (.inr (1, [.long 0, .long 0, .long 0, .long 0, .long 0, .long 0, .long 0])) := by rw [eM20, bm_up_ne (bm_ne1 (k := 7))]; exact k3
  replace k4 : M20 (x + 9) = some (.inr (1, [.long 0, .long 0, .long 0, .long 0, .long 0, .long 0, .long 0])) := by rw [eM20, bm_up_ne (bm_ne1 (k := 8))]; exact k4
  replace k5 : M20 (x + 10) = some (.inr (1, [.long 0, .long 0, .long 0, .long 0, .long 0, .long 0, .long 0])) := by rw [eM20, bm_up_ne (bm_ne1 (k := 9))]; exact k5
  replace hc9 : M20 (x + 11) = some (.inl (ct 4, 20, .inr (.inr (.inr (.inr (fun _ => none)))))) := by rw [eM20, bm_up_ne (bm_ne1 (k := 10))]; exact hc9
  replace hc13 : M20 (x + 12) = some (.inl (ct 1, 4, .inr (.inl (fun _ => 0)))) := by rw [eM20, bm_up_ne (bm_ne1 (k := 11))]; exact hc13
  replace h0 : M20 x = some (.inr (6, [.ref (x + 1), .ref (x + 2), .ref (x + 11), .int 0, .ref (x + 12), .null, .int (-1), .long (-1), .int 0, .int 0, .int 0, .int 0])) := by rw [eM20]; exact bm_up_self _ _ _
  replace hF : ∀ a, a < x → M20 a = M a := fun a ha => by rw [eM20]; exact (bm_up_ne (bm_lne0 ha)).trans (hF a ha)
  clear eM20
  refine lv_aload_n hx hb dB_init_76 rfl (lv_at hl 0 rfl) ?_
  refine lv_iconst (v := 0) hx hb dB_init_77 (by decide) ?_
  refine bm_put (ci := 6) (v := .int 0) (ty := .int) (C := "BlindMint") (T := bt_B) (N := 12) hx hb hts bu_B by_B bo_B bn_B hown hK hM hS h0 rfl 11 (by decide) (hts _ bw_120) (fun _ h9 => h9) rfl (by decide +kernel) rfl rfl (Nat.le_of_ble_eq_true rfl) dB_init_78 (fun H locs hz1 hM hS => ?_)
  replace hz := hz1.trans hz
  replace hM : bm_M D base (bm_up M20 x (.inr (6, [.ref (x + 1), .ref (x + 2), .ref (x + 11), .int 0, .ref (x + 12), .null, .int (-1), .long (-1), .int 0, .int 0, .int 0, .int 0]))) H := hM
  obtain ⟨M21, eM21⟩ : ∃ X, X = bm_up M20 x (.inr (6, [.ref (x + 1), .ref (x + 2), .ref (x + 11), .int 0, .ref (x + 12), .null, .int (-1), .long (-1), .int 0, .int 0, .int 0, .int 0])) := ⟨_, rfl⟩
  rw [← eM21] at hM
  replace hc2 : M21 (x + 1) = some (.inl (ct 3, 4, .inr (.inr (.inr (.inr (fun _ => none)))))) := by rw [eM21, bm_up_ne (bm_ne1 (k := 0))]; exact hc2
  replace f0 : M21 (x + 2) = some (.inr (5, [.ref (x + 3), .ref (x + 4), .int 0, .int 0])) := by rw [eM21, bm_up_ne (bm_ne1 (k := 1))]; exact f0
  replace f1 : M21 (x + 3) = some (.inl (ct 5, 6, .inr (.inr (.inr (.inr cf))))) := by rw [eM21, bm_up_ne (bm_ne1 (k := 2))]; exact f1
  replace f2 : M21 (x + 4) = some (.inl (ct 5, 4, .inr (.inr (.inr (.inr (fun _ => none)))))) := by rw [eM21, bm_up_ne (bm_ne1 (k := 3))]; exact f2
  replace k0 : M21 (x + 5) = some (.inr (1, [.long 0, .long 0, .long 0, .long 0, .long 0, .long 0, .long 0])) := by rw [eM21, bm_up_ne (bm_ne1 (k := 4))]; exact k0
  replace k1 : M21 (x + 6) = some (.inr (1, [.long 0, .long 0, .long 0, .long 0, .long 0, .long 0, .long 0])) := by rw [eM21, bm_up_ne (bm_ne1 (k := 5))]; exact k1
  replace k2 : M21 (x + 7) = some (.inr (1, [.long 0, .long 0, .long 0, .long 0, .long 0, .long 0, .long 0])) := by rw [eM21, bm_up_ne (bm_ne1 (k := 6))]; exact k2
  replace k3 : M21 (x + 8) = some (.inr (1, [.long 0, .long 0, .long 0, .long 0, .long 0, .long 0, .long 0])) := by rw [eM21, bm_up_ne (bm_ne1 (k := 7))]; exact k3
  replace k4 : M21 (x + 9) = some (.inr (1, [.long 0, .long 0, .long 0, .long 0, .long 0, .long 0, .long 0])) := by rw [eM21, bm_up_ne (bm_ne1 (k := 8))]; exact k4
  replace k5 : M21 (x + 10) = some (.inr (1, [.long 0, .long 0, .long 0, .long 0, .long 0, .long 0, .long 0])) := by rw [eM21, bm_up_ne (bm_ne1 (k := 9))]; exact k5
  replace hc9 : M21 (x + 11) = some (.inl (ct 4, 20, .inr (.inr (.inr (.inr (fun _ => none)))))) := by rw [eM21, bm_up_ne (bm_ne1 (k := 10))]; exact hc9
  replace hc13 : M21 (x + 12) = some (.inl (ct 1, 4, .inr (.inl (fun _ => 0)))) := by rw [eM21, bm_up_ne (bm_ne1 (k := 11))]; exact hc13
  replace h0 : M21 x = some (.inr (6, [.ref (x + 1), .ref (x + 2), .ref (x + 11), .int 0, .ref (x + 12), .null, .int (-1), .long (-1), .int 0, .int 0, .int 0, .int 0])) := by rw [eM21]; exact bm_up_self _ _ _
  replace hF : ∀ a, a < x → M21 a = M a := fun a ha => by rw [eM21]; exact (bm_up_ne (bm_lne0 ha)).trans (hF a ha)
  clear eM21
  refine lv_iconst (v := 0) hx hb dB_init_81 (by decide) ?_
  refine lv_istore_n hx hb dB_init_82 rfl hl (by decide) rfl (fun ls hl => ?_)
  have hl : lv_has ls 2 [(1, .int 0), (0, .ref x)] := hl
  refine lv_iload_n hx hb dB_init_83 rfl (lv_at hl 0 rfl) ?_
  refine lv_iconst (v := 4) hx hb dB_init_84 (by decide) ?_
  refine lv_icmp_ge (tgt := 107) hx hb dB_init_85 rfl (fun h => absurd h (by decide)) (fun _ => ?_)
  refine lv_aload_n hx hb dB_init_88 rfl (lv_at hl 1 rfl) ?_
  refine bm_get (ci := 6) (v := .ref (x + 1)) (C := "BlindMint") (T := bt_B) (N := 12) hx hb hts bu_B hown hK hM h0 rfl 0 (by decide) (hts _ bw_109) (fun _ h9 => h9) rfl dB_init_89 ?_
  refine lv_iload_n hx hb dB_init_92 rfl (lv_at hl 0 rfl) ?_
  refine bm_newz (ci := 0) (fs := [.int 0, .null, .int 0]) (C := "BlindMint$Account") (T := bt_A) (N := 3) hz hx hb hts bu_A by_A bo_A hown (hts _ bw_27) (hts _ bw_88) (hts _ bw_4) hK hM hS (Nat.le_trans hG.2.1 hS.1) rfl (fun j hj => by rcases (show j = 0 ∨ j = 1 ∨ j = 2 by omega) with rfl | rfl | rfl <;> rfl) (by rw [← hR]; exact Nat.le_of_ble_eq_true rfl) (by rw [← hR]; exact Nat.le_of_ble_eq_true rfl) dB_init_93 (fun H hz1 hM hS => ?_)
  replace hz : H.size = x + 14 := hz1
  obtain ⟨M22, eM22⟩ : ∃ X, X = bm_up M21 (x + 13) (.inr (0, [.int 0, .null, .int 0])) := ⟨_, rfl⟩
  replace hM : bm_M D base M22 H := by rw [eM22]; exact hM
  replace h0 : M22 x = some (.inr (6, [.ref (x + 1), .ref (x + 2), .ref (x + 11), .int 0, .ref (x + 12), .null, .int (-1), .long (-1), .int 0, .int 0, .int 0, .int 0])) := by rw [eM22, bm_up_ne (bm_ne0 (k := 12))]; exact h0
  replace hc2 : M22 (x + 1) = some (.inl (ct 3, 4, .inr (.inr (.inr (.inr (fun _ => none)))))) := by rw [eM22, bm_up_ne (bm_nea (by decide))]; exact hc2
  replace f0 : M22 (x + 2) = some (.inr (5, [.ref (x + 3), .ref (x + 4), .int 0, .int 0])) := by rw [eM22, bm_up_ne (bm_nea (by decide))]; exact f0
  replace f1 : M22 (x + 3) = some (.inl (ct 5, 6, .inr (.inr (.inr (.inr cf))))) := by rw [eM22, bm_up_ne (bm_nea (by decide))]; exact f1
  replace f2 : M22 (x + 4) = some (.inl (ct 5, 4, .inr (.inr (.inr (.inr (fun _ => none)))))) := by rw [eM22, bm_up_ne (bm_nea (by decide))]; exact f2
  replace k0 : M22 (x + 5) = some (.inr (1, [.long 0, .long 0, .long 0, .long 0, .long 0, .long 0, .long 0])) := by rw [eM22, bm_up_ne (bm_nea (by decide))]; exact k0
  replace k1 : M22 (x + 6) = some (.inr (1, [.long 0, .long 0, .long 0, .long 0, .long 0, .long 0, .long 0])) := by rw [eM22, bm_up_ne (bm_nea (by decide))]; exact k1
  replace k2 : M22 (x + 7) = some (.inr (1, [.long 0, .long 0, .long 0, .long 0, .long 0, .long 0, .long 0])) := by rw [eM22, bm_up_ne (bm_nea (by decide))]; exact k2
  replace k3 : M22 (x + 8) = some (.inr (1, [.long 0, .long 0, .long 0, .long 0, .long 0, .long 0, .long 0])) := by rw [eM22, bm_up_ne (bm_nea (by decide))]; exact k3
  replace k4 : M22 (x + 9) = some (.inr (1, [.long 0, .long 0, .long 0, .long 0, .long 0, .long 0, .long 0])) := by rw [eM22, bm_up_ne (bm_nea (by decide))]; exact k4
  replace k5 : M22 (x + 10) = some (.inr (1, [.long 0, .long 0, .long 0, .long 0, .long 0, .long 0, .long 0])) := by rw [eM22, bm_up_ne (bm_nea (by decide))]; exact k5
  replace hc9 : M22 (x + 11) = some (.inl (ct 4, 20, .inr (.inr (.inr (.inr (fun _ => none)))))) := by rw [eM22, bm_up_ne (bm_nea (by decide))]; exact hc9
  replace hc13 : M22 (x + 12) = some (.inl (ct 1, 4, .inr (.inl (fun _ => 0)))) := by rw [eM22, bm_up_ne (bm_nea (by decide))]; exact hc13
  have hc23 : M22 (x + 13) = some (.inr (0, [.int 0, .null, .int 0])) := by rw [eM22]; exact bm_up_self _ _ _
  replace hF : ∀ a, a < x → M22 a = M a := fun a ha => by rw [eM22]; exact (bm_up_ne (bm_lnea ha)).trans (hF a ha)
  clear eM22 hz1
  refine lv_dup hx hb dB_init_96 rfl ?_
  refine bm_call (va_runIN (b := x + 13) (As := []) (rest := [.ref (x + 13), .int 0, .ref (x + 1)]) ⟨hx, hb, hml, hown, hts⟩ (bc_A_init l D ct base ad M22 (x + 14) (x + 13) hc23) ⟨va_cnB 0 hts (bm_goodW bw_91) rfl rfl rfl (hG.2.2.1.w89) (hts _ bw_4) (by decide +kernel) (by rw [← hR]; exact ⟨Nat.le_of_ble_eq_true rfl, Nat.le_of_ble_eq_true rfl⟩), rfl, hts _ bw_90⟩ (bm_preS hM hG hS hz) rfl rfl hl.1 rfl (lv_room (Nat.le_of_ble_eq_true rfl)) dB_init_97 (by rw [← hR]; exact ⟨Nat.le_of_ble_eq_true rfl, Nat.le_of_ble_eq_true rfl⟩)) hS (fun v9 M24 H locs hq hM hS _ => ?_)
  obtain ⟨rfl, hz, hc239, hw25, hfr⟩ := hq
  replace hz : H.size = x + 15 := hz
  replace h0 : M24 x = some (.inr (6, [.ref (x + 1), .ref (x + 2), .ref (x + 11), .int 0, .ref (x + 12), .null, .int (-1), .long (-1), .int 0, .int 0, .int 0, .int 0])) := by rw [hfr x (bm_ne0 (k := 12)) (by omega)]; exact h0
  replace hc2 : M24 (x + 1) = some (.inl (ct 3, 4, .inr (.inr (.inr (.inr (fun _ => none)))))) := by rw [hfr (x + 1) (bm_nea (by decide)) (by omega)]; exact hc2
  replace f0 : M24 (x + 2) = some (.inr (5, [.ref (x + 3), .ref (x + 4), .int 0, .int 0])) := by rw [hfr (x + 2) (bm_nea (by decide)) (by omega)]; exact f0
  replace f1 : M24 (x + 3) = some (.inl (ct 5, 6, .inr (.inr (.inr (.inr cf))))) := by rw [hfr (x + 3) (bm_nea (by decide)) (by omega)]; exact f1
  replace f2 : M24 (x + 4) = some (.inl (ct 5, 4, .inr (.inr (.inr (.inr (fun _ => none)))))) := by rw [hfr (x + 4) (bm_nea (by decide)) (by omega)]; exact f2
  replace k0 : M24 (x + 5) = some (.inr (1, [.long 0, .long 0, .long 0, .long 0, .long 0, .long 0, .long 0])) := by rw [hfr (x + 5) (bm_nea (by decide)) (by omega)]; exact k0
  replace k1 : M24 (x + 6) = some (.inr (1, [.long 0, .long 0, .long 0, .long 0, .long 0, .long 0, .long 0])) := by rw [hfr (x + 6) (bm_nea (by decide)) (by omega)]; exact k1
  replace k2 : M24 (x + 7) = some (.inr (1, [.long 0, .long 0, .long 0, .long 0, .long 0, .long 0, .long 0])) := by rw [hfr (x + 7) (bm_nea (by decide)) (by omega)]; exact k2
  replace k3 : M24 (x + 8) = some (.inr (1, [.long 0, .long 0, .long 0, .long 0, .long 0, .long 0, .long 0])) := by rw [hfr (x + 8) (bm_nea (by decide)) (by omega)]; exact k3
  replace k4 : M24 (x + 9) = some (.inr (1, [.long 0, .long 0, .long 0, .long 0, .long 0, .long 0, .long 0])) := by rw [hfr (x + 9) (bm_nea (by decide)) (by omega)]; exact k4
  replace k5 : M24 (x + 10) = some (.inr (1, [.long 0, .long 0, .long 0, .long 0, .long 0, .long 0, .long 0])) := by rw [hfr (x + 10) (bm_nea (by decide)) (by omega)]; exact k5
  replace hc9 : M24 (x + 11) = some (.inl (ct 4, 20, .inr (.inr (.inr (.inr (fun _ => none)))))) := by rw [hfr (x + 11) (bm_nea (by decide)) (by omega)]; exact hc9
  replace hc13 : M24 (x + 12) = some (.inl (ct 1, 4, .inr (.inl (fun _ => 0)))) := by rw [hfr (x + 12) (bm_nea (by decide)) (by omega)]; exact hc13
  replace hc23 : M24 (x + 13) = some (.inr (0, [.int 100, .ref (x + 14), .int 0])) := hc239
  replace hw25 : M24 (x + 14) = some (.inl (ct 6, 8, .inr (.inr (.inr (.inr (fun _ => none)))))) := hw25
  replace hF : ∀ a, a < x → M24 a = M a := fun a ha => (hfr a (by omega) (by omega)).trans (hF a ha)
  clear hfr hc239
  refine bm_aast hx hb hK hM hS 3 0 (r := ("BlindMint$Account", bt_A, 3)) hc2 rfl hc23 rfl 0 (bm_ix_nI (k := 0) (by decide)) (by decide) dB_init_100 (fun H locs hz1 hM hS => ?_)
  replace hz := hz1.trans hz
  replace hM : bm_M D base (bm_up M24 (x + 1) (.inl (ct 3, 4, .inr (.inr (.inr (.inr (va_up (fun _ => none) 0 (some (x + 13))))))))) H := hM
  obtain ⟨M26, eM26⟩ : ∃ X, X = bm_up M24 (x + 1) (.inl (ct 3, 4, .inr (.inr (.inr (.inr (va_up (fun _ => none) 0 (some (x + 13)))))))) := ⟨_, rfl⟩
  rw [← eM26] at hM
  replace h0 : M26 x = some (.inr (6, [.ref (x + 1), .ref (x + 2), .ref (x + 11), .int 0, .ref (x + 12), .null, .int (-1), .long (-1), .int 0, .int 0, .int 0, .int 0])) := by rw [eM26, bm_up_ne (bm_ne0 (k := 0))]; exact h0
  replace f0 : M26 (x + 2) = some (.inr (5, [.ref (x + 3), .ref (x + 4), .int 0, .int 0])) := by rw [eM26, bm_up_ne (bm_nea (by decide))]; exact f0
  replace f1 : M26 (x + 3) = some (.inl (ct 5, 6, .inr (.inr (.inr (.inr cf))))) := by rw [eM26, bm_up_ne (bm_nea (by decide))]; exact f1
  replace f2 : M26 (x + 4) = some (.inl (ct 5, 4, .inr (.inr (.inr (.inr (fun _ => none)))))) := by rw [eM26, bm_up_ne (bm_nea (by decide))]; exact f2
  replace k0 : M26 (x + 5) = some (.inr (1, [.long 0, .long 0, .long 0, .long 0, .long 0, .long 0, .long 0])) := by rw [eM26, bm_up_ne (bm_nea (by decide))]; exact k0
  replace k1 : M26 (x + 6) = some (.inr (1, [.long 0, .long 0, .long 0, .long 0, .long 0, .long 0, .long 0])) := by rw [eM26, bm_up_ne (bm_nea (by decide))]; exact k1
  replace k2 : M26 (x + 7) = some (.inr (1, [.long 0, .long 0, .long 0, .long 0, .long 0, .long 0, .long 0])) := by rw [eM26, bm_up_ne (bm_nea (by decide))]; exact k2
  replace k3 : M26 (x + 8) = some (.inr (1, [.long 0, .long 0, .long 0, .long 0, .long 0, .long 0, .long 0])) := by rw [eM26, bm_up_ne (bm_nea (by decide))]; exact k3
  replace k4 : M26 (x + 9) = some (.inr (1, [.long 0, .long 0, .long 0, .long 0, .long 0, .long 0, .long 0])) := by rw [eM26, bm_up_ne (bm_nea (by decide))]; exact k4
  replace k5 : M26 (x + 10) = some (.inr (1, [.long 0, .long 0, .long 0, .long 0, .long 0, .long 0, .long 0])) := by rw [eM26, bm_up_ne (bm_nea (by decide))]; exact k5
  replace hc9 : M26 (x + 11) = some (.inl (ct 4, 20, .inr (.inr (.inr (.inr (fun _ => none)))))) := by rw [eM26, bm_up_ne (bm_nea (by decide))]; exact hc9
  replace hc13 : M26 (x + 12) = some (.inl (ct 1, 4, .inr (.inl (fun _ => 0)))) := by rw [eM26, bm_up_ne (bm_nea (by decide))]; exact hc13
  replace hc23 : M26 (x + 13) = some (.inr (0, [.int 100, .ref (x + 14), .int 0])) := by rw [eM26, bm_up_ne (bm_nea (by decide))]; exact hc23
  replace hw25 : M26 (x + 14) = some (.inl (ct 6, 8, .inr (.inr (.inr (.inr (fun _ => none)))))) := by rw [eM26, bm_up_ne (bm_nea (by decide))]; exact hw25
  replace hc2 : M26 (x + 1) = some (.inl (ct 3, 4, .inr (.inr (.inr (.inr (va_up (fun _ => none) 0 (some (x + 13)))))))) := by rw [eM26]; exact bm_up_self _ _ _
  replace hF : ∀ a, a < x → M26 a = M a := fun a ha => by rw [eM26]; exact (bm_up_ne (bm_lnea ha)).trans (hF a ha)
  clear eM26
  refine lv_iinc (v := 1) (k := 0) hx hb dB_init_101 hl rfl (by decide) (by decide) rfl (fun ls hl => ?_)
  have hl : lv_has ls 2 [(1, .int 1), (0, .ref x)] := hl
  refine lv_goto (tgt := 83) hx hb dB_init_104 rfl ?_
  refine lv_iload_n hx hb dB_init_83 rfl (lv_at hl 0 rfl) ?_
  refine lv_iconst (v := 4) hx hb dB_init_84 (by decide) ?_
  refine lv_icmp_ge (tgt := 107) hx hb dB_init_85 rfl (fun h => absurd h (by decide)) (fun _ => ?_)
  refine lv_aload_n hx hb dB_init_88 rfl (lv_at hl 1 rfl) ?_
  refine bm_get (ci := 6) (v := .ref (x + 1)) (C := "BlindMint") (T := bt_B) (N := 12) hx hb hts bu_B hown hK hM h0 rfl 0 (by decide) (hts _ bw_109) (fun _ h9 => h9) rfl dB_init_89 ?_
  refine lv_iload_n hx hb dB_init_92 rfl (lv_at hl 0 rfl) ?_
  refine bm_newz (ci := 0) (fs := [.int 0, .null, .int 0]) (C := "BlindMint$Account") (T := bt_A) (N := 3) hz hx hb hts bu_A by_A bo_A hown (hts _ bw_27) (hts _ bw_88) (hts _ bw_4) hK hM hS (Nat.le_trans hG.2.1 hS.1) rfl (fun j hj => by rcases (show j = 0 ∨ j = 1 ∨ j = 2 by omega) with rfl | rfl | rfl <;> rfl) (by rw [← hR]; exact Nat.le_of_ble_eq_true rfl) (by rw [← hR]; exact Nat.le_of_ble_eq_true rfl) dB_init_93 (fun H hz1 hM hS => ?_)
  replace hz : H.size = x + 16 := hz1
  obtain ⟨M27, eM27⟩ : ∃ X, X = bm_up M26 (x + 15) (.inr (0, [.int 0, .null, .int 0])) := ⟨_, rfl⟩
  replace hM : bm_M D base M27 H := by rw [eM27]; exact hM
  replace h0 : M27 x = some (.inr (6, [.ref (x + 1), .ref (x + 2), .ref (x + 11), .int 0, .ref (x + 12), .null, .int (-1), .long (-1), .int 0, .int 0, .int 0, .int 0])) := by rw [eM27, bm_up_ne (bm_ne0 (k := 14))]; exact h0
  replace hc2 : M27 (x + 1) = some (.inl (ct 3, 4, .inr (.inr (.inr (.inr (va_up (fun _ => none) 0 (some (x + 13)))))))) := by rw [eM27, bm_up_ne (bm_nea (by decide))]; exact hc2
  replace f0 : M27 (x + 2) = some (.inr (5, [.ref (x + 3), .ref (x + 4), .int 0, .int 0])) := by rw [eM27, bm_up_ne (bm_nea (by decide))]; exact f0
  replace f1 : M27 (x + 3) = some (.inl (ct 5, 6, .inr (.inr (.inr (.inr cf))))) := by rw [eM27, bm_up_ne (bm_nea (by decide))]; exact f1
  replace f2 : M27 (x + 4) = some (.inl (ct 5, 4, .inr (.inr (.inr (.inr (fun _ => none)))))) := by rw [eM27, bm_up_ne (bm_nea (by decide))]; exact f2
  replace k0 : M27 (x + 5) = some (.inr (1, [.long 0, .long 0, .long 0, .long 0, .long 0, .long 0, .long 0])) := by rw [eM27, bm_up_ne (bm_nea (by decide))]; exact k0
  replace k1 : M27 (x + 6) = some (.inr (1, [.long 0, .long 0, .long 0, .long 0, .long 0, .long 0, .long 0])) := by rw [eM27, bm_up_ne (bm_nea (by decide))]; exact k1
  replace k2 : M27 (x + 7) = some (.inr (1, [.long 0, .long 0, .long 0, .long 0, .long 0, .long 0, .long 0])) := by rw [eM27, bm_up_ne (bm_nea (by decide))]; exact k2
  replace k3 : M27 (x + 8) = some (.inr (1, [.long 0, .long 0, .long 0, .long 0, .long 0, .long 0, .long 0])) := by rw [eM27, bm_up_ne (bm_nea (by decide))]; exact k3
  replace k4 : M27 (x + 9) = some (.inr (1, [.long 0, .long 0, .long 0, .long 0, .long 0, .long 0, .long 0])) := by rw [eM27, bm_up_ne (bm_nea (by decide))]; exact k4
  replace k5 : M27 (x + 10) = some (.inr (1, [.long 0, .long 0, .long 0, .long 0, .long 0, .long 0, .long 0])) := by rw [eM27, bm_up_ne (bm_nea (by decide))]; exact k5
  replace hc9 : M27 (x + 11) = some (.inl (ct 4, 20, .inr (.inr (.inr (.inr (fun _ => none)))))) := by rw [eM27, bm_up_ne (bm_nea (by decide))]; exact hc9
  replace hc13 : M27 (x + 12) = some (.inl (ct 1, 4, .inr (.inl (fun _ => 0)))) := by rw [eM27, bm_up_ne (bm_nea (by decide))]; exact hc13
  replace hc23 : M27 (x + 13) = some (.inr (0, [.int 100, .ref (x + 14), .int 0])) := by rw [eM27, bm_up_ne (bm_nea (by decide))]; exact hc23
  replace hw25 : M27 (x + 14) = some (.inl (ct 6, 8, .inr (.inr (.inr (.inr (fun _ => none)))))) := by rw [eM27, bm_up_ne (bm_nea (by decide))]; exact hw25
  have hc28 : M27 (x + 15) = some (.inr (0, [.int 0, .null, .int 0])) := by rw [eM27]; exact bm_up_self _ _ _
  replace hF : ∀ a, a < x → M27 a = M a := fun a ha => by rw [eM27]; exact (bm_up_ne (bm_lnea ha)).trans (hF a ha)
  clear eM27 hz1
  refine lv_dup hx hb dB_init_96 rfl ?_
  refine bm_call (va_runIN (b := x + 15) (As := []) (rest := [.ref (x + 15), .int 1, .ref (x + 1)]) ⟨hx, hb, hml, hown, hts⟩ (bc_A_init l D ct base ad M27 (x + 16) (x + 15) hc28) ⟨va_cnB 0 hts (bm_goodW bw_91) rfl rfl rfl (hG.2.2.1.w89) (hts _ bw_4) (by decide +kernel) (by rw [← hR]; exact ⟨Nat.le_of_ble_eq_true rfl, Nat.le_of_ble_eq_true rfl⟩), rfl, hts _ bw_90⟩ (bm_preS hM hG hS hz) rfl rfl hl.1 rfl (lv_room (Nat.le_of_ble_eq_true rfl)) dB_init_97 (by rw [← hR]; exact ⟨Nat.le_of_ble_eq_true rfl, Nat.le_of_ble_eq_true rfl⟩)) hS (fun v9 M29 H locs hq hM hS _ => ?_)
  obtain ⟨rfl, hz, hc289, hw30, hfr⟩ := hq
  replace hz : H.size = x + 17 := hz
  replace h0 : M29 x = some (.inr (6, [.ref (x + 1), .ref (x + 2), .ref (x + 11), .int 0, .ref (x + 12), .null, .int (-1), .long (-1), .int 0, .int 0, .int 0, .int 0])) := by rw [hfr x (bm_ne0 (k := 14)) (by omega)]; exact h0
  replace hc2 : M29 (x + 1) = some (.inl (ct 3, 4, .inr (.inr (.inr (.inr (va_up (fun _ => none) 0 (some (x + 13)))))))) := by rw [hfr (x + 1) (bm_nea (by decide)) (by omega)]; exact hc2
  replace f0 : M29 (x + 2) = some (.inr (5, [.ref (x + 3), .ref (x + 4), .int 0, .int 0])) := by rw [hfr (x + 2) (bm_nea (by decide)) (by omega)]; exact f0
  replace f1 : M29 (x + 3) = some (.inl (ct 5, 6, .inr (.inr (.inr (.inr cf))))) := by rw [hfr (x + 3) (bm_nea (by decide)) (by omega)]; exact f1
  replace f2 : M29 (x + 4) = some (.inl (ct 5, 4, .inr (.inr (.inr (.inr (fun _ => none)))))) := by rw [hfr (x + 4) (bm_nea (by decide)) (by omega)]; exact f2
  replace k0 : M29 (x + 5) = some (.inr (1, [.long 0, .long 0, .long 0, .long 0, .long 0, .long 0, .long 0])) := by rw [hfr (x + 5) (bm_nea (by decide)) (by omega)]; exact k0
  replace k1 : M29 (x + 6) = some (.inr (1, [.long 0, .long 0, .long 0, .long 0, .long 0, .long 0, .long 0])) := by rw [hfr (x + 6) (bm_nea (by decide)) (by omega)]; exact k1
  replace k2 : M29 (x + 7) = some (.inr (1, [.long 0, .long 0, .long 0, .long 0, .long 0, .long 0, .long 0])) := by rw [hfr (x + 7) (bm_nea (by decide)) (by omega)]; exact k2
  replace k3 : M29 (x + 8) = some (.inr (1, [.long 0, .long 0, .long 0, .long 0, .long 0, .long 0, .long 0])) := by rw [hfr (x + 8) (bm_nea (by decide)) (by omega)]; exact k3
  replace k4 : M29 (x + 9) = some (.inr (1, [.long 0, .long 0, .long 0, .long 0, .long 0, .long 0, .long 0])) := by rw [hfr (x + 9) (bm_nea (by decide)) (by omega)]; exact k4
  replace k5 : M29 (x + 10) = some (.inr (1, [.long 0, .long 0, .long 0, .long 0, .long 0, .long 0, .long 0])) := by rw [hfr (x + 10) (bm_nea (by decide)) (by omega)]; exact k5
  replace hc9 : M29 (x + 11) = some (.inl (ct 4, 20, .inr (.inr (.inr (.inr (fun _ => none)))))) := by rw [hfr (x + 11) (bm_nea (by decide)) (by omega)]; exact hc9
  replace hc13 : M29 (x + 12) = some (.inl (ct 1, 4, .inr (.inl (fun _ => 0)))) := by rw [hfr (x + 12) (bm_nea (by decide)) (by omega)]; exact hc13
  replace hc23 : M29 (x + 13) = some (.inr (0, [.int 100, .ref (x + 14), .int 0])) := by rw [hfr (x + 13) (bm_nea (by decide)) (by omega)]; exact hc23
  replace hw25 : M29 (x + 14) = some (.inl (ct 6, 8, .inr (.inr (.inr (.inr (fun _ => none)))))) := by rw [hfr (x + 14) (bm_nea (by decide)) (by omega)]; exact hw25
  replace hc28 : M29 (x + 15) = some (.inr (0, [.int 100, .ref (x + 16), .int 0])) := hc289
  replace hw30 : M29 (x + 16) = some (.inl (ct 6, 8, .inr (.inr (.inr (.inr (fun _ => none)))))) := hw30
  replace hF : ∀ a, a < x → M29 a = M a := fun a ha => (hfr a (by omega) (by omega)).trans (hF a ha)
  clear hfr hc289
  refine bm_aast hx hb hK hM hS 3 0 (r := ("BlindMint$Account", bt_A, 3)) hc2 rfl hc28 rfl 1 (bm_ix_nI (k := 1) (by decide)) (by decide) dB_init_100 (fun H locs hz1 hM hS => ?_)
  replace hz := hz1.trans hz
  replace hM : bm_M D base (bm_up M29 (x + 1) (.inl (ct 3, 4, .inr (.inr (.inr (.inr (va_up (va_up (fun _ => none) 0 (some (x + 13))) 1 (some (x + 15))))))))) H := hM
  obtain ⟨M31, eM31⟩ : ∃ X, X = bm_up M29 (x + 1) (.inl (ct 3, 4, .inr (.inr (.inr (.inr (va_up (va_up (fun _ => none) 0 (some (x + 13))) 1 (some (x + 15)))))))) := ⟨_, rfl⟩
  rw [← eM31] at hM
  replace h0 : M31 x = some (.inr (6, [.ref (x + 1), .ref (x + 2), .ref (x + 11), .int 0, .ref (x + 12), .null, .int (-1), .long (-1), .int 0, .int 0, .int 0, .int 0])) := by rw [eM31, bm_up_ne (bm_ne0 (k := 0))]; exact h0
  replace f0 : M31 (x + 2) = some (.inr (5, [.ref (x + 3), .ref (x + 4), .int 0, .int 0])) := by rw [eM31, bm_up_ne (bm_nea (by decide))]; exact f0
  replace f1 : M31 (x + 3) = some (.inl (ct 5, 6, .inr (.inr (.inr (.inr cf))))) := by rw [eM31, bm_up_ne (bm_nea (by decide))]; exact f1
  replace f2 : M31 (x + 4) = some (.inl (ct 5, 4, .inr (.inr (.inr (.inr (fun _ => none)))))) := by rw [eM31, bm_up_ne (bm_nea (by decide))]; exact f2
  replace k0 : M31 (x + 5) = some (.inr (1, [.long 0, .long 0, .long 0, .long 0, .long 0, .long 0, .long 0])) := by rw [eM31, bm_up_ne (bm_nea (by decide))]; exact k0
  replace k1 : M31 (x + 6) = some (.inr (1, [.long 0, .long 0, .long 0, .long 0, .long 0, .long 0, .long 0])) := by rw [eM31, bm_up_ne (bm_nea (by decide))]; exact k1
  replace k2 : M31 (x + 7) = some (.inr (1, [.long 0, .long 0, .long 0, .long 0, .long 0, .long 0, .long 0])) := by rw [eM31, bm_up_ne (bm_nea (by decide))]; exact k2
  replace k3 : M31 (x + 8) = some (.inr (1, [.long 0, .long 0, .long 0, .long 0, .long 0, .long 0, .long 0])) := by rw [eM31, bm_up_ne (bm_nea (by decide))]; exact k3
  replace k4 : M31 (x + 9) = some (.inr (1, [.long 0, .long 0, .long 0, .long 0, .long 0, .long 0, .long 0])) := by rw [eM31, bm_up_ne (bm_nea (by decide))]; exact k4
  replace k5 : M31 (x + 10) = some (.inr (1, [.long 0, .long 0, .long 0, .long 0, .long 0, .long 0, .long 0])) := by rw [eM31, bm_up_ne (bm_nea (by decide))]; exact k5
  replace hc9 : M31 (x + 11) = some (.inl (ct 4, 20, .inr (.inr (.inr (.inr (fun _ => none)))))) := by rw [eM31, bm_up_ne (bm_nea (by decide))]; exact hc9
  replace hc13 : M31 (x + 12) = some (.inl (ct 1, 4, .inr (.inl (fun _ => 0)))) := by rw [eM31, bm_up_ne (bm_nea (by decide))]; exact hc13
  replace hc23 : M31 (x + 13) = some (.inr (0, [.int 100, .ref (x + 14), .int 0])) := by rw [eM31, bm_up_ne (bm_nea (by decide))]; exact hc23
  replace hw25 : M31 (x + 14) = some (.inl (ct 6, 8, .inr (.inr (.inr (.inr (fun _ => none)))))) := by rw [eM31, bm_up_ne (bm_nea (by decide))]; exact hw25
  replace hc28 : M31 (x + 15) = some (.inr (0, [.int 100, .ref (x + 16), .int 0])) := by rw [eM31, bm_up_ne (bm_nea (by decide))]; exact hc28
  replace hw30 : M31 (x + 16) = some (.inl (ct 6, 8, .inr (.inr (.inr (.inr (fun _ => none)))))) := by rw [eM31, bm_up_ne (bm_nea (by decide))]; exact hw30
  replace hc2 : M31 (x + 1) = some (.inl (ct 3, 4, .inr (.inr (.inr (.inr (va_up (va_up (fun _ => none) 0 (some (x + 13))) 1 (some (x + 15)))))))) := by rw [eM31]; exact bm_up_self _ _ _
  replace hF : ∀ a, a < x → M31 a = M a := fun a ha => by rw [eM31]; exact (bm_up_ne (bm_lnea ha)).trans (hF a ha)
  clear eM31
  refine lv_iinc (v := 2) (k := 0) hx hb dB_init_101 hl rfl (by decide) (by decide) rfl (fun ls hl => ?_)
  have hl : lv_has ls 2 [(1, .int 2), (0, .ref x)] := hl
  refine lv_goto (tgt := 83) hx hb dB_init_104 rfl ?_
  refine lv_iload_n hx hb dB_init_83 rfl (lv_at hl 0 rfl) ?_
  refine lv_iconst (v := 4) hx hb dB_init_84 (by decide) ?_
  refine lv_icmp_ge (tgt := 107) hx hb dB_init_85 rfl (fun h => absurd h (by decide)) (fun _ => ?_)
  refine lv_aload_n hx hb dB_init_88 rfl (lv_at hl 1 rfl) ?_
  refine bm_get (ci := 6) (v := .ref (x + 1)) (C := "BlindMint") (T := bt_B) (N := 12) hx hb hts bu_B hown hK hM h0 rfl 0 (by decide) (hts _ bw_109) (fun _ h9 => h9) rfl dB_init_89 ?_
  refine lv_iload_n hx hb dB_init_92 rfl (lv_at hl 0 rfl) ?_
  refine bm_newz (ci := 0) (fs := [.int 0, .null, .int 0]) (C := "BlindMint$Account") (T := bt_A) (N := 3) hz hx hb hts bu_A by_A bo_A hown (hts _ bw_27) (hts _ bw_88) (hts _ bw_4) hK hM hS (Nat.le_trans hG.2.1 hS.1) rfl (fun j hj => by rcases (show j = 0 ∨ j = 1 ∨ j = 2 by omega) with rfl | rfl | rfl <;> rfl) (by rw [← hR]; exact Nat.le_of_ble_eq_true rfl) (by rw [← hR]; exact Nat.le_of_ble_eq_true rfl) dB_init_93 (fun H hz1 hM hS => ?_)
  replace hz : H.size = x + 18 := hz1
  obtain ⟨M32, eM32⟩ : ∃ X, X = bm_up M31 (x + 17) (.inr (0, [.int 0, .null, .int 0])) := ⟨_, rfl⟩
  replace hM : bm_M D base M32 H := by rw [eM32]; exact hM
  replace h0 : M32 x = some (.inr (6, [.ref (x + 1), .ref (x + 2), .ref (x + 11), .int 0, .ref (x + 12), .null, .int (-1), .long (-1), .int 0, .int 0, .int 0, .int 0])) := by rw [eM32, bm_up_ne (bm_ne0 (k := 16))]; exact h0
  replace hc2 : M32 (x + 1) = some (.inl (ct 3, 4, .inr (.inr (.inr (.inr (va_up (va_up (fun _ => none) 0 (some (x + 13))) 1 (some (x + 15)))))))) := by rw [eM32, bm_up_ne (bm_nea (by decide))]; exact hc2
  replace f0 : M32 (x + 2) = some (.inr (5, [.ref (x + 3), .ref (x + 4), .int 0, .int 0])) := by rw [eM32, bm_up_ne (bm_nea (by decide))]; exact f0
  replace f1 : M32 (x + 3) = some (.inl (ct 5, 6, .inr (.inr (.inr (.inr cf))))) := by rw [eM32, bm_up_ne (bm_nea (by decide))]; exact f1
  replace f2 : M32 (x + 4) = some (.inl (ct 5, 4, .inr (.inr (.inr (.inr (fun _ => none)))))) := by rw [eM32, bm_up_ne (bm_nea (by decide))]; exact f2
  replace k0 : M32 (x + 5) = some (.inr (1, [.long 0, .long 0, .long 0, .long 0, .long 0, .long 0, .long 0])) := by rw [eM32, bm_up_ne (bm_nea (by decide))]; exact k0
  replace k1 : M32 (x + 6) = some (.inr (1, [.long 0, .long 0, .long 0, .long 0, .long 0, .long 0, .long 0])) := by rw [eM32, bm_up_ne (bm_nea (by decide))]; exact k1
  replace k2 : M32 (x + 7) = some (.inr (1, [.long 0, .long 0, .long 0, .long 0, .long 0, .long 0, .long 0])) := by rw [eM32, bm_up_ne (bm_nea (by decide))]; exact k2
  replace k3 : M32 (x + 8) = some (.inr (1, [.long 0, .long 0, .long 0, .long 0, .long 0, .long 0, .long 0])) := by rw [eM32, bm_up_ne (bm_nea (by decide))]; exact k3
  replace k4 : M32 (x + 9) = some (.inr (1, [.long 0, .long 0, .long 0, .long 0, .long 0, .long 0, .long 0])) := by rw [eM32, bm_up_ne (bm_nea (by decide))]; exact k4
  replace k5 : M32 (x + 10) = some (.inr (1, [.long 0, .long 0, .long 0, .long 0, .long 0, .long 0, .long 0])) := by rw [eM32, bm_up_ne (bm_nea (by decide))]; exact k5
  replace hc9 : M32 (x + 11) = some (.inl (ct 4, 20, .inr (.inr (.inr (.inr (fun _ => none)))))) := by rw [eM32, bm_up_ne (bm_nea (by decide))]; exact hc9
  replace hc13 : M32 (x + 12) = some (.inl (ct 1, 4, .inr (.inl (fun _ => 0)))) := by rw [eM32, bm_up_ne (bm_nea (by decide))]; exact hc13
  replace hc23 : M32 (x + 13) = some (.inr (0, [.int 100, .ref (x + 14), .int 0])) := by rw [eM32, bm_up_ne (bm_nea (by decide))]; exact hc23
  replace hw25 : M32 (x + 14) = some (.inl (ct 6, 8, .inr (.inr (.inr (.inr (fun _ => none)))))) := by rw [eM32, bm_up_ne (bm_nea (by decide))]; exact hw25
  replace hc28 : M32 (x + 15) = some (.inr (0, [.int 100, .ref (x + 16), .int 0])) := by rw [eM32, bm_up_ne (bm_nea (by decide))]; exact hc28
  replace hw30 : M32 (x + 16) = some (.inl (ct 6, 8, .inr (.inr (.inr (.inr (fun _ => none)))))) := by rw [eM32, bm_up_ne (bm_nea (by decide))]; exact hw30
  have hc33 : M32 (x + 17) = some (.inr (0, [.int 0, .null, .int 0])) := by rw [eM32]; exact bm_up_self _ _ _
  replace hF : ∀ a, a < x → M32 a = M a := fun a ha => by rw [eM32]; exact (bm_up_ne (bm_lnea ha)).trans (hF a ha)
  clear eM32 hz1
  refine lv_dup hx hb dB_init_96 rfl ?_
  refine bm_call (va_runIN (b := x + 17) (As := []) (rest := [.ref (x + 17), .int 2, .ref (x + 1)]) ⟨hx, hb, hml, hown, hts⟩ (bc_A_init l D ct base ad M32 (x + 18) (x + 17) hc33) ⟨va_cnB 0 hts (bm_goodW bw_91) rfl rfl rfl (hG.2.2.1.w89) (hts _ bw_4) (by decide +kernel) (by rw [← hR]; exact ⟨Nat.le_of_ble_eq_true rfl, Nat.le_of_ble_eq_true rfl⟩), rfl, hts _ bw_90⟩ (bm_preS hM hG hS hz) rfl rfl hl.1 rfl (lv_room (Nat.le_of_ble_eq_true rfl)) dB_init_97 (by rw [← hR]; exact ⟨Nat.le_of_ble_eq_true rfl, Nat.le_of_ble_eq_true rfl⟩)) hS (fun v9 M34 H locs hq hM hS _ => ?_)
  obtain ⟨rfl, hz, hc339, hw35, hfr⟩ := hq
  replace hz : H.size = x + 19 := hz
  replace h0 : M34 x = some (.inr (6, [.ref (x + 1), .ref (x + 2), .ref (x + 11), .int 0, .ref (x + 12), .null, .int (-1), .long (-1), .int 0, .int 0, .int 0, .int 0])) := by rw [hfr x (bm_ne0 (k := 16)) (by omega)]; exact h0
  replace hc2 : M34 (x + 1) = some (.inl (ct 3, 4, .inr (.inr (.inr (.inr (va_up (va_up (fun _ => none) 0 (some (x + 13))) 1 (some (x + 15)))))))) := by rw [hfr (x + 1) (bm_nea (by decide)) (by omega)]; exact hc2
  replace f0 : M34 (x + 2) = some (.inr (5, [.ref (x + 3), .ref (x + 4), .int 0, .int 0])) := by rw [hfr (x + 2) (bm_nea (by decide)) (by omega)]; exact f0
  replace f1 : M34 (x + 3) = some (.inl (ct 5, 6, .inr (.inr (.inr (.inr cf))))) := by rw [hfr (x + 3) (bm_nea (by decide)) (by omega)]; exact f1
  replace f2 : M34 (x + 4) = some (.inl (ct 5, 4, .inr (.inr (.inr (.inr (fun _ => none)))))) := by rw [hfr (x + 4) (bm_nea (by decide)) (by omega)]; exact f2
  replace k0 : M34 (x + 5) = some (.inr (1, [.long 0, .long 0, .long 0, .long 0, .long 0, .long 0, .long 0])) := by rw [hfr (x + 5) (bm_nea (by decide)) (by omega)]; exact k0
  replace k1 : M34 (x + 6) = some (.inr (1, [.long 0, .long 0, .long 0, .long 0, .long 0, .long 0, .long 0])) := by rw [hfr (x + 6) (bm_nea (by decide)) (by omega)]; exact k1
  replace k2 : M34 (x + 7) = some (.inr (1, [.long 0, .long 0, .long 0, .long 0, .long 0, .long 0, .long 0])) := by rw [hfr (x + 7) (bm_nea (by decide)) (by omega)]; exact k2
  replace k3 : M34 (x + 8) = some (.inr (1, [.long 0, .long 0, .long 0, .long 0, .long 0, .long 0, .long 0])) := by rw [hfr (x + 8) (bm_nea (by decide)) (by omega)]; exact k3
  replace k4 : M34 (x + 9) = some (.inr (1, [.long 0, .long 0, .long 0, .long 0, .long 0, .long 0, .long 0])) := by rw [hfr (x + 9) (bm_nea (by decide)) (by omega)]; exact k4
  replace k5 : M34 (x + 10) = some (.inr (1, [.long 0, .long 0, .long 0, .long 0, .long 0, .long 0, .long 0])) := by rw [hfr (x + 10) (bm_nea (by decide)) (by omega)]; exact k5
  replace hc9 : M34 (x + 11) = some (.inl (ct 4, 20, .inr (.inr (.inr (.inr (fun _ => none)))))) := by rw [hfr (x + 11) (bm_nea (by decide)) (by omega)]; exact hc9
  replace hc13 : M34 (x + 12) = some (.inl (ct 1, 4, .inr (.inl (fun _ => 0)))) := by rw [hfr (x + 12) (bm_nea (by decide)) (by omega)]; exact hc13
  replace hc23 : M34 (x + 13) = some (.inr (0, [.int 100, .ref (x + 14), .int 0])) := by rw [hfr (x + 13) (bm_nea (by decide)) (by omega)]; exact hc23
  replace hw25 : M34 (x + 14) = some (.inl (ct 6, 8, .inr (.inr (.inr (.inr (fun _ => none)))))) := by rw [hfr (x + 14) (bm_nea (by decide)) (by omega)]; exact hw25
  replace hc28 : M34 (x + 15) = some (.inr (0, [.int 100, .ref (x + 16), .int 0])) := by rw [hfr (x + 15) (bm_nea (by decide)) (by omega)]; exact hc28
  replace hw30 : M34 (x + 16) = some (.inl (ct 6, 8, .inr (.inr (.inr (.inr (fun _ => none)))))) := by rw [hfr (x + 16) (bm_nea (by decide)) (by omega)]; exact hw30
  replace hc33 : M34 (x + 17) = some (.inr (0, [.int 100, .ref (x + 18), .int 0])) := hc339
  replace hw35 : M34 (x + 18) = some (.inl (ct 6, 8, .inr (.inr (.inr (.inr (fun _ => none)))))) := hw35
  replace hF : ∀ a, a < x → M34 a = M a := fun a ha => (hfr a (by omega) (by omega)).trans (hF a ha)
  clear hfr hc339
  refine bm_aast hx hb hK hM hS 3 0 (r := ("BlindMint$Account", bt_A, 3)) hc2 rfl hc33 rfl 2 (bm_ix_nI (k := 2) (by decide)) (by decide) dB_init_100 (fun H locs hz1 hM hS => ?_)
  replace hz := hz1.trans hz
  replace hM : bm_M D base (bm_up M34 (x + 1) (.inl (ct 3, 4, .inr (.inr (.inr (.inr (va_up (va_up (va_up (fun _ => none) 0 (some (x + 13))) 1 (some (x + 15))) 2 (some (x + 17))))))))) H := hM
  obtain ⟨M36, eM36⟩ : ∃ X, X = bm_up M34 (x + 1) (.inl (ct 3, 4, .inr (.inr (.inr (.inr (va_up (va_up (va_up (fun _ => none) 0 (some (x + 13))) 1 (some (x + 15))) 2 (some (x + 17)))))))) := ⟨_, rfl⟩
  rw [← eM36] at hM
  replace h0 : M36 x = some (.inr (6, [.ref (x + 1), .ref (x + 2), .ref (x + 11), .int 0, .ref (x + 12), .null, .int (-1), .long (-1), .int 0, .int 0, .int 0, .int 0])) := by rw [eM36, bm_up_ne (bm_ne0 (k := 0))]; exact h0
  replace f0 : M36 (x + 2) = some (.inr (5, [.ref (x + 3), .ref (x + 4), .int 0, .int 0])) := by rw [eM36, bm_up_ne (bm_nea (by decide))]; exact f0
  replace f1 : M36 (x + 3) = some (.inl (ct 5, 6, .inr (.inr (.inr (.inr cf))))) := by rw [eM36, bm_up_ne (bm_nea (by decide))]; exact f1
  replace f2 : M36 (x + 4) = some (.inl (ct 5, 4, .inr (.inr (.inr (.inr (fun _ => none)))))) := by rw [eM36, bm_up_ne (bm_nea (by decide))]; exact f2
  replace k0 : M36 (x + 5) = some (.inr (1, [.long 0, .long 0, .long 0, .long 0, .long 0, .long 0, .long 0])) := by rw [eM36, bm_up_ne (bm_nea (by decide))]; exact k0
  replace k1 : M36 (x + 6) = some (.inr (1, [.long 0, .long 0, .long 0, .long 0, .long 0, .long 0, .long 0])) := by rw [eM36, bm_up_ne (bm_nea (by decide))]; exact k1
  replace k2 : M36 (x + 7) = some (.inr (1, [.long 0, .long 0, .long 0, .long 0, .long 0, .long 0, .long 0])) := by rw [eM36, bm_up_ne (bm_nea (by decide))]; exact k2
  replace k3 : M36 (x + 8) = some (.inr (1, [.long 0, .long 0, .long 0, .long 0, .long 0, .long 0, .long 0])) := by rw [eM36, bm_up_ne (bm_nea (by decide))]; exact k3
  replace k4 : M36 (x + 9) = some (.inr (1, [.long 0, .long 0, .long 0, .long 0, .long 0, .long 0, .long 0])) := by rw [eM36, bm_up_ne (bm_nea (by decide))]; exact k4
  replace k5 : M36 (x + 10) = some (.inr (1, [.long 0, .long 0, .long 0, .long 0, .long 0, .long 0, .long 0])) := by rw [eM36, bm_up_ne (bm_nea (by decide))]; exact k5
  replace hc9 : M36 (x + 11) = some (.inl (ct 4, 20, .inr (.inr (.inr (.inr (fun _ => none)))))) := by rw [eM36, bm_up_ne (bm_nea (by decide))]; exact hc9
  replace hc13 : M36 (x + 12) = some (.inl (ct 1, 4, .inr (.inl (fun _ => 0)))) := by rw [eM36, bm_up_ne (bm_nea (by decide))]; exact hc13
  replace hc23 : M36 (x + 13) = some (.inr (0, [.int 100, .ref (x + 14), .int 0])) := by rw [eM36, bm_up_ne (bm_nea (by decide))]; exact hc23
  replace hw25 : M36 (x + 14) = some (.inl (ct 6, 8, .inr (.inr (.inr (.inr (fun _ => none)))))) := by rw [eM36, bm_up_ne (bm_nea (by decide))]; exact hw25
  replace hc28 : M36 (x + 15) = some (.inr (0, [.int 100, .ref (x + 16), .int 0])) := by rw [eM36, bm_up_ne (bm_nea (by decide))]; exact hc28
  replace hw30 : M36 (x + 16) = some (.inl (ct 6, 8, .inr (.inr (.inr (.inr (fun _ => none)))))) := by rw [eM36, bm_up_ne (bm_nea (by decide))]; exact hw30
  replace hc33 : M36 (x + 17) = some (.inr (0, [.int 100, .ref (x + 18), .int 0])) := by rw [eM36, bm_up_ne (bm_nea (by decide))]; exact hc33
  replace hw35 : M36 (x + 18) = some (.inl (ct 6, 8, .inr (.inr (.inr (.inr (fun _ => none)))))) := by rw [eM36, bm_up_ne (bm_nea (by decide))]; exact hw35
  replace hc2 : M36 (x + 1) = some (.inl (ct 3, 4, .inr (.inr (.inr (.inr (va_up (va_up (va_up (fun _ => none) 0 (some (x + 13))) 1 (some (x + 15))) 2 (some (x + 17)))))))) := by rw [eM36]; exact bm_up_self _ _ _
  replace hF : ∀ a, a < x → M36 a = M a := fun a ha => by rw [eM36]; exact (bm_up_ne (bm_lnea ha)).trans (hF a ha)
  clear eM36
  refine lv_iinc (v := 3) (k := 0) hx hb dB_init_101 hl rfl (by decide) (by decide) rfl (fun ls hl => ?_)
  have hl : lv_has ls 2 [(1, .int 3), (0, .ref x)] := hl
  refine lv_goto (tgt := 83) hx hb dB_init_104 rfl ?_
  refine lv_iload_n hx hb dB_init_83 rfl (lv_at hl 0 rfl) ?_
  refine lv_iconst (v := 4) hx hb dB_init_84 (by decide) ?_
  refine lv_icmp_ge (tgt := 107) hx hb dB_init_85 rfl (fun h => absurd h (by decide)) (fun _ => ?_)
  refine lv_aload_n hx hb dB_init_88 rfl (lv_at hl 1 rfl) ?_
  refine bm_get (ci := 6) (v := .ref (x + 1)) (C := "BlindMint") (T := bt_B) (N := 12) hx hb hts bu_B hown hK hM h0 rfl 0 (by decide) (hts _ bw_109) (fun _ h9 => h9) rfl dB_init_89 ?_
  refine lv_iload_n hx hb dB_init_92 rfl (lv_at hl 0 rfl) ?_
  refine bm_newz (ci := 0) (fs := [.int 0, .null, .int 0]) (C := "BlindMint$Account") (T := bt_A) (N := 3) hz hx hb hts bu_A by_A bo_A hown (hts _ bw_27) (hts _ bw_88) (hts _ bw_4) hK hM hS (Nat.le_trans hG.2.1 hS.1) rfl (fun j hj => by rcases (show j = 0 ∨ j = 1 ∨ j = 2 by omega) with rfl | rfl | rfl <;> rfl) (by rw [← hR]; exact Nat.le_of_ble_eq_true rfl) (by rw [← hR]; exact Nat.le_of_ble_eq_true rfl) dB_init_93 (fun H hz1 hM hS => ?_)
  replace hz : H.size = x + 20 := hz1
  obtain ⟨M37, eM37⟩ : ∃ X, X = bm_up M36 (x + 19) (.inr (0, [.int 0, .null, .int 0])) := ⟨_, rfl⟩
  replace hM : bm_M D base M37 H := by rw [eM37]; exact hM
  replace h0 : M37 x = some (.inr (6, [.ref (x + 1), .ref (x + 2), .ref (x + 11), .int 0, .ref (x + 12), .null, .int (-1), .long (-1), .int 0, .int 0, .int 0, .int 0])) := by rw [eM37, bm_up_ne (bm_ne0 (k := 18))]; exact h0
  replace hc2 : M37 (x + 1) = some (.inl (ct 3, 4, .inr (.inr (.inr (.inr (va_up (va_up (va_up (fun _ => none) 0 (some (x + 13))) 1 (some (x + 15))) 2 (some (x + 17)))))))) := by rw [eM37, bm_up_ne (bm_nea (by decide))]; exact hc2
  replace f0 : M37 (x + 2) = some (.inr (5, [.ref (x + 3), .ref (x + 4), .int 0, .int 0])) := by rw [eM37, bm_up_ne (bm_nea (by decide))]; exact f0
  replace f1 : M37 (x + 3) = some (.inl (ct 5, 6, .inr (.inr (.inr (.inr cf))))) := by rw [eM37, bm_up_ne (bm_nea (by decide))]; exact f1
  replace f2 : M37 (x + 4) = some (.inl (ct 5, 4, .inr (.inr (.inr (.inr (fun _ => none)))))) := by rw [eM37, bm_up_ne (bm_nea (by decide))]; exact f2
  replace k0 : M37 (x + 5) = some (.inr (1, [.long 0, .long 0, .long 0, .long 0, .long 0, .long 0, .long 0])) := by rw [eM37, bm_up_ne (bm_nea (by decide))]; exact k0
  replace k1 : M37 (x + 6) = some (.inr (1, [.long 0, .long 0, .long 0, .long 0, .long 0, .long 0, .long 0])) := by rw [eM37, bm_up_ne (bm_nea (by decide))]; exact k1
  replace k2 : M37 (x + 7) = some (.inr (1, [.long 0, .long 0, .long 0, .long 0, .long 0, .long 0, .long 0])) := by rw [eM37, bm_up_ne (bm_nea (by decide))]; exact k2
  replace k3 : M37 (x + 8) = some (.inr (1, [.long 0, .long 0, .long 0, .long 0, .long 0, .long 0, .long 0])) := by rw [eM37, bm_up_ne (bm_nea (by decide))]; exact k3
  replace k4 : M37 (x + 9) = some (.inr (1, [.long 0, .long 0, .long 0, .long 0, .long 0, .long 0, .long 0])) := by rw [eM37, bm_up_ne (bm_nea (by decide))]; exact k4
  replace k5 : M37 (x + 10) = some (.inr (1, [.long 0, .long 0, .long 0, .long 0, .long 0, .long 0, .long 0])) := by rw [eM37, bm_up_ne (bm_nea (by decide))]; exact k5
  replace hc9 : M37 (x + 11) = some (.inl (ct 4, 20, .inr (.inr (.inr (.inr (fun _ => none)))))) := by rw [eM37, bm_up_ne (bm_nea (by decide))]; exact hc9
  replace hc13 : M37 (x + 12) = some (.inl (ct 1, 4, .inr (.inl (fun _ => 0)))) := by rw [eM37, bm_up_ne (bm_nea (by decide))]; exact hc13
  replace hc23 : M37 (x + 13) = some (.inr (0, [.int 100, .ref (x + 14), .int 0])) := by rw [eM37, bm_up_ne (bm_nea (by decide))]; exact hc23
  replace hw25 : M37 (x + 14) = some (.inl (ct 6, 8, .inr (.inr (.inr (.inr (fun _ => none)))))) := by rw [eM37, bm_up_ne (bm_nea (by decide))]; exact hw25
  replace hc28 : M37 (x + 15) = some (.inr (0, [.int 100, .ref (x + 16), .int 0])) := by rw [eM37, bm_up_ne (bm_nea (by decide))]; exact hc28
  replace hw30 : M37 (x + 16) = some (.inl (ct 6, 8, .inr (.inr (.inr (.inr (fun _ => none)))))) := by rw [eM37, bm_up_ne (bm_nea (by decide))]; exact hw30
  replace hc33 : M37 (x + 17) = some (.inr (0, [.int 100, .ref (x + 18), .int 0])) := by rw [eM37, bm_up_ne (bm_nea (by decide))]; exact hc33
  replace hw35 : M37 (x + 18) = some (.inl (ct 6, 8, .inr (.inr (.inr (.inr (fun _ => none)))))) := by rw [eM37, bm_up_ne (bm_nea (by decide))]; exact hw35
  have hc38 : M37 (x + 19) = some (.inr (0, [.int 0, .null, .int 0])) := by rw [eM37]; exact bm_up_self _ _ _
  replace hF : ∀ a, a < x → M37 a = M a := fun a ha => by rw [eM37]; exact (bm_up_ne (bm_lnea ha)).trans (hF a ha)
  clear eM37 hz1
  refine lv_dup hx hb dB_init_96 rfl ?_
  refine bm_call (va_runIN (b := x + 19) (As := []) (rest := [.ref (x + 19), .int 3, .ref (x + 1)]) ⟨hx, hb, hml, hown, hts⟩ (bc_A_init l D ct base ad M37 (x + 20) (x + 19) hc38) ⟨va_cnB 0 hts (bm_goodW bw_91) rfl rfl rfl (hG.2.2.1.w89) (hts _ bw_4) (by decide +kernel) (by rw [← hR]; exact ⟨Nat.le_of_ble_eq_true rfl, Nat.le_of_ble_eq_true rfl⟩), rfl, hts _ bw_90⟩ (bm_preS hM hG hS hz) rfl rfl hl.1 rfl (lv_room (Nat.le_of_ble_eq_true rfl)) dB_init_97 (by rw [← hR]; exact ⟨Nat.le_of_ble_eq_true rfl, Nat.le_of_ble_eq_true rfl⟩)) hS (fun v9 M39 H locs hq hM hS _ => ?_)
  obtain ⟨rfl, hz, hc389, hw40, hfr⟩ := hq
  replace hz : H.size = x + 21 := hz
  replace h0 : M39 x = some (.inr (6, [.ref (x + 1), .ref (x + 2), .ref (x + 11), .int 0, .ref (x + 12), .null, .int (-1), .long (-1), .int 0, .int 0, .int 0, .int 0])) := by rw [hfr x (bm_ne0 (k := 18)) (by omega)]; exact h0
  replace hc2 : M39 (x + 1) = some (.inl (ct 3, 4, .inr (.inr (.inr (.inr (va_up (va_up (va_up (fun _ => none) 0 (some (x + 13))) 1 (some (x + 15))) 2 (some (x + 17)))))))) := by rw [hfr (x + 1) (bm_nea (by decide)) (by omega)]; exact hc2
  replace f0 : M39 (x + 2) = some (.inr (5, [.ref (x + 3), .ref (x + 4), .int 0, .int 0])) := by rw [hfr (x + 2) (bm_nea (by decide)) (by omega)]; exact f0
  replace f1 : M39 (x + 3) = some (.inl (ct 5, 6, .inr (.inr (.inr (.inr cf))))) := by rw [hfr (x + 3) (bm_nea (by decide)) (by omega)]; exact f1
  replace f2 : M39 (x + 4) = some (.inl (ct 5, 4, .inr (.inr (.inr (.inr (fun _ => none)))))) := by rw [hfr (x + 4) (bm_nea (by decide)) (by omega)]; exact f2
  replace k0 : M39 (x + 5) = some (.inr (1, [.long 0, .long 0, .long 0, .long 0, .long 0, .long 0, .long 0])) := by rw [hfr (x + 5) (bm_nea (by decide)) (by omega)]; exact k0
  replace k1 : M39 (x + 6) = some (.inr (1, [.long 0, .long 0, .long 0, .long 0, .long 0, .long 0, .long 0])) := by rw [hfr (x + 6) (bm_nea (by decide)) (by omega)]; exact k1
  replace k2 : M39 (x + 7) = some (.inr (1, [.long 0, .long 0, .long 0, .long 0, .long 0, .long 0, .long 0])) := by rw [hfr (x + 7) (bm_nea (by decide)) (by omega)]; exact k2
  replace k3 : M39 (x + 8) = some (.inr (1, [.long 0, .long 0, .long 0, .long 0, .long 0, .long 0, .long 0])) := by rw [hfr (x + 8) (bm_nea (by decide)) (by omega)]; exact k3
  replace k4 : M39 (x + 9) = some (.inr (1, [.long 0, .long 0, .long 0, .long 0, .long 0, .long 0, .long 0])) := by rw [hfr (x + 9) (bm_nea (by decide)) (by omega)]; exact k4
  replace k5 : M39 (x + 10) = some (.inr (1, [.long 0, .long 0, .long 0, .long 0, .long 0, .long 0, .long 0])) := by rw [hfr (x + 10) (bm_nea (by decide)) (by omega)]; exact k5
  replace hc9 : M39 (x + 11) = some (.inl (ct 4, 20, .inr (.inr (.inr (.inr (fun _ => none)))))) := by rw [hfr (x + 11) (bm_nea (by decide)) (by omega)]; exact hc9
  replace hc13 : M39 (x + 12) = some (.inl (ct 1, 4, .inr (.inl (fun _ => 0)))) := by rw [hfr (x + 12) (bm_nea (by decide)) (by omega)]; exact hc13
  replace hc23 : M39 (x + 13) = some (.inr (0, [.int 100, .ref (x + 14), .int 0])) := by rw [hfr (x + 13) (bm_nea (by decide)) (by omega)]; exact hc23
  replace hw25 : M39 (x + 14) = some (.inl (ct 6, 8, .inr (.inr (.inr (.inr (fun _ => none)))))) := by rw [hfr (x + 14) (bm_nea (by decide)) (by omega)]; exact hw25
  replace hc28 : M39 (x + 15) = some (.inr (0, [.int 100, .ref (x + 16), .int 0])) := by rw [hfr (x + 15) (bm_nea (by decide)) (by omega)]; exact hc28
  replace hw30 : M39 (x + 16) = some (.inl (ct 6, 8, .inr (.inr (.inr (.inr (fun _ => none)))))) := by rw [hfr (x + 16) (bm_nea (by decide)) (by omega)]; exact hw30
  replace hc33 : M39 (x + 17) = some (.inr (0, [.int 100, .ref (x + 18), .int 0])) := by rw [hfr (x + 17) (bm_nea (by decide)) (by omega)]; exact hc33
  replace hw35 : M39 (x + 18) = some (.inl (ct 6, 8, .inr (.inr (.inr (.inr (fun _ => none)))))) := by rw [hfr (x + 18) (bm_nea (by decide)) (by omega)]; exact hw35
  replace hc38 : M39 (x + 19) = some (.inr (0, [.int 100, .ref (x + 20), .int 0])) := hc389
  replace hw40 : M39 (x + 20) = some (.inl (ct 6, 8, .inr (.inr (.inr (.inr (fun _ => none)))))) := hw40
  replace hF : ∀ a, a < x → M39 a = M a := fun a ha => (hfr a (by omega) (by omega)).trans (hF a ha)
  clear hfr hc389
  refine bm_aast hx hb hK hM hS 3 0 (r := ("BlindMint$Account", bt_A, 3)) hc2 rfl hc38 rfl 3 (bm_ix_nI (k := 3) (by decide)) (by decide) dB_init_100 (fun H locs hz1 hM hS => ?_)
  replace hz := hz1.trans hz
  replace hM : bm_M D base (bm_up M39 (x + 1) (.inl (ct 3, 4, .inr (.inr (.inr (.inr (va_up (va_up (va_up (va_up (fun _ => none) 0 (some (x + 13))) 1 (some (x + 15))) 2 (some (x + 17))) 3 (some (x + 19))))))))) H := hM
  obtain ⟨M41, eM41⟩ : ∃ X, X = bm_up M39 (x + 1) (.inl (ct 3, 4, .inr (.inr (.inr (.inr (va_up (va_up (va_up (va_up (fun _ => none) 0 (some (x + 13))) 1 (some (x + 15))) 2 (some (x + 17))) 3 (some (x + 19)))))))) := ⟨_, rfl⟩
  rw [← eM41] at hM
  replace h0 : M41 x = some (.inr (6, [.ref (x + 1), .ref (x + 2), .ref (x + 11), .int 0, .ref (x + 12), .null, .int (-1), .long (-1), .int 0, .int 0, .int 0, .int 0])) := by rw [eM41, bm_up_ne (bm_ne0 (k := 0))]; exact h0
  replace f0 : M41 (x + 2) = some (.inr (5, [.ref (x + 3), .ref (x + 4), .int 0, .int 0])) := by rw [eM41, bm_up_ne (bm_nea (by decide))]; exact f0
  replace f1 : M41 (x + 3) = some (.inl (ct 5, 6, .inr (.inr (.inr (.inr cf))))) := by rw [eM41, bm_up_ne (bm_nea (by decide))]; exact f1
  replace f2 : M41 (x + 4) = some (.inl (ct 5, 4, .inr (.inr (.inr (.inr (fun _ => none)))))) := by rw [eM41, bm_up_ne (bm_nea (by decide))]; exact f2
  replace k0 : M41 (x + 5) = some (.inr (1, [.long 0, .long 0, .long 0, .long 0, .long 0, .long 0, .long 0])) := by rw [eM41, bm_up_ne (bm_nea (by decide))]; exact k0
  replace k1 : M41 (x + 6) = some (.inr (1, [.long 0, .long 0, .long 0, .long 0, .long 0, .long 0, .long 0])) := by rw [eM41, bm_up_ne (bm_nea (by decide))]; exact k1
  replace k2 : M41 (x + 7) = some (.inr (1, [.long 0, .long 0, .long 0, .long 0, .long 0, .long 0, .long 0])) := by rw [eM41, bm_up_ne (bm_nea (by decide))]; exact k2
  replace k3 : M41 (x + 8) = some (.inr (1, [.long 0, .long 0, .long 0, .long 0, .long 0, .long 0, .long 0])) := by rw [eM41, bm_up_ne (bm_nea (by decide))]; exact k3
  replace k4 : M41 (x + 9) = some (.inr (1, [.long 0, .long 0, .long 0, .long 0, .long 0, .long 0, .long 0])) := by rw [eM41, bm_up_ne (bm_nea (by decide))]; exact k4
  replace k5 : M41 (x + 10) = some (.inr (1, [.long 0, .long 0, .long 0, .long 0, .long 0, .long 0, .long 0])) := by rw [eM41, bm_up_ne (bm_nea (by decide))]; exact k5
  replace hc9 : M41 (x + 11) = some (.inl (ct 4, 20, .inr (.inr (.inr (.inr (fun _ => none)))))) := by rw [eM41, bm_up_ne (bm_nea (by decide))]; exact hc9
  replace hc13 : M41 (x + 12) = some (.inl (ct 1, 4, .inr (.inl (fun _ => 0)))) := by rw [eM41, bm_up_ne (bm_nea (by decide))]; exact hc13
  replace hc23 : M41 (x + 13) = some (.inr (0, [.int 100, .ref (x + 14), .int 0])) := by rw [eM41, bm_up_ne (bm_nea (by decide))]; exact hc23
  replace hw25 : M41 (x + 14) = some (.inl (ct 6, 8, .inr (.inr (.inr (.inr (fun _ => none)))))) := by rw [eM41, bm_up_ne (bm_nea (by decide))]; exact hw25
  replace hc28 : M41 (x + 15) = some (.inr (0, [.int 100, .ref (x + 16), .int 0])) := by rw [eM41, bm_up_ne (bm_nea (by decide))]; exact hc28
  replace hw30 : M41 (x + 16) = some (.inl (ct 6, 8, .inr (.inr (.inr (.inr (fun _ => none)))))) := by rw [eM41, bm_up_ne (bm_nea (by decide))]; exact hw30
  replace hc33 : M41 (x + 17) = some (.inr (0, [.int 100, .ref (x + 18), .int 0])) := by rw [eM41, bm_up_ne (bm_nea (by decide))]; exact hc33
  replace hw35 : M41 (x + 18) = some (.inl (ct 6, 8, .inr (.inr (.inr (.inr (fun _ => none)))))) := by rw [eM41, bm_up_ne (bm_nea (by decide))]; exact hw35
  replace hc38 : M41 (x + 19) = some (.inr (0, [.int 100, .ref (x + 20), .int 0])) := by rw [eM41, bm_up_ne (bm_nea (by decide))]; exact hc38
  replace hw40 : M41 (x + 20) = some (.inl (ct 6, 8, .inr (.inr (.inr (.inr (fun _ => none)))))) := by rw [eM41, bm_up_ne (bm_nea (by decide))]; exact hw40
  replace hc2 : M41 (x + 1) = some (.inl (ct 3, 4, .inr (.inr (.inr (.inr (va_up (va_up (va_up (va_up (fun _ => none) 0 (some (x + 13))) 1 (some (x + 15))) 2 (some (x + 17))) 3 (some (x + 19)))))))) := by rw [eM41]; exact bm_up_self _ _ _
  replace hF : ∀ a, a < x → M41 a = M a := fun a ha => by rw [eM41]; exact (bm_up_ne (bm_lnea ha)).trans (hF a ha)
  clear eM41
  refine lv_iinc (v := 4) (k := 0) hx hb dB_init_101 hl rfl (by decide) (by decide) rfl (fun ls hl => ?_)
  have hl : lv_has ls 2 [(1, .int 4), (0, .ref x)] := hl
  refine lv_goto (tgt := 83) hx hb dB_init_104 rfl ?_
  refine lv_iload_n hx hb dB_init_83 rfl (lv_at hl 0 rfl) ?_
  refine lv_iconst (v := 4) hx hb dB_init_84 (by decide) ?_
  refine lv_icmp_ge (tgt := 107) hx hb dB_init_85 rfl (fun _ => ?_) (fun h => absurd h (by decide))
  have hcf9 : ∀ j, j < 6 → cf j = some (x + (5 + j)) := fun j hj => (hcf j hj).trans (congrArg some (by omega))
  exact bm_vret hQ hx hb hr hlk hM hS ⟨rfl, hz, cf, _, h0, hc2, bm_ac4, f0, f1, hcf9, f2, bm_al6 (p := fun j => M41 (x + (5 + j)) = some (.inr (1, [.long 0, .long 0, .long 0, .long 0, .long 0, .long 0, .long 0]))) k0 k1 k2 k3 k4 k5, hc9, hc13, bm_al4 (p := fun a => M41 (x + (13 + 2 * a)) = some (.inr (0, [.int 100, .ref (x + (14 + 2 * a)), .int 0]))) hc23 hc28 hc33 hc38, bm_al4 (p := fun a => M41 (x + (14 + 2 * a)) = some (.inl (ct 6, 8, .inr (.inr (.inr (.inr (fun _ => none))))))) hw25 hw30 hw35 hw40, hF⟩ (Nat.le_of_ble_eq_true rfl) (Nat.le_of_ble_eq_true rfl) dB_init_107
