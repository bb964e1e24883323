set_option maxHeartbeats 4000000 in
set_option maxRecDepth 100000 in
theorem bc_M_init (l : Launch) (D : va_G) (ct : Nat → ClassId) (base : Nat) (ad : Nat → Nat) (M : bm_Map) (sz : Nat) (m : Nat) (hm : M m = some (.inr (7, [.int 0, .null, .null, .int 0, .long 0, .null, .null, .null, .null, .null, .null, .int 0, .null, .int 0, .null, .null, .null, .null, .null, .null, .null, .null]))) : Met l yM_init (bm_ws yM_init cM_init 2 none) { frames := 1, cells := 17, slots := 6212, locals := 30 } (bm_Pre D ct base ad M (m + 1) [.ref m]) (bm_Post D base (fun v M1 n => v = none ∧ n = m + 18 ∧ bm_MD ct m 0 (-1) (-1) 0 0 (upd (upd (upd (upd (fun _ => 0) 0 100) 1 100) 2 100) 3 100) (fun _ => 0) (fun _ => 0) (fun _ => 0) (fun _ => 0) (fun _ => 0) (fun _ => 0) (fun _ => 0) (fun _ => 0) (fun _ => 0) (fun _ => 0) (fun _ => 0) (fun _ => 0) (fun _ => 0) (fun _ => 0) (fun _ => 0) (fun _ => 0) M1 ∧ ∀ a, a < m → M1 a = M a)) 17 6212 (bm_A base) := by
  refine bm_ofB (cc := cM_init) (maxL := 2) (ret := none) (by decide +kernel) (Nat.le_of_ble_eq_true rfl) ?_
  intro vp ve s vm args below meth vc hx hb hr hlk hts hown hml hnm ls hl hz hM hG R Q hR hQ
  have hown : s.vm.findClass "BlindMintModel" = some vm.cls := hown
  have hK := hG.K
  have hS : va_S (bm_A base) s.heap s.heap [] := va_S.rf
  have hl : lv_has ls 2 [(0, .ref m)] := hl
  have hF : ∀ a, a < m → M a = M a := fun _ _ => rfl
  refine lv_aload_n hx hb dM_init_0 rfl (lv_at hl 0 rfl) ?_
  refine W.objInit hx hb hown (hts _ bw_600) (hts _ bw_25) (hts _ bw_26) rfl (by rw [hml]; exact hl.1) rfl dM_init_1 (by rw [← hR]; exact Nat.le_of_ble_eq_true rfl) (by rw [← hR]; exact Nat.le_of_ble_eq_true rfl) ?_
  refine W.eq (g2 := F0 vm 4 ls []) rfl ?_
  refine lv_aload_n hx hb dM_init_4 rfl (lv_at hl 0 rfl) ?_
  refine lv_iconst (v := 4) hx hb dM_init_5 (by decide) ?_
  refine bm_newaz (atype := .int) (a0 := (4, .inl (fun _ => 0))) hz hx hb (hts _ bw_669) (ty := .int) rfl hK hM hS (Nat.le_trans hG.2.1 hS.1) 0 rfl (fun C h => by cases h) (bm_aI 4) (by decide) (by decide) (Nat.le_of_ble_eq_true rfl) (by rw [← hR]; exact Nat.le_of_ble_eq_true rfl) (by rw [← hR]; exact Nat.le_of_ble_eq_true rfl) dM_init_6 (fun H hz1 hM hS => ?_)
  replace hz : H.size = m + 2 := hz1
  obtain ⟨M1, eM1⟩ : ∃ X, X = bm_up M (m + 1) (.inl (ct 0, 4, .inl (fun _ => 0))) := ⟨_, rfl⟩
  replace hM : bm_M D base M1 H := by rw [eM1]; exact hM
  replace hm : M1 m = some (.inr (7, [.int 0, .null, .null, .int 0, .long 0, .null, .null, .null, .null, .null, .null, .int 0, .null, .int 0, .null, .null, .null, .null, .null, .null, .null, .null])) := by rw [eM1, bm_up_ne (bm_ne0 (k := 0))]; exact hm
  have hc2 : M1 (m + 1) = some (.inl (ct 0, 4, .inl (fun _ => 0))) := by rw [eM1]; exact bm_up_self _ _ _
  replace hF : ∀ a, a < m → M1 a = M a := fun a ha => by rw [eM1]; exact (bm_up_ne (bm_lnea ha)).trans (hF a ha)
  clear eM1 hz1
  refine bm_putF (ci := 7) (v := .ref (m + 1)) (ty := (.array .int)) (C := "BlindMintModel") (T := bt_M) (N := 22) hx hb hts bu_M by_M bo_M bn_M hown hK hM hS hm rfl 1 (by decide) (hts _ bw_603) (fun _ h9 => h9) rfl hnm rfl (by decide +kernel) rfl rfl (Nat.le_of_ble_eq_true rfl) dM_init_8 (fun H locs hz1 hM hS => ?_)
  replace hz := hz1.trans hz
  replace hM : bm_M D base (bm_up M1 m (.inr (7, [.int 0, .ref (m + 1), .null, .int 0, .long 0, .null, .null, .null, .null, .null, .null, .int 0, .null, .int 0, .null, .null, .null, .null, .null, .null, .null, .null]))) H := hM
  obtain ⟨M3, eM3⟩ : ∃ X, X = bm_up M1 m (.inr (7, [.int 0, .ref (m + 1), .null, .int 0, .long 0, .null, .null, .null, .null, .null, .null, .int 0, .null, .int 0, .null, .null, .null, .null, .null, .null, .null, .null])) := ⟨_, rfl⟩
  rw [← eM3] at hM
  replace hc2 : M3 (m + 1) = some (.inl (ct 0, 4, .inl (fun _ => 0))) := by rw [eM3, bm_up_ne (bm_ne1 (k := 0))]; exact hc2
  replace hm : M3 m = some (.inr (7, [.int 0, .ref (m + 1), .null, .int 0, .long 0, .null, .null, .null, .null, .null, .null, .int 0, .null, .int 0, .null, .null, .null, .null, .null, .null, .null, .null])) := by rw [eM3]; exact bm_up_self _ _ _
  replace hF : ∀ a, a < m → M3 a = M a := fun a ha => by rw [eM3]; exact (bm_up_ne (bm_lne0 ha)).trans (hF a ha)
  clear eM3
  refine lv_aload_n hx hb dM_init_11 rfl (lv_at hl 0 rfl) ?_
  refine lv_iconst (v := 4) hx hb dM_init_12 (by decide) ?_
  refine bm_newaz (atype := .int) (a0 := (4, .inl (fun _ => 0))) hz hx hb (hts _ bw_669) (ty := .int) rfl hK hM hS (Nat.le_trans hG.2.1 hS.1) 0 rfl (fun C h => by cases h) (bm_aI 4) (by decide) (by decide) (Nat.le_of_ble_eq_true rfl) (by rw [← hR]; exact Nat.le_of_ble_eq_true rfl) (by rw [← hR]; exact Nat.le_of_ble_eq_true rfl) dM_init_13 (fun H hz1 hM hS => ?_)
  replace hz : H.size = m + 3 := hz1
  obtain ⟨M4, eM4⟩ : ∃ X, X = bm_up M3 (m + 2) (.inl (ct 0, 4, .inl (fun _ => 0))) := ⟨_, rfl⟩
  replace hM : bm_M D base M4 H := by rw [eM4]; exact hM
  replace hm : M4 m = some (.inr (7, [.int 0, .ref (m + 1), .null, .int 0, .long 0, .null, .null, .null, .null, .null, .null, .int 0, .null, .int 0, .null, .null, .null, .null, .null, .null, .null, .null])) := by rw [eM4, bm_up_ne (bm_ne0 (k := 1))]; exact hm
  replace hc2 : M4 (m + 1) = some (.inl (ct 0, 4, .inl (fun _ => 0))) := by rw [eM4, bm_up_ne (bm_nea (by decide))]; exact hc2
  have hc5 : M4 (m + 2) = some (.inl (ct 0, 4, .inl (fun _ => 0))) := by rw [eM4]; exact bm_up_self _ _ _
  replace hF : ∀ a, a < m → M4 a = M a := fun a ha => by rw [eM4]; exact (bm_up_ne (bm_lnea ha)).trans (hF a ha)
  clear eM4 hz1
  refine bm_putF (ci := 7) (v := .ref (m + 2)) (ty := (.array .int)) (C := "BlindMintModel") (T := bt_M) (N := 22) hx hb hts bu_M by_M bo_M bn_M hown hK hM hS hm rfl 2 (by decide) (hts _ bw_604) (fun _ h9 => h9) rfl hnm rfl (by decide +kernel) rfl rfl (Nat.le_of_ble_eq_true rfl) dM_init_15 (fun H locs hz1 hM hS => ?_)
  replace hz := hz1.trans hz
  replace hM : bm_M D base (bm_up M4 m (.inr (7, [.int 0, .ref (m + 1), .ref (m + 2), .int 0, .long 0, .null, .null, .null, .null, .null, .null, .int 0, .null, .int 0, .null, .null, .null, .null, .null, .null, .null, .null]))) H := hM
  obtain ⟨M6, eM6⟩ : ∃ X, X = bm_up M4 m (.inr (7, [.int 0, .ref (m + 1), .ref (m + 2), .int 0, .long 0, .null, .null, .null, .null, .null, .null, .int 0, .null, .int 0, .null, .null, .null, .null, .null, .null, .null, .null])) := ⟨_, rfl⟩
  rw [← eM6] at hM
  replace hc2 : M6 (m + 1) = some (.inl (ct 0, 4, .inl (fun _ => 0))) := by rw [eM6, bm_up_ne (bm_ne1 (k := 0))]; exact hc2
  replace hc5 : M6 (m + 2) = some (.inl (ct 0, 4, .inl (fun _ => 0))) := by rw [eM6, bm_up_ne (bm_ne1 (k := 1))]; exact hc5
  replace hm : M6 m = some (.inr (7, [.int 0, .ref (m + 1), .ref (m + 2), .int 0, .long 0, .null, .null, .null, .null, .null, .null, .int 0, .null, .int 0, .null, .null, .null, .null, .null, .null, .null, .null])) := by rw [eM6]; exact bm_up_self _ _ _
  replace hF : ∀ a, a < m → M6 a = M a := fun a ha => by rw [eM6]; exact (bm_up_ne (bm_lne0 ha)).trans (hF a ha)
  clear eM6
  refine lv_aload_n hx hb dM_init_18 rfl (lv_at hl 0 rfl) ?_
  refine lv_iconst (v := (-1)) hx hb dM_init_19 (by decide) ?_
  refine bm_put (ci := 7) (v := .int (-1)) (ty := .int) (C := "BlindMintModel") (T := bt_M) (N := 22) hx hb hts bu_M by_M bo_M bn_M hown hK hM hS hm rfl 3 (by decide) (hts _ bw_605) (fun _ h9 => h9) rfl (by decide +kernel) rfl rfl (Nat.le_of_ble_eq_true rfl) dM_init_20 (fun H locs hz1 hM hS => ?_)
  replace hz := hz1.trans hz
  replace hM : bm_M D base (bm_up M6 m (.inr (7, [.int 0, .ref (m + 1), .ref (m + 2), .int (-1), .long 0, .null, .null, .null, .null, .null, .null, .int 0, .null, .int 0, .null, .null, .null, .null, .null, .null, .null, .null]))) H := hM
  obtain ⟨M7, eM7⟩ : ∃ X, X = bm_up M6 m (.inr (7, [.int 0, .ref (m + 1), .ref (m + 2), .int (-1), .long 0, .null, .null, .null, .null, .null, .null, .int 0, .null, .int 0, .null, .null, .null, .null, .null, .null, .null, .null])) := ⟨_, rfl⟩
  rw [← eM7] at hM
  replace hc2 : M7 (m + 1) = some (.inl (ct 0, 4, .inl (fun _ => 0))) := by rw [eM7, bm_up_ne (bm_ne1 (k := 0))]; exact hc2
  replace hc5 : M7 (m + 2) = some (.inl (ct 0, 4, .inl (fun _ => 0))) := by rw [eM7, bm_up_ne (bm_ne1 (k := 1))]; exact hc5
  replace hm : M7 m = some (.inr (7, [.int 0, .ref (m + 1), .ref (m + 2), .int (-1), .long 0, .null, .null, .null, .null, .null, .null, .int 0, .null, .int 0, .null, .null, .null, .null, .null, .null, .null, .null])) := by rw [eM7]; exact bm_up_self _ _ _
  replace hF : ∀ a, a < m → M7 a = M a := fun a ha => by rw [eM7]; exact (bm_up_ne (bm_lne0 ha)).trans (hF a ha)
  clear eM7
  refine lv_aload_n hx hb dM_init_23 rfl (lv_at hl 0 rfl) ?_
  refine lv_ldc2 hx hb hown (hts _ bw_601) dM_init_24 ?_
  refine bm_put (ci := 7) (v := .long (-1)) (ty := .long) (C := "BlindMintModel") (T := bt_M) (N := 22) hx hb hts bu_M by_M bo_M bn_M hown hK hM hS hm rfl 4 (by decide) (hts _ bw_606) (fun _ h9 => h9) rfl (by decide +kernel) rfl rfl (Nat.le_of_ble_eq_true rfl) dM_init_27 (fun H locs hz1 hM hS => ?_)
  replace hz := hz1.trans hz
  replace hM : bm_M D base (bm_up M7 m (.inr (7, [.int 0, .ref (m + 1), .ref (m + 2), .int (-1), .long (-1), .null, .null, .null, .null, .null, .null, .int 0, .null, .int 0, .null, .null, .null, .null, .null, .null, .null, .null]))) H := hM
  obtain ⟨M8, eM8⟩ : ∃ X, X = bm_up M7 m (.inr (7, [.int 0, .ref (m + 1), .ref (m + 2), .int (-1), .long (-1), .null, .null, .null, .null, .null, .null, .int 0, .null, .int 0, .null, .null, .null, .null, .null, .null, .null, .null])) := ⟨_, rfl⟩
  rw [← eM8] at hM
  replace hc2 : M8 (m + 1) = some (.inl (ct 0, 4, .inl (fun _ => 0))) := by rw [eM8, bm_up_ne (bm_ne1 (k := 0))]; exact hc2
  replace hc5 : M8 (m + 2) = some (.inl (ct 0, 4, .inl (fun _ => 0))) := by rw [eM8, bm_up_ne (bm_ne1 (k := 1))]; exact hc5
  replace hm : M8 m = some (.inr (7, [.int 0, .ref (m + 1), .ref (m + 2), .int (-1), .long (-1), .null, .null, .null, .null, .null, .null, .int 0, .null, .int 0, .null, .null, .null, .null, .null, .null, .null, .null])) := by rw [eM8]; exact bm_up_self _ _ _
  replace hF : ∀ a, a < m → M8 a = M a := fun a ha => by rw [eM8]; exact (bm_up_ne (bm_lne0 ha)).trans (hF a ha)
  clear eM8
  refine lv_aload_n hx hb dM_init_30 rfl (lv_at hl 0 rfl) ?_
  refine lv_iconst (v := 4) hx hb dM_init_31 (by decide) ?_
  refine bm_newaz (atype := .int) (a0 := (4, .inl (fun _ => 0))) hz hx hb (hts _ bw_669) (ty := .int) rfl hK hM hS (Nat.le_trans hG.2.1 hS.1) 0 rfl (fun C h => by cases h) (bm_aI 4) (by decide) (by decide) (Nat.le_of_ble_eq_true rfl) (by rw [← hR]; exact Nat.le_of_ble_eq_true rfl) (by rw [← hR]; exact Nat.le_of_ble_eq_true rfl) dM_init_32 (fun H hz1 hM hS => ?_)
  replace hz : H.size = m + 4 := hz1
  obtain ⟨M9, eM9⟩ : ∃ X, X = bm_up M8 (m + 3) (.inl (ct 0, 4, .inl (fun _ => 0))) := ⟨_, rfl⟩
  replace hM : bm_M D base M9 H := by rw [eM9]; exact hM
  replace hm : M9 m = some (.inr (7, [.int 0, .ref (m + 1), .ref (m + 2), .int (-1), .long (-1), .null, .null, .null, .null, .null, .null, .int 0, .null, .int 0, .null, .null, .null, .null, .null, .null, .null, .null])) := by rw [eM9, bm_up_ne (bm_ne0 (k := 2))]; exact hm
  replace hc2 : M9 (m + 1) = some (.inl (ct 0, 4, .inl (fun _ => 0))) := by rw [eM9, bm_up_ne (bm_nea (by decide))]; exact hc2
  replace hc5 : M9 (m + 2) = some (.inl (ct 0, 4, .inl (fun _ => 0))) := by rw [eM9, bm_up_ne (bm_nea (by decide))]; exact hc5
  have hc10 : M9 (m + 3) = some (.inl (ct 0, 4, .inl (fun _ => 0))) := by rw [eM9]; exact bm_up_self _ _ _
  replace hF : ∀ a, a < m → M9 a = M a := fun a ha => by rw [eM9]; exact (bm_up_ne (bm_lnea ha)).trans (hF a ha)
  clear eM9 hz1
  refine bm_putF (ci := 7) (v := .ref (m + 3)) (ty := (.array .int)) (C := "BlindMintModel") (T := bt_M) (N := 22) hx hb hts bu_M by_M bo_M bn_M hown hK hM hS hm rfl 5 (by decide) (hts _ bw_607) (fun _ h9 => h9) rfl hnm rfl (by decide +kernel) rfl rfl (Nat.le_of_ble_eq_true rfl) dM_init_34 (fun H locs hz1 hM hS => ?_)
  replace hz := hz1.trans hz
  replace hM : bm_M D base (bm_up M9 m (.inr (7, [.int 0, .ref (m + 1), .ref (m + 2), .int (-1), .long (-1), .ref (m + 3), .null, .null, .null, .null, .null, .int 0, .null, .int 0, .null, .null, .null, .null, .null, .null, .null, .null]))) H := hM
  obtain ⟨M11, eM11⟩ : ∃ X, X = bm_up M9 m (.inr (7, [.int 0, .ref (m + 1), .ref (m + 2), .int (-1), .long (-1), .ref (m + 3), .null, .null, .null, .null, .null, .int 0, .null, .int 0, .null, .null, .null, .null, .null, .null, .null, .null])) := ⟨_, rfl⟩
  rw [← eM11] at hM
  replace hc2 : M11 (m + 1) = some (.inl (ct 0, 4, .inl (fun _ => 0))) := by rw [eM11, bm_up_ne (bm_ne1 (k := 0))]; exact hc2
  replace hc5 : M11 (m + 2) = some (.inl (ct 0, 4, .inl (fun _ => 0))) := by rw [eM11, bm_up_ne (bm_ne1 (k := 1))]; exact hc5
  replace hc10 : M11 (m + 3) = some (.inl (ct 0, 4, .inl (fun _ => 0))) := by rw [eM11, bm_up_ne (bm_ne1 (k := 2))]; exact hc10
  replace hm : M11 m = some (.inr (7, [.int 0, .ref (m + 1), .ref (m + 2), .int (-1), .long (-1), .ref (m + 3), .null, .null, .null, .null, .null, .int 0, .null, .int 0, .null, .null, .null, .null, .null, .null, .null, .null])) := by rw [eM11]; exact bm_up_self _ _ _
  replace hF : ∀ a, a < m → M11 a = M a := fun a ha => by rw [eM11]; exact (bm_up_ne (bm_lne0 ha)).trans (hF a ha)
  clear eM11
  refine lv_aload_n hx hb dM_init_37 rfl (lv_at hl 0 rfl) ?_
  refine lv_bipush (v := 32) hx hb dM_init_38 (by decide) ?_
  refine bm_newaz (atype := .int) (a0 := (32, .inl (fun _ => 0))) hz hx hb (hts _ bw_669) (ty := .int) rfl hK hM hS (Nat.le_trans hG.2.1 hS.1) 0 rfl (fun C h => by cases h) (bm_aI 32) (by decide) (by decide) (Nat.le_of_ble_eq_true rfl) (by rw [← hR]; exact Nat.le_of_ble_eq_true rfl) (by rw [← hR]; exact Nat.le_of_ble_eq_true rfl) dM_init_40 (fun H hz1 hM hS => ?_)
  replace hz : H.size = m + 5 := hz1
  obtain ⟨M12, eM12⟩ : ∃ X, X = bm_up M11 (m + 4) (.inl (ct 0, 32, .inl (fun _ => 0))) := ⟨_, rfl⟩
  replace hM : bm_M D base M12 H := by rw [eM12]; exact hM
  replace hm : M12 m = some (.inr (7, [.int 0, .ref (m + 1), .ref (m + 2), .int (-1), .long (-1), .ref (m + 3), .null, .null, .null, .null, .null, .int 0, .null, .int 0, .null, .null, .null, .null, .null, .null, .null, .null])) := by rw [eM12, bm_up_ne (bm_ne0 (k := 3))]; exact hm
  replace hc2 : M12 (m + 1) = some (.inl (ct 0, 4, .inl (fun _ => 0))) := by rw [eM12, bm_up_ne (bm_nea (by decide))]; exact hc2
  replace hc5 : M12 (m + 2) = some (.inl (ct 0, 4, .inl (fun _ => 0))) := by rw [eM12, bm_up_ne (bm_nea (by decide))]; exact hc5
  replace hc10 : M12 (m + 3) = some (.inl (ct 0, 4, .inl (fun _ => 0))) := by rw [eM12, bm_up_ne (bm_nea (by decide))]; exact hc10
  have hc13 : M12 (m + 4) = some (.inl (ct 0, 32, .inl (fun _ => 0))) := by rw [eM12]; exact bm_up_self _ _ _
  replace hF : ∀ a, a < m → M12 a = M a := fun a ha => by rw [eM12]; exact (bm_up_ne (bm_lnea ha)).trans (hF a ha)
  clear eM12 hz1
  refine bm_putF (ci := 7) (v := .ref (m + 4)) (ty := (.array .int)) (C := "BlindMintModel") (T := bt_M) (N := 22) hx hb hts bu_M by_M bo_M bn_M hown hK hM hS hm rfl 6 (by decide) (hts _ bw_608) (fun _ h9 => h9) rfl hnm rfl (by decide +kernel) rfl rfl (Nat.le_of_ble_eq_true rfl) dM_init_42 (fun H locs hz1 hM hS => ?_)
  replace hz := hz1.trans hz
  replace hM : bm_M D base (bm_up M12 m (.inr (7, [.int 0, .ref (m + 1), .ref (m + 2), .int (-1), .long (-1), .ref (m + 3), .ref (m + 4), .null, .null, .null, .null, .int 0, .null, .int 0, .null, .null, .null, .null, .null, .null, .null, .null]))) H := hM
  obtain ⟨M14, eM14⟩ : ∃ X, X = bm_up M12 m (.inr (7, [.int 0, .ref (m + 1), .ref (m + 2), .int (-1), .long (-1), .ref (m + 3), .ref (m + 4), .null, .null, .null, .null, .int 0, .null, .int 0, .null, .null, .null, .null, .null, .null, .null, .null])) := ⟨_, rfl⟩
  rw [← eM14] at hM
  replace hc2 : M14 (m + 1) = some (.inl (ct 0, 4, .inl (fun _ => 0))) := by rw [eM14, bm_up_ne (bm_ne1 (k := 0))]; exact hc2
  replace hc5 : M14 (m + 2) = some (.inl (ct 0, 4, .inl (fun _ => 0))) := by rw [eM14, bm_up_ne (bm_ne1 (k := 1))]; exact hc5
  replace hc10 : M14 (m + 3) = some (.inl (ct 0, 4, .inl (fun _ => 0))) := by rw [eM14, bm_up_ne (bm_ne1 (k := 2))]; exact hc10
  replace hc13 : M14 (m + 4) = some (.inl (ct 0, 32, .inl (fun _ => 0))) := by rw [eM14, bm_up_ne (bm_ne1 (k := 3))]; exact hc13
  replace hm : M14 m = some (.inr (7, [.int 0, .ref (m + 1), .ref (m + 2), .int (-1), .long (-1), .ref (m + 3), .ref (m + 4), .null, .null, .null, .null, .int 0, .null, .int 0, .null, .null, .null, .null, .null, .null, .null, .null])) := by rw [eM14]; exact bm_up_self _ _ _
  replace hF : ∀ a, a < m → M14 a = M a := fun a ha => by rw [eM14]; exact (bm_up_ne (bm_lne0 ha)).trans (hF a ha)
  clear eM14
  refine lv_aload_n hx hb dM_init_45 rfl (lv_at hl 0 rfl) ?_
  refine lv_bipush (v := 32) hx hb dM_init_46 (by decide) ?_
  refine bm_newaz (atype := .long) (a0 := (32, .inr (.inl (fun _ => 0)))) hz hx hb (hts _ bw_108) (ty := .long) rfl hK hM hS (Nat.le_trans hG.2.1 hS.1) 1 rfl (fun C h => by cases h) (bm_aL 32) (by decide) (by decide) (Nat.le_of_ble_eq_true rfl) (by rw [← hR]; exact Nat.le_of_ble_eq_true rfl) (by rw [← hR]; exact Nat.le_of_ble_eq_true rfl) dM_init_48 (fun H hz1 hM hS => ?_)
  replace hz : H.size = m + 6 := hz1
  obtain ⟨M15, eM15⟩ : ∃ X, X = bm_up M14 (m + 5) (.inl (ct 1, 32, .inr (.inl (fun _ => 0)))) := ⟨_, rfl⟩
  replace hM : bm_M D base M15 H := by rw [eM15]; exact hM
  replace hm : M15 m = some (.inr (7, [.int 0, .ref (m + 1), .ref (m + 2), .int (-1), .long (-1), .ref (m + 3), .ref (m + 4), .null, .null, .null, .null, .int 0, .null, .int 0, .null, .null, .null, .null, .null, .null, .null, .null])) := by rw [eM15, bm_up_ne (bm_ne0 (k := 4))]; exact hm
  replace hc2 : M15 (m + 1) = some (.inl (ct 0, 4, .inl (fun _ => 0))) := by rw [eM15, bm_up_ne (bm_nea (by decide))]; exact hc2
  replace hc5 : M15 (m + 2) = some (.inl (ct 0, 4, .inl (fun _ => 0))) := by rw [eM15, bm_up_ne (bm_nea (by decide))]; exact hc5
  replace hc10 : M15 (m + 3) = some (.inl (ct 0, 4, .inl (fun _ => 0))) := by rw [eM15, bm_up_ne (bm_nea (by decide))]; exact hc10
  replace hc13 : M15 (m + 4) = some (.inl (ct 0, 32, .inl (fun _ => 0))) := by rw [eM15, bm_up_ne (bm_nea (by decide))]; exact hc13
  have hc16 : M15 (m + 5) = some (.inl (ct 1, 32, .inr (.inl (fun _ => 0)))) := by rw [eM15]; exact bm_up_self _ _ _
  replace hF : ∀ a, a < m → M15 a = M a := fun a ha => by rw [eM15]; exact (bm_up_ne (bm_lnea ha)).trans (hF a ha)
  clear eM15 hz1
  refine bm_putF (ci := 7) (v := .ref (m + 5)) (ty := (.array .long)) (C := "BlindMintModel") (T := bt_M) (N := 22) hx hb hts bu_M by_M bo_M bn_M hown hK hM hS hm rfl 7 (by decide) (hts _ bw_609) (fun _ h9 => h9) rfl hnm rfl (by decide +kernel) rfl rfl (Nat.le_of_ble_eq_true rfl) dM_init_50 (fun H locs hz1 hM hS => ?_)
  replace hz := hz1.trans hz
  replace hM : bm_M D base (bm_up M15 m (.inr (7, [.int 0, .ref (m + 1), .ref (m + 2), .int (-1), .long (-1), .ref (m + 3), .ref (m + 4), .ref (m + 5), .null, .null, .null, .int 0, .null, .int 0, .null, .null, .null, .null, .null, .null, .null, .null]))) H := hM
  obtain ⟨M17, eM17⟩ : ∃ X, X = bm_up M15 m (.inr (7, [.int 0, .ref (m + 1), .ref (m + 2), .int (-1), .long (-1), .ref (m + 3), .ref (m + 4), .ref (m + 5), .null, .null, .null, .int 0, .null, .int 0, .null, .null, .null, .null, .null, .null, .null, .null])) := ⟨_, rfl⟩
  rw [← eM17] at hM
  replace hc2 : M17 (m + 1) = some (.inl (ct 0, 4, .inl (fun _ => 0))) := by rw [eM17, bm_up_ne (bm_ne1 (k := 0))]; exact hc2
  replace hc5 : M17 (m + 2) = some (.inl (ct 0, 4, .inl (fun _ => 0))) := by rw [eM17, bm_up_ne (bm_ne1 (k := 1))]; exact hc5
  replace hc10 : M17 (m + 3) = some (.inl (ct 0, 4, .inl (fun _ => 0))) := by rw [eM17, bm_up_ne (bm_ne1 (k := 2))]; exact hc10
  replace hc13 : M17 (m + 4) = some (.inl (ct 0, 32, .inl (fun _ => 0))) := by rw [eM17, bm_up_ne (bm_ne1 (k := 3))]; exact hc13
  replace hc16 : M17 (m + 5) = some (.inl (ct 1, 32, .inr (.inl (fun _ => 0)))) := by rw [eM17, bm_up_ne (bm_ne1 (k := 4))]; exact hc16
  replace hm : M17 m = some (.inr (7, [.int 0, .ref (m + 1), .ref (m + 2), .int (-1), .long (-1), .ref (m + 3), .ref (m + 4), .ref (m + 5), .null, .null, .null, .int 0, .null, .int 0, .null, .null, .null, .null, .null, .null, .null, .null])) := by rw [eM17]; exact bm_up_self _ _ _
  replace hF : ∀ a, a < m → M17 a = M a := fun a ha => by rw [eM17]; exact (bm_up_ne (bm_lne0 ha)).trans (hF a ha)
  clear eM17
  refine lv_aload_n hx hb dM_init_53 rfl (lv_at hl 0 rfl) ?_
  refine lv_bipush (v := 32) hx hb dM_init_54 (by decide) ?_
  refine bm_newaz (atype := .long) (a0 := (32, .inr (.inl (fun _ => 0)))) hz hx hb (hts _ bw_108) (ty := .long) rfl hK hM hS (Nat.le_trans hG.2.1 hS.1) 1 rfl (fun C h => by cases h) (bm_aL 32) (by decide) (by decide) (Nat.le_of_ble_eq_true rfl) (by rw [← hR]; exact Nat.le_of_ble_eq_true rfl) (by rw [← hR]; exact Nat.le_of_ble_eq_true rfl) dM_init_56 (fun H hz1 hM hS => ?_)
  replace hz : H.size = m + 7 := hz1
  obtain ⟨M18, eM18⟩ : ∃ X, X = bm_up M17 (m + 6) (.inl (ct 1, 32, .inr (.inl (fun _ => 0)))) := ⟨_, rfl⟩
  replace hM : bm_M D base M18 H := by rw [eM18]; exact hM
  replace hm : M18 m = some (.inr (7, [.int 0, .ref (m + 1), .ref (m + 2), .int (-1), .long (-1), .ref (m + 3), .ref (m + 4), .ref (m + 5), .null, .null, .null, .int 0, .null, .int 0, .null, .null, .null, .null, .null, .null, .null, .null])) := by rw [eM18, bm_up_ne (bm_ne0 (k := 5))]; exact hm
  replace hc2 : M18 (m + 1) = some (.inl (ct 0, 4, .inl (fun _ => 0))) := by rw [eM18, bm_up_ne (bm_nea (by decide))]; exact hc2
  replace hc5 : M18 (m + 2) = some (.inl (ct 0, 4, .inl (fun _ => 0))) := by rw [eM18, bm_up_ne (bm_nea (by decide))]; exact hc5
  replace hc10 : M18 (m + 3) = some (.inl (ct 0, 4, .inl (fun _ => 0))) := by rw [eM18, bm_up_ne (bm_nea (by decide))]; exact hc10
  replace hc13 : M18 (m + 4) = some (.inl (ct 0, 32, .inl (fun _ => 0))) := by rw [eM18, bm_up_ne (bm_nea (by decide))]; exact hc13
  replace hc16 : M18 (m + 5) = some (.inl (ct 1, 32, .inr (.inl (fun _ => 0)))) := by rw [eM18, bm_up_ne (bm_nea (by decide))]; exact hc16
  have hc19 : M18 (m + 6) = some (.inl (ct 1, 32, .inr (.inl (fun _ => 0)))) := by rw [eM18]; exact bm_up_self _ _ _
  replace hF : ∀ a, a < m → M18 a = M a := fun a ha => by rw [eM18]; exact (bm_up_ne (bm_lnea ha)).trans (hF a ha)
  clear eM18 hz1
  refine bm_putF (ci := 7) (v := .ref (m + 6)) (ty := (.array .long)) (C := "BlindMintModel") (T := bt_M) (N := 22) hx hb hts bu_M by_M bo_M bn_M hown hK hM hS hm rfl 8 (by decide) (hts _ bw_610) (fun _ h9 => h9) rfl hnm rfl (by decide +kernel) rfl rfl (Nat.le_of_ble_eq_true rfl) dM_init_58 (fun H locs hz1 hM hS => ?_)
  replace hz := hz1.trans hz
  replace hM : bm_M D base (bm_up M18 m (.inr (7, [.int 0, .ref (m + 1), .ref (m + 2), .int (-1), .long (-1), .ref (m + 3), .ref (m + 4), .ref (m + 5), .ref (m + 6), .null, .null, .int 0, .null, .int 0, .null, .null, .null, .null, .null, .null, .null, .null]))) H := hM
  obtain ⟨M20, eM20⟩ : ∃ X, X = bm_up M18 m (.inr (7, [.int 0, .ref (m + 1), .ref (m + 2), .int (-1), .long (-1), .ref (m + 3), .ref (m + 4), .ref (m + 5), .ref (m + 6), .null, .null, .int 0, .null, .int 0, .null, .null, .null, .null, .null, .null, .null, .null])) := ⟨_, rfl⟩
  rw [← eM20] at hM
  replace hc2 : M20 (m + 1) = some (.inl (ct 0, 4, .inl (fun _ => 0))) := by rw [eM20, bm_up_ne (bm_ne1 (k := 0))]; exact hc2
  replace hc5 : M20 (m + 2) = some (.inl (ct 0, 4, .inl (fun _ => 0))) := by rw [eM20, bm_up_ne (bm_ne1 (k := 1))]; exact hc5
  replace hc10 : M20 (m + 3) = some (.inl (ct 0, 4, .inl (fun _ => 0))) := by rw [eM20, bm_up_ne (bm_ne1 (k := 2))]; exact hc10
  replace hc13 : M20 (m + 4) = some (.inl (ct 0, 32, .inl (fun _ => 0))) := by rw [eM20, bm_up_ne (bm_ne1 (k := 3))]; exact hc13
  replace hc16 : M20 (m + 5) = some (.inl (ct 1, 32, .inr (.inl (fun _ => 0)))) := by rw [eM20, bm_up_ne (bm_ne1 (k := 4))]; exact hc16
  replace hc19 : M20 (m + 6) = some (.inl (ct 1, 32, .inr (.inl (fun _ => 0)))) := by rw [eM20, bm_up_ne (bm_ne1 (k := 5))]; exact hc19
  replace hm : M20 m = some (.inr (7, [.int 0, .ref (m + 1), .ref (m + 2), .int (-1), .long (-1), .ref (m + 3), .ref (m + 4), .ref (m + 5), .ref (m + 6), .null, .null, .int 0, .null, .int 0, .null, .null, .null, .null, .null, .null, .null, .null])) := by rw [eM20]; exact bm_up_self _ _ _
  replace hF : ∀ a, a < m → M20 a = M a := fun a ha => by rw [eM20]; exact (bm_up_ne (bm_lne0 ha)).trans (hF a ha)
  clear eM20
  refine lv_aload_n hx hb dM_init_61 rfl (lv_at hl 0 rfl) ?_
  refine lv_bipush (v := 32) hx hb dM_init_62 (by decide) ?_
  refine bm_newaz (atype := .boolean) (a0 := (32, .inl (fun _ => 0))) hz hx hb (hts _ bw_670) (ty := .boolean) rfl hK hM hS (Nat.le_trans hG.2.1 hS.1) 2 rfl (fun C h => by cases h) (bm_aZ 32) (by decide) (by decide) (Nat.le_of_ble_eq_true rfl) (by rw [← hR]; exact Nat.le_of_ble_eq_true rfl) (by rw [← hR]; exact Nat.le_of_ble_eq_true rfl) dM_init_64 (fun H hz1 hM hS => ?_)
  replace hz : H.size = m + 8 := hz1
  obtain ⟨M21, eM21⟩ : ∃ X, X = bm_up M20 (m + 7) (.inl (ct 2, 32, .inl (fun _ => 0))) := ⟨_, rfl⟩
  replace hM : bm_M D base M21 H := by rw [eM21]; exact hM
  replace hm : M21 m = some (.inr (7, [.int 0, .ref (m + 1), .ref (m + 2), .int (-1), .long (-1), .ref (m + 3), .ref (m + 4), .ref (m + 5), .ref (m + 6), .null, .null, .int 0, .null, .int 0, .null, .null, .null, .null, .null, .null, .null, .null])) := by rw [eM21, bm_up_ne (bm_ne0 (k := 6))]; exact hm
  replace hc2 : M21 (m + 1) = some (.inl (ct 0, 4, .inl (fun _ => 0))) := by rw [eM21, bm_up_ne (bm_nea (by decide))]; exact hc2
  replace hc5 : M21 (m + 2) = some (.inl (ct 0, 4, .inl (fun _ => 0))) := by rw [eM21, bm_up_ne (bm_nea (by decide))]; exact hc5
  replace hc10 : M21 (m + 3) = some (.inl (ct 0, 4, .inl (fun _ => 0))) := by rw [eM21, bm_up_ne (bm_nea (by decide))]; exact hc10
  replace hc13 : M21 (m + 4) = some (.inl (ct 0, 32, .inl (fun _ => 0))) := by rw [eM21, bm_up_ne (bm_nea (by decide))]; exact hc13
  replace hc16 : M21 (m + 5) = some (.inl (ct 1, 32, .inr (.inl (fun _ => 0)))) := by rw [eM21, bm_up_ne (bm_nea (by decide))]; exact hc16
  replace hc19 : M21 (m + 6) = some (.inl (ct 1, 32, .inr (.inl (fun _ => 0)))) := by rw [eM21, bm_up_ne (bm_nea (by decide))]; exact hc19
  have hc22 : M21 (m + 7) = some (.inl (ct 2, 32, .inl (fun _ => 0))) := by rw [eM21]; exact bm_up_self _ _ _
  replace hF : ∀ a, a < m → M21 a = M a := fun a ha => by rw [eM21]; exact (bm_up_ne (bm_lnea ha)).trans (hF a ha)
  clear eM21 hz1
  refine bm_putF (ci := 7) (v := .ref (m + 7)) (ty := (.array .boolean)) (C := "BlindMintModel") (T := bt_M) (N := 22) hx hb hts bu_M by_M bo_M bn_M hown hK hM hS hm rfl 9 (by decide) (hts _ bw_611) (fun _ h9 => h9) rfl hnm rfl (by decide +kernel) rfl rfl (Nat.le_of_ble_eq_true rfl) dM_init_66 (fun H locs hz1 hM hS => ?_)
  replace hz := hz1.trans hz
  replace hM : bm_M D base (bm_up M21 m (.inr (7, [.int 0, .ref (m + 1), .ref (m + 2), .int (-1), .long (-1), .ref (m + 3), .ref (m + 4), .ref (m + 5), .ref (m + 6), .ref (m + 7), .null, .int 0, .null, .int 0, .null, .null, .null, .null, .null, .null, .null, .null]))) H := hM
  obtain ⟨M23, eM23⟩ : ∃ X, X = bm_up M21 m (.inr (7, [.int 0, .ref (m + 1), .ref (m + 2), .int (-1), .long (-1), .ref (m + 3), .ref (m + 4), .ref (m + 5), .ref (m + 6), .ref (m + 7), .null, .int 0, .null, .int 0, .null, .null, .null, .null, .null, .null, .null, .null])) := ⟨_, rfl⟩
  rw [← eM23] at hM
  replace hc2 : M23 (m + 1) = some (.inl (ct 0, 4, .inl (fun _ => 0))) := by rw [eM23, bm_up_ne (bm_ne1 (k := 0))]; exact hc2
  replace hc5 : M23 (m + 2) = some (.inl (ct 0, 4, .inl (fun _ => 0))) := by rw [eM23, bm_up_ne (bm_ne1 (k := 1))]; exact hc5
  replace hc10 : M23 (m + 3) = some (.inl (ct 0, 4, .inl (fun _ => 0))) := by rw [eM23, bm_up_ne (bm_ne1 (k := 2))]; exact hc10
  replace hc13 : M23 (m + 4) = some (.inl (ct 0, 32, .inl (fun _ => 0))) := by rw [eM23, bm_up_ne (bm_ne1 (k := 3))]; exact hc13
  replace hc16 : M23 (m + 5) = some (.inl (ct 1, 32, .inr (.inl (fun _ => 0)))) := by rw [eM23, bm_up_ne (bm_ne1 (k := 4))]; exact hc16
  replace hc19 : M23 (m + 6) = some (.inl (ct 1, 32, .inr (.inl (fun _ => 0)))) := by rw [eM23, bm_up_ne (bm_ne1 (k := 5))]; exact hc19
  replace hc22 : M23 (m + 7) = some (.inl (ct 2, 32, .inl (fun _ => 0))) := by rw [eM23, bm_up_ne (bm_ne1 (k := 6))]; exact hc22
  replace hm : M23 m = some (.inr (7, [.int 0, .ref (m + 1), .ref (m + 2), .int (-1), .long (-1), .ref (m + 3), .ref (m + 4), .ref (m + 5), .ref (m + 6), .ref (m + 7), .null, .int 0, .null, .int 0, .null, .null, .null, .null, .null, .null, .null, .null])) := by rw [eM23]; exact bm_up_self _ _ _
  replace hF : ∀ a, a < m → M23 a = M a := fun a ha => by rw [eM23]; exact (bm_up_ne (bm_lne0 ha)).trans (hF a ha)
  clear eM23
  refine lv_aload_n hx hb dM_init_69 rfl (lv_at hl 0 rfl) ?_
  refine lv_sipush (v := 512) hx hb dM_init_70 (by decide) ?_
  refine bm_newaz (atype := .long) (a0 := (512, .inr (.inl (fun _ => 0)))) hz hx hb (hts _ bw_108) (ty := .long) rfl hK hM hS (Nat.le_trans hG.2.1 hS.1) 1 rfl (fun C h => by cases h) (bm_aL 512) (by decide) (by decide) (Nat.le_of_ble_eq_true rfl) (by rw [← hR]; exact Nat.le_of_ble_eq_true rfl) (by rw [← hR]; exact Nat.le_of_ble_eq_true rfl) dM_init_73 (fun H hz1 hM hS => ?_)
  replace hz : H.size = m + 9 := hz1
  obtain ⟨M24, eM24⟩ : ∃ X, X = bm_up M23 (m + 8) (.inl (ct 1, 512, .inr (.inl (fun _ => 0)))) := ⟨_, rfl⟩
  replace hM : bm_M D base M24 H := by rw [eM24]; exact hM
  replace hm : M24 m = some (.inr (7, [.int 0, .ref (m + 1), .ref (m + 2), .int (-1), .long (-1), .ref (m + 3), .ref (m + 4), .ref (m + 5), .ref (m + 6), .ref (m + 7), .null, .int 0, .null, .int 0, .null, .null, .null, .null, .null, .null, .null, .null])) := by rw [eM24, bm_up_ne (bm_ne0 (k := 7))]; exact hm
  replace hc2 : M24 (m + 1) = some (.inl (ct 0, 4, .inl (fun _ => 0))) := by rw [eM24, bm_up_ne (bm_nea (by decide))]; exact hc2
  replace hc5 : M24 (m + 2) = some (.inl (ct 0, 4, .inl (fun _ => 0))) := by rw [eM24, bm_up_ne (bm_nea (by decide))]; exact hc5
  replace hc10 : M24 (m + 3) = some (.inl (ct 0, 4, .inl (fun _ => 0))) := by rw [eM24, bm_up_ne (bm_nea (by decide))]; exact hc10
  replace hc13 : M24 (m + 4) = some (.inl (ct 0, 32, .inl (fun _ => 0))) := by rw [eM24, bm_up_ne (bm_nea (by decide))]; exact hc13
  replace hc16 : M24 (m + 5) = some (.inl (ct 1, 32, .inr (.inl (fun _ => 0)))) := by rw [eM24, bm_up_ne (bm_nea (by decide))]; exact hc16
  replace hc19 : M24 (m + 6) = some (.inl (ct 1, 32, .inr (.inl (fun _ => 0)))) := by rw [eM24, bm_up_ne (bm_nea (by decide))]; exact hc19
  replace hc22 : M24 (m + 7) = some (.inl (ct 2, 32, .inl (fun _ => 0))) := by rw [eM24, bm_up_ne (bm_nea (by decide))]; exact hc22
  have hc25 : M24 (m + 8) = some (.inl (ct 1, 512, .inr (.inl (fun _ => 0)))) := by rw [eM24]; exact bm_up_self _ _ _
  replace hF : ∀ a, a < m → M24 a = M a := fun a ha => by rw [eM24]; exact (bm_up_ne (bm_lnea ha)).trans (hF a ha)
  clear eM24 hz1
  refine bm_putF (ci := 7) (v := .ref (m + 8)) (ty := (.array .long)) (C := "BlindMintModel") (T := bt_M) (N := 22) hx hb hts bu_M by_M bo_M bn_M hown hK hM hS hm rfl 10 (by decide) (hts _ bw_612) (fun _ h9 => h9) rfl hnm rfl (by decide +kernel) rfl rfl (Nat.le_of_ble_eq_true rfl) dM_init_75 (fun H locs hz1 hM hS => ?_)
  replace hz := hz1.trans hz
  replace hM : bm_M D base (bm_up M24 m (.inr (7, [.int 0, .ref (m + 1), .ref (m + 2), .int (-1), .long (-1), .ref (m + 3), .ref (m + 4), .ref (m + 5), .ref (m + 6), .ref (m + 7), .ref (m + 8), .int 0, .null, .int 0, .null, .null, .null, .null, .null, .null, .null, .null]))) H := hM
  obtain ⟨M26, eM26⟩ : ∃ X, X = bm_up M24 m (.inr (7, [.int 0, .ref (m + 1), .ref (m + 2), .int (-1), .long (-1), .ref (m + 3), .ref (m + 4), .ref (m + 5), .ref (m + 6), .ref (m + 7), .ref (m + 8), .int 0, .null, .int 0, .null, .null, .null, .null, .null, .null, .null, .null])) := ⟨_, rfl⟩
  rw [← eM26] at hM
  replace hc2 : M26 (m + 1) = some (.inl (ct 0, 4, .inl (fun _ => 0))) := by rw [eM26, bm_up_ne (bm_ne1 (k := 0))]; exact hc2
  replace hc5 : M26 (m + 2) = some (.inl (ct 0, 4, .inl (fun _ => 0))) := by rw [eM26, bm_up_ne (bm_ne1 (k := 1))]; exact hc5
  replace hc10 : M26 (m + 3) = some (.inl (ct 0, 4, .inl (fun _ => 0))) := by rw [eM26, bm_up_ne (bm_ne1 (k := 2))]; exact hc10
  replace hc13 : M26 (m + 4) = some (.inl (ct 0, 32, .inl (fun _ => 0))) := by rw [eM26, bm_up_ne (bm_ne1 (k := 3))]; exact hc13
  replace hc16 : M26 (m + 5) = some (.inl (ct 1, 32, .inr (.inl (fun _ => 0)))) := by rw [eM26, bm_up_ne (bm_ne1 (k := 4))]; exact hc16
  replace hc19 : M26 (m + 6) = some (.inl (ct 1, 32, .inr (.inl (fun _ => 0)))) := by rw [eM26, bm_up_ne (bm_ne1 (k := 5))]; exact hc19
  replace hc22 : M26 (m + 7) = some (.inl (ct 2, 32, .inl (fun _ => 0))) := by rw [eM26, bm_up_ne (bm_ne1 (k := 6))]; exact hc22
  replace hc25 : M26 (m + 8) = some (.inl (ct 1, 512, .inr (.inl (fun _ => 0)))) := by rw [eM26, bm_up_ne (bm_ne1 (k := 7))]; exact hc25
  replace hm : M26 m = some (.inr (7, [.int 0, .ref (m + 1), .ref (m + 2), .int (-1), .long (-1), .ref (m + 3), .ref (m + 4), .ref (m + 5), .ref (m + 6), .ref (m + 7), .ref (m + 8), .int 0, .null, .int 0, .null, .null, .null, .null, .null, .null, .null, .null])) := by rw [eM26]; exact bm_up_self _ _ _
  replace hF : ∀ a, a < m → M26 a = M a := fun a ha => by rw [eM26]; exact (bm_up_ne (bm_lne0 ha)).trans (hF a ha)
  clear eM26
  refine lv_aload_n hx hb dM_init_78 rfl (lv_at hl 0 rfl) ?_
  refine lv_sipush (v := 320) hx hb dM_init_79 (by decide) ?_
  refine bm_newaz (atype := .long) (a0 := (320, .inr (.inl (fun _ => 0)))) hz hx hb (hts _ bw_108) (ty := .long) rfl hK hM hS (Nat.le_trans hG.2.1 hS.1) 1 rfl (fun C h => by cases h) (bm_aL 320) (by decide) (by decide) (Nat.le_of_ble_eq_true rfl) (by rw [← hR]; exact Nat.le_of_ble_eq_true rfl) (by rw [← hR]; exact Nat.le_of_ble_eq_true rfl) dM_init_82 (fun H hz1 hM hS => ?_)
  replace hz : H.size = m + 10 := hz1
  obtain ⟨M27, eM27⟩ : ∃ X, X = bm_up M26 (m + 9) (.inl (ct 1, 320, .inr (.inl (fun _ => 0)))) := ⟨_, rfl⟩
  replace hM : bm_M D base M27 H := by rw [eM27]; exact hM
  replace hm : M27 m = some (.inr (7, [.int 0, .ref (m + 1), .ref (m + 2), .int (-1), .long (-1), .ref (m + 3), .ref (m + 4), .ref (m + 5), .ref (m + 6), .ref (m + 7), .ref (m + 8), .int 0, .null, .int 0, .null, .null, .null, .null, .null, .null, .null, .null])) := by rw [eM27, bm_up_ne (bm_ne0 (k := 8))]; exact hm
  replace hc2 : M27 (m + 1) = some (.inl (ct 0, 4, .inl (fun _ => 0))) := by rw [eM27, bm_up_ne (bm_nea (by decide))]; exact hc2
  replace hc5 : M27 (m + 2) = some (.inl (ct 0, 4, .inl (fun _ => 0))) := by rw [eM27, bm_up_ne (bm_nea (by decide))]; exact hc5
  replace hc10 : M27 (m + 3) = some (.inl (ct 0, 4, .inl (fun _ => 0))) := by rw [eM27, bm_up_ne (bm_nea (by decide))]; exact hc10
  replace hc13 : M27 (m + 4) = some (.inl (ct 0, 32, .inl (fun _ => 0))) := by rw [eM27, bm_up_ne (bm_nea (by decide))]; exact hc13
  replace hc16 : M27 (m + 5) = some (.inl (ct 1, 32, .inr (.inl (fun _ => 0)))) := by rw [eM27, bm_up_ne (bm_nea (by decide))]; exact hc16
  replace hc19 : M27 (m + 6) = some (.inl (ct 1, 32, .inr (.inl (fun _ => 0)))) := by rw [eM27, bm_up_ne (bm_nea (by decide))]; exact hc19
  replace hc22 : M27 (m + 7) = some (.inl (ct 2, 32, .inl (fun _ => 0))) := by rw [eM27, bm_up_ne (bm_nea (by decide))]; exact hc22
  replace hc25 : M27 (m + 8) = some (.inl (ct 1, 512, .inr (.inl (fun _ => 0)))) := by rw [eM27, bm_up_ne (bm_nea (by decide))]; exact hc25
  have hc28 : M27 (m + 9) = some (.inl (ct 1, 320, .inr (.inl (fun _ => 0)))) := by rw [eM27]; exact bm_up_self _ _ _
  replace hF : ∀ a, a < m → M27 a = M a := fun a ha => by rw [eM27]; exact (bm_up_ne (bm_lnea ha)).trans (hF a ha)
  clear eM27 hz1
  refine bm_putF (ci := 7) (v := .ref (m + 9)) (ty := (.array .long)) (C := "BlindMintModel") (T := bt_M) (N := 22) hx hb hts bu_M by_M bo_M bn_M hown hK hM hS hm rfl 12 (by decide) (hts _ bw_614) (fun _ h9 => h9) rfl hnm rfl (by decide +kernel) rfl rfl (Nat.le_of_ble_eq_true rfl) dM_init_84 (fun H locs hz1 hM hS => ?_)
  replace hz := hz1.trans hz
  replace hM : bm_M D base (bm_up M27 m (.inr (7, [.int 0, .ref (m + 1), .ref (m + 2), .int (-1), .long (-1), .ref (m + 3), .ref (m + 4), .ref (m + 5), .ref (m + 6), .ref (m + 7), .ref (m + 8), .int 0, .ref (m + 9), .int 0, .null, .null, .null, .null, .null, .null, .null, .null]))) H := hM
  obtain ⟨M29, eM29⟩ : ∃ X, X = bm_up M27 m (.inr (7, [.int 0, .ref (m + 1), .ref (m + 2), .int (-1), .long (-1), .ref (m + 3), .ref (m + 4), .ref (m + 5), .ref (m + 6), .ref (m + 7), .ref (m + 8), .int 0, .ref (m + 9), .int 0, .null, .null, .null, .null, .null, .null, .null, .null])) := ⟨_, rfl⟩
  rw [← eM29] at hM
  replace hc2 : M29 (m + 1) = some (.inl (ct 0, 4, .inl (fun _ => 0))) := by rw [eM29, bm_up_ne (bm_ne1 (k := 0))]; exact hc2
  replace hc5 : M29 (m + 2) = some (.inl (ct 0, 4, .inl (fun _ => 0))) := by rw [eM29, bm_up_ne (bm_ne1 (k := 1))]; exact hc5
  replace hc10 : M29 (m + 3) = some (.inl (ct 0, 4, .inl (fun _ => 0))) := by rw [eM29, bm_up_ne (bm_ne1 (k := 2))]; exact hc10
  replace hc13 : M29 (m + 4) = some (.inl (ct 0, 32, .inl (fun _ => 0))) := by rw [eM29, bm_up_ne (bm_ne1 (k := 3))]; exact hc13
  replace hc16 : M29 (m + 5) = some (.inl (ct 1, 32, .inr (.inl (fun _ => 0)))) := by rw [eM29, bm_up_ne (bm_ne1 (k := 4))]; exact hc16
  replace hc19 : M29 (m + 6) = some (.inl (ct 1, 32, .inr (.inl (fun _ => 0)))) := by rw [eM29, bm_up_ne (bm_ne1 (k := 5))]; exact hc19
  replace hc22 : M29 (m + 7) = some (.inl (ct 2, 32, .inl (fun _ => 0))) := by rw [eM29, bm_up_ne (bm_ne1 (k := 6))]; exact hc22
  replace hc25 : M29 (m + 8) = some (.inl (ct 1, 512, .inr (.inl (fun _ => 0)))) := by rw [eM29, bm_up_ne (bm_ne1 (k := 7))]; exact hc25
  replace hc28 : M29 (m + 9) = some (.inl (ct 1, 320, .inr (.inl (fun _ => 0)))) := by rw [eM29, bm_up_ne (bm_ne1 (k := 8))]; exact hc28
  replace hm : M29 m = some (.inr (7, [.int 0, .ref (m + 1), .ref (m + 2), .int (-1), .long (-1), .ref (m + 3), .ref (m + 4), .ref (m + 5), .ref (m + 6), .ref (m + 7), .ref (m + 8), .int 0, .ref (m + 9), .int 0, .null, .null, .null, .null, .null, .null, .null, .null])) := by rw [eM29]; exact bm_up_self _ _ _
  replace hF : ∀ a, a < m → M29 a = M a := fun a ha => by rw [eM29]; exact (bm_up_ne (bm_lne0 ha)).trans (hF a ha)
  clear eM29
  refine lv_aload_n hx hb dM_init_87 rfl (lv_at hl 0 rfl) ?_
  refine lv_sipush (v := 5200) hx hb dM_init_88 (by decide) ?_
  refine bm_newaz (atype := .long) (a0 := (5200, .inr (.inl (fun _ => 0)))) hz hx hb (hts _ bw_108) (ty := .long) rfl hK hM hS (Nat.le_trans hG.2.1 hS.1) 1 rfl (fun C h => by cases h) (bm_aL 5200) (by decide) (by decide) (Nat.le_of_ble_eq_true rfl) (by rw [← hR]; exact Nat.le_of_ble_eq_true rfl) (by rw [← hR]; exact Nat.le_of_ble_eq_true rfl) dM_init_91 (fun H hz1 hM hS => ?_)
  replace hz : H.size = m + 11 := hz1
  obtain ⟨M30, eM30⟩ : ∃ X, X = bm_up M29 (m + 10) (.inl (ct 1, 5200, .inr (.inl (fun _ => 0)))) := ⟨_, rfl⟩
  replace hM : bm_M D base M30 H := by rw [eM30]; exact hM
  replace hm : M30 m = some (.inr (7, [.int 0, .ref (m + 1), .ref (m + 2), .int (-1), .long (-1), .ref (m + 3), .ref (m + 4), .ref (m + 5), .ref (m + 6), .ref (m + 7), .ref (m + 8), .int 0, .ref (m + 9), .int 0, .null, .null, .null, .null, .null, .null, .null, .null])) := by rw [eM30, bm_up_ne (bm_ne0 (k := 9))]; exact hm
  replace hc2 : M30 (m + 1) = some (.inl (ct 0, 4, .inl (fun _ => 0))) := by rw [eM30, bm_up_ne (bm_nea (by decide))]; exact hc2
  replace hc5 : M30 (m + 2) = some (.inl (ct 0, 4, .inl (fun _ => 0))) := by rw [eM30, bm_up_ne (bm_nea (by decide))]; exact hc5
  replace hc10 : M30 (m + 3) = some (.inl (ct 0, 4, .inl (fun _ => 0))) := by rw [eM30, bm_up_ne (bm_nea (by decide))]; exact hc10
  replace hc13 : M30 (m + 4) = some (.inl (ct 0, 32, .inl (fun _ => 0))) := by rw [eM30, bm_up_ne (bm_nea (by decide))]; exact hc13
  replace hc16 : M30 (m + 5) = some (.inl (ct 1, 32, .inr (.inl (fun _ => 0)))) := by rw [eM30, bm_up_ne (bm_nea (by decide))]; exact hc16
  replace hc19 : M30 (m + 6) = some (.inl (ct 1, 32, .inr (.inl (fun _ => 0)))) := by rw [eM30, bm_up_ne (bm_nea (by decide))]; exact hc19
  replace hc22 : M30 (m + 7) = some (.inl (ct 2, 32, .inl (fun _ => 0))) := by rw [eM30, bm_up_ne (bm_nea (by decide))]; exact hc22
  replace hc25 : M30 (m + 8) = some (.inl (ct 1, 512, .inr (.inl (fun _ => 0)))) := by rw [eM30, bm_up_ne (bm_nea (by decide))]; exact hc25
  replace hc28 : M30 (m + 9) = some (.inl (ct 1, 320, .inr (.inl (fun _ => 0)))) := by rw [eM30, bm_up_ne (bm_nea (by decide))]; exact hc28
  have hc31 : M30 (m + 10) = some (.inl (ct 1, 5200, .inr (.inl (fun _ => 0)))) := by rw [eM30]; exact bm_up_self _ _ _
  replace hF : ∀ a, a < m → M30 a = M a := fun a ha => by rw [eM30]; exact (bm_up_ne (bm_lnea ha)).trans (hF a ha)
  clear eM30 hz1
  refine bm_putF (ci := 7) (v := .ref (m + 10)) (ty := (.array .long)) (C := "BlindMintModel") (T := bt_M) (N := 22) hx hb hts bu_M by_M bo_M bn_M hown hK hM hS hm rfl 14 (by decide) (hts _ bw_616) (fun _ h9 => h9) rfl hnm rfl (by decide +kernel) rfl rfl (Nat.le_of_ble_eq_true rfl) dM_init_93 (fun H locs hz1 hM hS => ?_)
  replace hz := hz1.trans hz
  replace hM : bm_M D base (bm_up M30 m (.inr (7, [.int 0, .ref (m + 1), .ref (m + 2), .int (-1), .long (-1), .ref (m + 3), .ref (m + 4), .ref (m + 5), .ref (m + 6), .ref (m + 7), .ref (m + 8), .int 0, .ref (m + 9), .int 0, .ref (m + 10), .null, .null, .null, .null, .null, .null, .null]))) H := hM
  obtain ⟨M32, eM32⟩ : ∃ X, X = bm_up M30 m (.inr (7, [.int 0, .ref (m + 1), .ref (m + 2), .int (-1), .long (-1), .ref (m + 3), .ref (m + 4), .ref (m + 5), .ref (m + 6), .ref (m + 7), .ref (m + 8), .int 0, .ref (m + 9), .int 0, .ref (m + 10), .null, .null, .null, .null, .null, .null, .null])) := ⟨_, rfl⟩
  rw [← eM32] at hM
  replace hc2 : M32 (m + 1) = some (.inl (ct 0, 4, .inl (fun _ => 0))) := by rw [eM32, bm_up_ne (bm_ne1 (k := 0))]; exact hc2
  replace hc5 : M32 (m + 2) = some (.inl (ct 0, 4, .inl (fun _ => 0))) := by rw [eM32, bm_up_ne (bm_ne1 (k := 1))]; exact hc5
  replace hc10 : M32 (m + 3) = some (.inl (ct 0, 4, .inl (fun _ => 0))) := by rw [eM32, bm_up_ne (bm_ne1 (k := 2))]; exact hc10
  replace hc13 : M32 (m + 4) = some (.inl (ct 0, 32, .inl (fun _ => 0))) := by rw [eM32, bm_up_ne (bm_ne1 (k := 3))]; exact hc13
  replace hc16 : M32 (m + 5) = some (.inl (ct 1, 32, .inr (.inl (fun _ => 0)))) := by rw [eM32, bm_up_ne (bm_ne1 (k := 4))]; exact hc16
  replace hc19 : M32 (m + 6) = some (.inl (ct 1, 32, .inr (.inl (fun _ => 0)))) := by rw [eM32, bm_up_ne (bm_ne1 (k := 5))]; exact hc19
  replace hc22 : M32 (m + 7) = some (.inl (ct 2, 32, .inl (fun _ => 0))) := by rw [eM32, bm_up_ne (bm_ne1 (k := 6))]; exact hc22
  replace hc25 : M32 (m + 8) = some (.inl (ct 1, 512, .inr (.inl (fun _ => 0)))) := by rw [eM32, bm_up_ne (bm_ne1 (k := 7))]; exact hc25
  replace hc28 : M32 (m + 9) = some (.inl (ct 1, 320, .inr (.inl (fun _ => 0)))) := by rw [eM32, bm_up_ne (bm_ne1 (k := 8))]; exact hc28
  replace hc31 : M32 (m + 10) = some (.inl (ct 1, 5200, .inr (.inl (fun _ => 0)))) := by rw [eM32, bm_up_ne (bm_ne1 (k := 9))]; exact hc31
  replace hm : M32 m = some (.inr (7, [.int 0, .ref (m + 1), .ref (m + 2), .int (-1), .long (-1), .ref (m + 3), .ref (m + 4), .ref (m + 5), .ref (m + 6), .ref (m + 7), .ref (m + 8), .int 0, .ref (m + 9), .int 0, .ref (m + 10), .null, .null, .null, .null, .null, .null, .null])) := by rw [eM32]; exact bm_up_self _ _ _
  replace hF : ∀ a, a < m → M32 a = M a := fun a ha => by rw [eM32]; exact (bm_up_ne (bm_lne0 ha)).trans (hF a ha)
  clear eM32
  refine lv_aload_n hx hb dM_init_96 rfl (lv_at hl 0 rfl) ?_
  refine lv_bipush (v := 6) hx hb dM_init_97 (by decide) ?_
  refine bm_newaz (atype := .long) (a0 := (6, .inr (.inl (fun _ => 0)))) hz hx hb (hts _ bw_108) (ty := .long) rfl hK hM hS (Nat.le_trans hG.2.1 hS.1) 1 rfl (fun C h => by cases h) (bm_aL 6) (by decide) (by decide) (Nat.le_of_ble_eq_true rfl) (by rw [← hR]; exact Nat.le_of_ble_eq_true rfl) (by rw [← hR]; exact Nat.le_of_ble_eq_true rfl) dM_init_99 (fun H hz1 hM hS => ?_)
  replace hz : H.size = m + 12 := hz1
  obtain ⟨M33, eM33⟩ : ∃ X, X = bm_up M32 (m + 11) (.inl (ct 1, 6, .inr (.inl (fun _ => 0)))) := ⟨_, rfl⟩
  replace hM : bm_M D base M33 H := by rw [eM33]; exact hM
  replace hm : M33 m = some (.inr (7, [.int 0, .ref (m + 1), .ref (m + 2), .int (-1), .long (-1), .ref (m + 3), .ref (m + 4), .ref (m + 5), .ref (m + 6), .ref (m + 7), .ref (m + 8), .int 0, .ref (m + 9), .int 0, .ref (m + 10), .null, .null, .null, .null, .null, .null, .null])) := by rw [eM33, bm_up_ne (bm_ne0 (k := 10))]; exact hm
  replace hc2 : M33 (m + 1) = some (.inl (ct 0, 4, .inl (fun _ => 0))) := by rw [eM33, bm_up_ne (bm_nea (by decide))]; exact hc2
  replace hc5 : M33 (m + 2) = some (.inl (ct 0, 4, .inl (fun _ => 0))) := by rw [eM33, bm_up_ne (bm_nea (by decide))]; exact hc5
  replace hc10 : M33 (m + 3) = some (.inl (ct 0, 4, .inl (fun _ => 0))) := by rw [eM33, bm_up_ne (bm_nea (by decide))]; exact hc10
  replace hc13 : M33 (m + 4) = some (.inl (ct 0, 32, .inl (fun _ => 0))) := by rw [eM33, bm_up_ne (bm_nea (by decide))]; exact hc13
  replace hc16 : M33 (m + 5) = some (.inl (ct 1, 32, .inr (.inl (fun _ => 0)))) := by rw [eM33, bm_up_ne (bm_nea (by decide))]; exact hc16
  replace hc19 : M33 (m + 6) = some (.inl (ct 1, 32, .inr (.inl (fun _ => 0)))) := by rw [eM33, bm_up_ne (bm_nea (by decide))]; exact hc19
  replace hc22 : M33 (m + 7) = some (.inl (ct 2, 32, .inl (fun _ => 0))) := by rw [eM33, bm_up_ne (bm_nea (by decide))]; exact hc22
  replace hc25 : M33 (m + 8) = some (.inl (ct 1, 512, .inr (.inl (fun _ => 0)))) := by rw [eM33, bm_up_ne (bm_nea (by decide))]; exact hc25
  replace hc28 : M33 (m + 9) = some (.inl (ct 1, 320, .inr (.inl (fun _ => 0)))) := by rw [eM33, bm_up_ne (bm_nea (by decide))]; exact hc28
  replace hc31 : M33 (m + 10) = some (.inl (ct 1, 5200, .inr (.inl (fun _ => 0)))) := by rw [eM33, bm_up_ne (bm_nea (by decide))]; exact hc31
  have hc34 : M33 (m + 11) = some (.inl (ct 1, 6, .inr (.inl (fun _ => 0)))) := by rw [eM33]; exact bm_up_self _ _ _
  replace hF : ∀ a, a < m → M33 a = M a := fun a ha => by rw [eM33]; exact (bm_up_ne (bm_lnea ha)).trans (hF a ha)
  clear eM33 hz1
  refine bm_putF (ci := 7) (v := .ref (m + 11)) (ty := (.array .long)) (C := "BlindMintModel") (T := bt_M) (N := 22) hx hb hts bu_M by_M bo_M bn_M hown hK hM hS hm rfl 15 (by decide) (hts _ bw_617) (fun _ h9 => h9) rfl hnm rfl (by decide +kernel) rfl rfl (Nat.le_of_ble_eq_true rfl) dM_init_101 (fun H locs hz1 hM hS => ?_)
  replace hz := hz1.trans hz
  replace hM : bm_M D base (bm_up M33 m (.inr (7, [.int 0, .ref (m + 1), .ref (m + 2), .int (-1), .long (-1), .ref (m + 3), .ref (m + 4), .ref (m + 5), .ref (m + 6), .ref (m + 7), .ref (m + 8), .int 0, .ref (m + 9), .int 0, .ref (m + 10), .ref (m + 11), .null, .null, .null, .null, .null, .null]))) H := hM
  obtain ⟨M35, eM35⟩ : ∃ X, X = bm_up M33 m (.inr (7, [.int 0, .ref (m + 1), .ref (m + 2), .int (-1), .long (-1), .ref (m + 3), .ref (m + 4), .ref (m + 5), .ref (m + 6), .ref (m + 7), .ref (m + 8), .int 0, .ref (m + 9), .int 0, .ref (m + 10), .ref (m + 11), .null, .null, .null, .null, .null, .null])) := ⟨_, rfl⟩
  rw [← eM35] at hM
  replace hc2 : M35 (m + 1) = some (.inl (ct 0, 4, .inl (fun _ => 0))) := by rw [eM35, bm_up_ne (bm_ne1 (k := 0))]; exact hc2
  replace hc5 : M35 (m + 2) = some (.inl (ct 0, 4, .inl (fun _ => 0))) := by rw [eM35, bm_up_ne (bm_ne1 (k := 1))]; exact hc5
  replace hc10 : M35 (m + 3) = some (.inl (ct 0, 4, .inl (fun _ => 0))) := by rw [eM35, bm_up_ne (bm_ne1 (k := 2))]; exact hc10
  replace hc13 : M35 (m + 4) = some (.inl (ct 0, 32, .inl (fun _ => 0))) := by rw [eM35, bm_up_ne (bm_ne1 (k := 3))]; exact hc13
  replace hc16 : M35 (m + 5) = some (.inl (ct 1, 32, .inr (.inl (fun _ => 0)))) := by rw [eM35, bm_up_ne (bm_ne1 (k := 4))]; exact hc16
  replace hc19 : M35 (m + 6) = some (.inl (ct 1, 32, .inr (.inl (fun _ => 0)))) := by rw [eM35, bm_up_ne (bm_ne1 (k := 5))]; exact hc19
  replace hc22 : M35 (m + 7) = some (.inl (ct 2, 32, .inl (fun _ => 0))) := by rw [eM35, bm_up_ne (bm_ne1 (k := 6))]; exact hc22
  replace hc25 : M35 (m + 8) = some (.inl (ct 1, 512, .inr (.inl (fun _ => 0)))) := by rw [eM35, bm_up_ne (bm_ne1 (k := 7))]; exact hc25
  replace hc28 : M35 (m + 9) = some (.inl (ct 1, 320, .inr (.inl (fun _ => 0)))) := by rw [eM35, bm_up_ne (bm_ne1 (k := 8))]; exact hc28
  replace hc31 : M35 (m + 10) = some (.inl (ct 1, 5200, .inr (.inl (fun _ => 0)))) := by rw [eM35, bm_up_ne (bm_ne1 (k := 9))]; exact hc31
  replace hc34 : M35 (m + 11) = some (.inl (ct 1, 6, .inr (.inl (fun _ => 0)))) := by rw [eM35, bm_up_ne (bm_ne1 (k := 10))]; exact hc34
  replace hm : M35 m = some (.inr (7, [.int 0, .ref (m + 1), .ref (m + 2), .int (-1), .long (-1), .ref (m + 3), .ref (m + 4), .ref (m + 5), .ref (m + 6), .ref (m + 7), .ref (m + 8), .int 0, .ref (m + 9), .int 0, .ref (m + 10), .ref (m + 11), .null, .null, .null, .null, .null, .null])) := by rw [eM35]; exact bm_up_self _ _ _
  replace hF : ∀ a, a < m → M35 a = M a := fun a ha => by rw [eM35]; exact (bm_up_ne (bm_lne0 ha)).trans (hF a ha)
  clear eM35
  refine lv_aload_n hx hb dM_init_104 rfl (lv_at hl 0 rfl) ?_
  refine lv_bipush (v := 6) hx hb dM_init_105 (by decide) ?_
  refine bm_newaz (atype := .long) (a0 := (6, .inr (.inl (fun _ => 0)))) hz hx hb (hts _ bw_108) (ty := .long) rfl hK hM hS (Nat.le_trans hG.2.1 hS.1) 1 rfl (fun C h => by cases h) (bm_aL 6) (by decide) (by decide) (Nat.le_of_ble_eq_true rfl) (by rw [← hR]; exact Nat.le_of_ble_eq_true rfl) (by rw [← hR]; exact Nat.le_of_ble_eq_true rfl) dM_init_107 (fun H hz1 hM hS => ?_)
  replace hz : H.size = m + 13 := hz1
  obtain ⟨M36, eM36⟩ : ∃ X, X = bm_up M35 (m + 12) (.inl (ct 1, 6, .inr (.inl (fun _ => 0)))) := ⟨_, rfl⟩
  replace hM : bm_M D base M36 H := by rw [eM36]; exact hM
  replace hm : M36 m = some (.inr (7, [.int 0, .ref (m + 1), .ref (m + 2), .int (-1), .long (-1), .ref (m + 3), .ref (m + 4), .ref (m + 5), .ref (m + 6), .ref (m + 7), .ref (m + 8), .int 0, .ref (m + 9), .int 0, .ref (m + 10), .ref (m + 11), .null, .null, .null, .null, .null, .null])) := by rw [eM36, bm_up_ne (bm_ne0 (k := 11))]; exact hm
  replace hc2 : M36 (m + 1) = some (.inl (ct 0, 4, .inl (fun _ => 0))) := by rw [eM36, bm_up_ne (bm_nea (by decide))]; exact hc2
  replace hc5 : M36 (m + 2) = some (.inl (ct 0, 4, .inl (fun _ => 0))) := by rw [eM36, bm_up_ne (bm_nea (by decide))]; exact hc5
  replace hc10 : M36 (m + 3) = some (.inl (ct 0, 4, .inl (fun _ => 0))) := by rw [eM36, bm_up_ne (bm_nea (by decide))]; exact hc10
  replace hc13 : M36 (m + 4) = some (.inl (ct 0, 32, .inl (fun _ => 0))) := by rw [eM36, bm_up_ne (bm_nea (by decide))]; exact hc13
  replace hc16 : M36 (m + 5) = some (.inl (ct 1, 32, .inr (.inl (fun _ => 0)))) := by rw [eM36, bm_up_ne (bm_nea (by decide))]; exact hc16
  replace hc19 : M36 (m + 6) = some (.inl (ct 1, 32, .inr (.inl (fun _ => 0)))) := by rw [eM36, bm_up_ne (bm_nea (by decide))]; exact hc19
  replace hc22 : M36 (m + 7) = some (.inl (ct 2, 32, .inl (fun _ => 0))) := by rw [eM36, bm_up_ne (bm_nea (by decide))]; exact hc22
  replace hc25 : M36 (m + 8) = some (.inl (ct 1, 512, .inr (.inl (fun _ => 0)))) := by rw [eM36, bm_up_ne (bm_nea (by decide))]; exact hc25
  replace hc28 : M36 (m + 9) = some (.inl (ct 1, 320, .inr (.inl (fun _ => 0)))) := by rw [eM36, bm_up_ne (bm_nea (by decide))]; exact hc28
  replace hc31 : M36 (m + 10) = some (.inl (ct 1, 5200, .inr (.inl (fun _ => 0)))) := by rw [eM36, bm_up_ne (bm_nea (by decide))]; exact hc31
  replace hc34 : M36 (m + 11) = some (.inl (ct 1, 6, .inr (.inl (fun _ => 0)))) := by rw [eM36, bm_up_ne (bm_nea (by decide))]; exact hc34
  have hc37 : M36 (m + 12) = some (.inl (ct 1, 6, .inr (.inl (fun _ => 0)))) := by rw [eM36]; exact bm_up_self _ _ _
  replace hF : ∀ a, a < m → M36 a = M a := fun a ha => by rw [eM36]; exact (bm_up_ne (bm_lnea ha)).trans (hF a ha)
  clear eM36 hz1
  refine bm_putF (ci := 7) (v := .ref (m + 12)) (ty := (.array .long)) (C := "BlindMintModel") (T := bt_M) (N := 22) hx hb hts bu_M by_M bo_M bn_M hown hK hM hS hm rfl 16 (by decide) (hts _ bw_618) (fun _ h9 => h9) rfl hnm rfl (by decide +kernel) rfl rfl (Nat.le_of_ble_eq_true rfl) dM_init_109 (fun H locs hz1 hM hS => ?_)
  replace hz := hz1.trans hz
  replace hM : bm_M D base (bm_up M36 m (.inr (7, [.int 0, .ref (m + 1), .ref (m + 2), .int (-1), .long (-1), .ref (m + 3), .ref (m + 4), .ref (m + 5), .ref (m + 6), .ref (m + 7), .ref (m + 8), .int 0, .ref (m + 9), .int 0, .ref (m + 10), .ref (m + 11), .ref (m + 12), .null, .null, .null, .null, .null]))) H := hM
  obtain ⟨M38, eM38⟩ : ∃ X, X = bm_up M36 m (.inr (7, [.int 0, .ref (m + 1), .ref (m + 2), .int (-1), .long (-1), .ref (m + 3), .ref (m + 4), .ref (m + 5), .ref (m + 6), .ref (m + 7), .ref (m + 8), .int 0, .ref (m + 9), .int 0, .ref (m + 10), .ref (m + 11), .ref (m + 12), .null, .null, .null, .null, .null])) := ⟨_, rfl⟩
  rw [← eM38] at hM
  replace hc2 : M38 (m + 1) = some (.inl (ct 0, 4, .inl (fun _ => 0))) := by rw [eM38, bm_up_ne (bm_ne1 (k := 0))]; exact hc2
  replace hc5 : M38 (m + 2) = some (.inl (ct 0, 4, .inl (fun _ => 0))) := by rw [eM38, bm_up_ne (bm_ne1 (k := 1))]; exact hc5
  replace hc10 : M38 (m + 3) = some (.inl (ct 0, 4, .inl (fun _ => 0))) := by rw [eM38, bm_up_ne (bm_ne1 (k := 2))]; exact hc10
  replace hc13 : M38 (m + 4) = some (.inl (ct 0, 32, .inl (fun _ => 0))) := by rw [eM38, bm_up_ne (bm_ne1 (k := 3))]; exact hc13
  replace hc16 : M38 (m + 5) = some (.inl (ct 1, 32, .inr (.inl (fun _ => 0)))) := by rw [eM38, bm_up_ne (bm_ne1 (k := 4))]; exact hc16
  replace hc19 : M38 (m + 6) = some (.inl (ct 1, 32, .inr (.inl (fun _ => 0)))) := by rw [eM38, bm_up_ne (bm_ne1 (k := 5))]; exact hc19
  replace hc22 : M38 (m + 7) = some (.inl (ct 2, 32, .inl (fun _ => 0))) := by rw [eM38, bm_up_ne (bm_ne1 (k := 6))]; exact hc22
  replace hc25 : M38 (m + 8) = some (.inl (ct 1, 512, .inr (.inl (fun _ => 0)))) := by rw [eM38, bm_up_ne (bm_ne1 (k := 7))]; exact hc25
  replace hc28 : M38 (m + 9) = some (.inl (ct 1, 320, .inr (.inl (fun _ => 0)))) := by rw [eM38, bm_up_ne (bm_ne1 (k := 8))]; exact hc28
  replace hc31 : M38 (m + 10) = some (.inl (ct 1, 5200, .inr (.inl (fun _ => 0)))) := by rw [eM38, bm_up_ne (bm_ne1 (k := 9))]; exact hc31
  replace hc34 : M38 (m + 11) = some (.inl (ct 1, 6, .inr (.inl (fun _ => 0)))) := by rw [eM38, bm_up_ne (bm_ne1 (k := 10))]; exact hc34
  replace hc37 : M38 (m + 12) = some (.inl (ct 1, 6, .inr (.inl (fun _ => 0)))) := by rw [eM38, bm_up_ne (bm_ne1 (k := 11))]; exact hc37
  replace hm : M38 m = some (.inr (7, [.int 0, .ref (m + 1), .ref (m + 2), .int (-1), .long (-1), .ref (m + 3), .ref (m + 4), .ref (m + 5), .ref (m + 6), .ref (m + 7), .ref (m + 8), .int 0, .ref (m + 9), .int 0, .ref (m + 10), .ref (m + 11), .ref (m + 12), .null, .null, .null, .null, .null])) := by rw [eM38]; exact bm_up_self _ _ _
  replace hF : ∀ a, a < m → M38 a = M a := fun a ha => by rw [eM38]; exact (bm_up_ne (bm_lne0 ha)).trans (hF a ha)
  clear eM38
  refine lv_aload_n hx hb dM_init_112 rfl (lv_at hl 0 rfl) ?_
  refine lv_bipush (v := 6) hx hb dM_init_113 (by decide) ?_
  refine bm_newaz (atype := .long) (a0 := (6, .inr (.inl (fun _ => 0)))) hz hx hb (hts _ bw_108) (ty := .long) rfl hK hM hS (Nat.le_trans hG.2.1 hS.1) 1 rfl (fun C h => by cases h) (bm_aL 6) (by decide) (by decide) (Nat.le_of_ble_eq_true rfl) (by rw [← hR]; exact Nat.le_of_ble_eq_true rfl) (by rw [← hR]; exact Nat.le_of_ble_eq_true rfl) dM_init_115 (fun H hz1 hM hS => ?_)
  replace hz : H.size = m + 14 := hz1
  obtain ⟨M39, eM39⟩ : ∃ X, X = bm_up M38 (m + 13) (.inl (ct 1, 6, .inr (.inl (fun _ => 0)))) := ⟨_, rfl⟩
  replace hM : bm_M D base M39 H := by rw [eM39]; exact hM
  replace hm : M39 m = some (.inr (7, [.int 0, .ref (m + 1), .ref (m + 2), .int (-1), .long (-1), .ref (m + 3), .ref (m + 4), .ref (m + 5), .ref (m + 6), .ref (m + 7), .ref (m + 8), .int 0, .ref (m + 9), .int 0, .ref (m + 10), .ref (m + 11), .ref (m + 12), .null, .null, .null, .null, .null])) := by rw [eM39, bm_up_ne (bm_ne0 (k := 12))]; exact hm
  replace hc2 : M39 (m + 1) = some (.inl (ct 0, 4, .inl (fun _ => 0))) := by rw [eM39, bm_up_ne (bm_nea (by decide))]; exact hc2
  replace hc5 : M39 (m + 2) = some (.inl (ct 0, 4, .inl (fun _ => 0))) := by rw [eM39, bm_up_ne (bm_nea (by decide))]; exact hc5
  replace hc10 : M39 (m + 3) = some (.inl (ct 0, 4, .inl (fun _ => 0))) := by rw [eM39, bm_up_ne (bm_nea (by decide))]; exact hc10
  replace hc13 : M39 (m + 4) = some (.inl (ct 0, 32, .inl (fun _ => 0))) := by rw [eM39, bm_up_ne (bm_nea (by decide))]; exact hc13
  replace hc16 : M39 (m + 5) = some (.inl (ct 1, 32, .inr (.inl (fun _ => 0)))) := by rw [eM39, bm_up_ne (bm_nea (by decide))]; exact hc16
  replace hc19 : M39 (m + 6) = some (.inl (ct 1, 32, .inr (.inl (fun _ => 0)))) := by rw [eM39, bm_up_ne (bm_nea (by decide))]; exact hc19
  replace hc22 : M39 (m + 7) = some (.inl (ct 2, 32, .inl (fun _ => 0))) := by rw [eM39, bm_up_ne (bm_nea (by decide))]; exact hc22
  replace hc25 : M39 (m + 8) = some (.inl (ct 1, 512, .inr (.inl (fun _ => 0)))) := by rw [eM39, bm_up_ne (bm_nea (by decide))]; exact hc25
  replace hc28 : M39 (m + 9) = some (.inl (ct 1, 320, .inr (.inl (fun _ => 0)))) := by rw [eM39, bm_up_ne (bm_nea (by decide))]; exact hc28
  replace hc31 : M39 (m + 10) = some (.inl (ct 1, 5200, .inr (.inl (fun _ => 0)))) := by rw [eM39, bm_up_ne (bm_nea (by decide))]; exact hc31
  replace hc34 : M39 (m + 11) = some (.inl (ct 1, 6, .inr (.inl (fun _ => 0)))) := by rw [eM39, bm_up_ne (bm_nea (by decide))]; exact hc34
  replace hc37 : M39 (m + 12) = some (.inl (ct 1, 6, .inr (.inl (fun _ => 0)))) := by rw [eM39, bm_up_ne (bm_nea (by decide))]; exact hc37
  have hc40 : M39 (m + 13) = some (.inl (ct 1, 6, .inr (.inl (fun _ => 0)))) := by rw [eM39]; exact bm_up_self _ _ _
  replace hF : ∀ a, a < m → M39 a = M a := fun a ha => by rw [eM39]; exact (bm_up_ne (bm_lnea ha)).trans (hF a ha)
  clear eM39 hz1
  refine bm_putF (ci := 7) (v := .ref (m + 13)) (ty := (.array .long)) (C := "BlindMintModel") (T := bt_M) (N := 22) hx hb hts bu_M by_M bo_M bn_M hown hK hM hS hm rfl 17 (by decide) (hts _ bw_619) (fun _ h9 => h9) rfl hnm rfl (by decide +kernel) rfl rfl (Nat.le_of_ble_eq_true rfl) dM_init_117 (fun H locs hz1 hM hS => ?_)
  replace hz := hz1.trans hz
  replace hM : bm_M D base (bm_up M39 m (.inr (7, [.int 0, .ref (m + 1), .ref (m + 2), .int (-1), .long (-1), .ref (m + 3), .ref (m + 4), .ref (m + 5), .ref (m + 6), .ref (m + 7), .ref (m + 8), .int 0, .ref (m + 9), .int 0, .ref (m + 10), .ref (m + 11), .ref (m + 12), .ref (m + 13), .null, .null, .null, .null]))) H := hM
  obtain ⟨M41, eM41⟩ : ∃ X, X = bm_up M39 m (.inr (7, [.int 0, .ref (m + 1), .ref (m + 2), .int (-1), .long (-1), .ref (m + 3), .ref (m + 4), .ref (m + 5), .ref (m + 6), .ref (m + 7), .ref (m + 8), .int 0, .ref (m + 9), .int 0, .ref (m + 10), .ref (m + 11), .ref (m + 12), .ref (m + 13), .null, .null, .null, .null])) := ⟨_, rfl⟩
  rw [← eM41] at hM
  replace hc2 : M41 (m + 1) = some (.inl (ct 0, 4, .inl (fun _ => 0))) := by rw [eM41, bm_up_ne (bm_ne1 (k := 0))]; exact hc2
  replace hc5 : M41 (m + 2) = some (.inl (ct 0, 4, .inl (fun _ => 0))) := by rw [eM41, bm_up_ne (bm_ne1 (k := 1))]; exact hc5
  replace hc10 : M41 (m + 3) = some (.inl (ct 0, 4, .inl (fun _ => 0))) := by rw [eM41, bm_up_ne (bm_ne1 (k := 2))]; exact hc10
  replace hc13 : M41 (m + 4) = some (.inl (ct 0, 32, .inl (fun _ => 0))) := by rw [eM41, bm_up_ne (bm_ne1 (k := 3))]; exact hc13
  replace hc16 : M41 (m + 5) = some (.inl (ct 1, 32, .inr (.inl (fun _ => 0)))) := by rw [eM41, bm_up_ne (bm_ne1 (k := 4))]; exact hc16
  replace hc19 : M41 (m + 6) = some (.inl (ct 1, 32, .inr (.inl (fun _ => 0)))) := by rw [eM41, bm_up_ne (bm_ne1 (k := 5))]; exact hc19
  replace hc22 : M41 (m + 7) = some (.inl (ct 2, 32, .inl (fun _ => 0))) := by rw [eM41, bm_up_ne (bm_ne1 (k := 6))]; exact hc22
  replace hc25 : M41 (m + 8) = some (.inl (ct 1, 512, .inr (.inl (fun _ => 0)))) := by rw [eM41, bm_up_ne (bm_ne1 (k := 7))]; exact hc25
  replace hc28 : M41 (m + 9) = some (.inl (ct 1, 320, .inr (.inl (fun _ => 0)))) := by rw [eM41, bm_up_ne (bm_ne1 (k := 8))]; exact hc28
  replace hc31 : M41 (m + 10) = some (.inl (ct 1, 5200, .inr (.inl (fun _ => 0)))) := by rw [eM41, bm_up_ne (bm_ne1 (k := 9))]; exact hc31
  replace hc34 : M41 (m + 11) = some (.inl (ct 1, 6, .inr (.inl (fun _ => 0)))) := by rw [eM41, bm_up_ne (bm_ne1 (k := 10))]; exact hc34
  replace hc37 : M41 (m + 12) = some (.inl (ct 1, 6, .inr (.inl (fun _ => 0)))) := by rw [eM41, bm_up_ne (bm_ne1 (k := 11))]; exact hc37
  replace hc40 : M41 (m + 13) = some (.inl (ct 1, 6, .inr (.inl (fun _ => 0)))) := by rw [eM41, bm_up_ne (bm_ne1 (k := 12))]; exact hc40
  replace hm : M41 m = some (.inr (7, [.int 0, .ref (m + 1), .ref (m + 2), .int (-1), .long (-1), .ref (m + 3), .ref (m + 4), .ref (m + 5), .ref (m + 6), .ref (m + 7), .ref (m + 8), .int 0, .ref (m + 9), .int 0, .ref (m + 10), .ref (m + 11), .ref (m + 12), .ref (m + 13), .null, .null, .null, .null])) := by rw [eM41]; exact bm_up_self _ _ _
  replace hF : ∀ a, a < m → M41 a = M a := fun a ha => by rw [eM41]; exact (bm_up_ne (bm_lne0 ha)).trans (hF a ha)
  clear eM41
  refine lv_aload_n hx hb dM_init_120 rfl (lv_at hl 0 rfl) ?_
  refine lv_bipush (v := 6) hx hb dM_init_121 (by decide) ?_
  refine bm_newaz (atype := .long) (a0 := (6, .inr (.inl (fun _ => 0)))) hz hx hb (hts _ bw_108) (ty := .long) rfl hK hM hS (Nat.le_trans hG.2.1 hS.1) 1 rfl (fun C h => by cases h) (bm_aL 6) (by decide) (by decide) (Nat.le_of_ble_eq_true rfl) (by rw [← hR]; exact Nat.le_of_ble_eq_true rfl) (by rw [← hR]; exact Nat.le_of_ble_eq_true rfl) dM_init_123 (fun H hz1 hM hS => ?_)
  replace hz : H.size = m + 15 := hz1
  obtain ⟨M42, eM42⟩ : ∃ X, X = bm_up M41 (m + 14) (.inl (ct 1, 6, .inr (.inl (fun _ => 0)))) := ⟨_, rfl⟩
  replace hM : bm_M D base M42 H := by rw [eM42]; exact hM
  replace hm : M42 m = some (.inr (7, [.int 0, .ref (m + 1), .ref (m + 2), .int (-1), .long (-1), .ref (m + 3), .ref (m + 4), .ref (m + 5), .ref (m + 6), .ref (m + 7), .ref (m + 8), .int 0, .ref (m + 9), .int 0, .ref (m + 10), .ref (m + 11), .ref (m + 12), .ref (m + 13), .null, .null, .null, .null])) := by rw [eM42, bm_up_ne (bm_ne0 (k := 13))]; exact hm
  replace hc2 : M42 (m + 1) = some (.inl (ct 0, 4, .inl (fun _ => 0))) := by rw [eM42, bm_up_ne (bm_nea (by decide))]; exact hc2
  replace hc5 : M42 (m + 2) = some (.inl (ct 0, 4, .inl (fun _ => 0))) := by rw [eM42, bm_up_ne (bm_nea (by decide))]; exact hc5
  replace hc10 : M42 (m + 3) = some (.inl (ct 0, 4, .inl (fun _ => 0))) := by rw [eM42, bm_up_ne (bm_nea (by decide))]; exact hc10
  replace hc13 : M42 (m + 4) = some (.inl (ct 0, 32, .inl (fun _ => 0))) := by rw [eM42, bm_up_ne (bm_nea (by decide))]; exact hc13
  replace hc16 : M42 (m + 5) = some (.inl (ct 1, 32, .inr (.inl (fun _ => 0)))) := by rw [eM42, bm_up_ne (bm_nea (by decide))]; exact hc16
  replace hc19 : M42 (m + 6) = some (.inl (ct 1, 32, .inr (.inl (fun _ => 0)))) := by rw [eM42, bm_up_ne (bm_nea (by decide))]; exact hc19
  replace hc22 : M42 (m + 7) = some (.inl (ct 2, 32, .inl (fun _ => 0))) := by rw [eM42, bm_up_ne (bm_nea (by decide))]; exact hc22
  replace hc25 : M42 (m + 8) = some (.inl (ct 1, 512, .inr (.inl (fun _ => 0)))) := by rw [eM42, bm_up_ne (bm_nea (by decide))]; exact hc25
  replace hc28 : M42 (m + 9) = some (.inl (ct 1, 320, .inr (.inl (fun _ => 0)))) := by rw [eM42, bm_up_ne (bm_nea (by decide))]; exact hc28
  replace hc31 : M42 (m + 10) = some (.inl (ct 1, 5200, .inr (.inl (fun _ => 0)))) := by rw [eM42, bm_up_ne (bm_nea (by decide))]; exact hc31
  replace hc34 : M42 (m + 11) = some (.inl (ct 1, 6, .inr (.inl (fun _ => 0)))) := by rw [eM42, bm_up_ne (bm_nea (by decide))]; exact hc34
  replace hc37 : M42 (m + 12) = some (.inl (ct 1, 6, .inr (.inl (fun _ => 0)))) := by rw [eM42, bm_up_ne (bm_nea (by decide))]; exact hc37
  replace hc40 : M42 (m + 13) = some (.inl (ct 1, 6, .inr (.inl (fun _ => 0)))) := by rw [eM42, bm_up_ne (bm_nea (by decide))]; exact hc40
  have hc43 : M42 (m + 14) = some (.inl (ct 1, 6, .inr (.inl (fun _ => 0)))) := by rw [eM42]; exact bm_up_self _ _ _
  replace hF : ∀ a, a < m → M42 a = M a := fun a ha => by rw [eM42]; exact (bm_up_ne (bm_lnea ha)).trans (hF a ha)
  clear eM42 hz1
  refine bm_putF (ci := 7) (v := .ref (m + 14)) (ty := (.array .long)) (C := "BlindMintModel") (T := bt_M) (N := 22) hx hb hts bu_M by_M bo_M bn_M hown hK hM hS hm rfl 18 (by decide) (hts _ bw_620) (fun _ h9 => h9) rfl hnm rfl (by decide +kernel) rfl rfl (Nat.le_of_ble_eq_true rfl) dM_init_125 (fun H locs hz1 hM hS => ?_)
  replace hz := hz1.trans hz
  replace hM : bm_M D base (bm_up M42 m (.inr (7, [.int 0, .ref (m + 1), .ref (m + 2), .int (-1), .long (-1), .ref (m + 3), .ref (m + 4), .ref (m + 5), .ref (m + 6), .ref (m + 7), .ref (m + 8), .int 0, .ref (m + 9), .int 0, .ref (m + 10), .ref (m + 11), .ref (m + 12), .ref (m + 13), .ref (m + 14), .null, .null, .null]))) H := hM
  obtain ⟨M44, eM44⟩ : ∃ X, X = bm_up M42 m (.inr (7, [.int 0, .ref (m + 1), .ref (m + 2), .int (-1), .long (-1), .ref (m + 3), .ref (m + 4), .ref (m + 5), .ref (m + 6), .ref (m + 7), .ref (m + 8), .int 0, .ref (m + 9), .int 0, .ref (m + 10), .ref (m + 11), .ref (m + 12), .ref (m + 13), .ref (m + 14), .null, .null, .null])) := ⟨_, rfl⟩
  rw [← eM44] at hM
  replace hc2 : M44 (m + 1) = some (.inl (ct 0, 4, .inl (fun _ => 0))) := by rw [eM44, bm_up_ne (bm_ne1 (k := 0))]; exact hc2
  replace hc5 : M44 (m + 2) = some (.inl (ct 0, 4, .inl (fun _ => 0))) := by rw [eM44, bm_up_ne (bm_ne1 (k := 1))]; exact hc5
  replace hc10 : M44 (m + 3) = some (.inl (ct 0, 4, .inl (fun _ => 0))) := by rw [eM44, bm_up_ne (bm_ne1 (k := 2))]; exact hc10
  replace hc13 : M44 (m + 4) = some (.inl (ct 0, 32, .inl (fun _ => 0))) := by rw [eM44, bm_up_ne (bm_ne1 (k := 3))]; exact hc13
  replace hc16 : M44 (m + 5) = some (.inl (ct 1, 32, .inr (.inl (fun _ => 0)))) := by rw [eM44, bm_up_ne (bm_ne1 (k := 4))]; exact hc16
  replace hc19 : M44 (m + 6) = some (.inl (ct 1, 32, .inr (.inl (fun _ => 0)))) := by rw [eM44, bm_up_ne (bm_ne1 (k := 5))]; exact hc19
  replace hc22 : M44 (m + 7) = some (.inl (ct 2, 32, .inl (fun _ => 0))) := by rw [eM44, bm_up_ne (bm_ne1 (k := 6))]; exact hc22
  replace hc25 : M44 (m + 8) = some (.inl (ct 1, 512, .inr (.inl (fun _ => 0)))) := by rw [eM44, bm_up_ne (bm_ne1 (k := 7))]; exact hc25
  replace hc28 : M44 (m + 9) = some (.inl (ct 1, 320, .inr (.inl (fun _ => 0)))) := by rw [eM44, bm_up_ne (bm_ne1 (k := 8))]; exact hc28
  replace hc31 : M44 (m + 10) = some (.inl (ct 1, 5200, .inr (.inl (fun _ => 0)))) := by rw [eM44, bm_up_ne (bm_ne1 (k := 9))]; exact hc31
  replace hc34 : M44 (m + 11) = some (.inl (ct 1, 6, .inr (.inl (fun _ => 0)))) := by rw [eM44, bm_up_ne (bm_ne1 (k := 10))]; exact hc34
  replace hc37 : M44 (m + 12) = some (.inl (ct 1, 6, .inr (.inl (fun _ => 0)))) := by rw [eM44, bm_up_ne (bm_ne1 (k := 11))]; exact hc37
  replace hc40 : M44 (m + 13) = some (.inl (ct 1, 6, .inr (.inl (fun _ => 0)))) := by rw [eM44, bm_up_ne (bm_ne1 (k := 12))]; exact hc40
  replace hc43 : M44 (m + 14) = some (.inl (ct 1, 6, .inr (.inl (fun _ => 0)))) := by rw [eM44, bm_up_ne (bm_ne1 (k := 13))]; exact hc43
  replace hm : M44 m = some (.inr (7, [.int 0, .ref (m + 1), .ref (m + 2), .int (-1), .long (-1), .ref (m + 3), .ref (m + 4), .ref (m + 5), .ref (m + 6), .ref (m + 7), .ref (m + 8), .int 0, .ref (m + 9), .int 0, .ref (m + 10), .ref (m + 11), .ref (m + 12), .ref (m + 13), .ref (m + 14), .null, .null, .null])) := by rw [eM44]; exact bm_up_self _ _ _
  replace hF : ∀ a, a < m → M44 a = M a := fun a ha => by rw [eM44]; exact (bm_up_ne (bm_lne0 ha)).trans (hF a ha)
  clear eM44
  refine lv_aload_n hx hb dM_init_128 rfl (lv_at hl 0 rfl) ?_
  refine lv_bipush (v := 6) hx hb dM_init_129 (by decide) ?_
  refine bm_newaz (atype := .long) (a0 := (6, .inr (.inl (fun _ => 0)))) hz hx hb (hts _ bw_108) (ty := .long) rfl hK hM hS (Nat.le_trans hG.2.1 hS.1) 1 rfl (fun C h => by cases h) (bm_aL 6) (by decide) (by decide) (Nat.le_of_ble_eq_true rfl) (by rw [← hR]; exact Nat.le_of_ble_eq_true rfl) (by rw [← hR]; exact Nat.le_of_ble_eq_true rfl) dM_init_131 (fun H hz1 hM hS => ?_)
  replace hz : H.size = m + 16 := hz1
  obtain ⟨M45, eM45⟩ : ∃ X, X = bm_up M44 (m + 15) (.inl (ct 1, 6, .inr (.inl (fun _ => 0)))) := ⟨_, rfl⟩
  replace hM : bm_M D base M45 H := by rw [eM45]; exact hM
  replace hm : M45 m = some (.inr (7, [.int 0, .ref (m + 1), .ref (m + 2), .int (-1), .long (-1), .ref (m + 3), .ref (m + 4), .ref (m + 5), .ref (m + 6), .ref (m + 7), .ref (m + 8), .int 0, .ref (m + 9), .int 0, .ref (m + 10), .ref (m + 11), .ref (m + 12), .ref (m + 13), .ref (m + 14), .null, .null, .null])) := by rw [eM45, bm_up_ne (bm_ne0 (k := 14))]; exact hm
  replace hc2 : M45 (m + 1) = some (.inl (ct 0, 4, .inl (fun _ => 0))) := by rw [eM45, bm_up_ne (bm_nea (by decide))]; exact hc2
  replace hc5 : M45 (m + 2) = some (.inl (ct 0, 4, .inl (fun _ => 0))) := by rw [eM45, bm_up_ne (bm_nea (by decide))]; exact hc5
  replace hc10 : M45 (m + 3) = some (.inl (ct 0, 4, .inl (fun _ => 0))) := by rw [eM45, bm_up_ne (bm_nea (by decide))]; exact hc10
  replace hc13 : M45 (m + 4) = some (.inl (ct 0, 32, .inl (fun _ => 0))) := by rw [eM45, bm_up_ne (bm_nea (by decide))]; exact hc13
  replace hc16 : M45 (m + 5) = some (.inl (ct 1, 32, .inr (.inl (fun _ => 0)))) := by rw [eM45, bm_up_ne (bm_nea (by decide))]; exact hc16
  replace hc19 : M45 (m + 6) = some (.inl (ct 1, 32, .inr (.inl (fun _ => 0)))) := by rw [eM45, bm_up_ne (bm_nea (by decide))]; exact hc19
  replace hc22 : M45 (m + 7) = some (.inl (ct 2, 32, .inl (fun _ => 0))) := by rw [eM45, bm_up_ne (bm_nea (by decide))]; exact hc22
  replace hc25 : M45 (m + 8) = some (.inl (ct 1, 512, .inr (.inl (fun _ => 0)))) := by rw [eM45, bm_up_ne (bm_nea (by decide))]; exact hc25
  replace hc28 : M45 (m + 9) = some (.inl (ct 1, 320, .inr (.inl (fun _ => 0)))) := by rw [eM45, bm_up_ne (bm_nea (by decide))]; exact hc28
  replace hc31 : M45 (m + 10) = some (.inl (ct 1, 5200, .inr (.inl (fun _ => 0)))) := by rw [eM45, bm_up_ne (bm_nea (by decide))]; exact hc31
  replace hc34 : M45 (m + 11) = some (.inl (ct 1, 6, .inr (.inl (fun _ => 0)))) := by rw [eM45, bm_up_ne (bm_nea (by decide))]; exact hc34
  replace hc37 : M45 (m + 12) = some (.inl (ct 1, 6, .inr (.inl (fun _ => 0)))) := by rw [eM45, bm_up_ne (bm_nea (by decide))]; exact hc37
  replace hc40 : M45 (m + 13) = some (.inl (ct 1, 6, .inr (.inl (fun _ => 0)))) := by rw [eM45, bm_up_ne (bm_nea (by decide))]; exact hc40
  replace hc43 : M45 (m + 14) = some (.inl (ct 1, 6, .inr (.inl (fun _ => 0)))) := by rw [eM45, bm_up_ne (bm_nea (by decide))]; exact hc43
  have hc46 : M45 (m + 15) = some (.inl (ct 1, 6, .inr (.inl (fun _ => 0)))) := by rw [eM45]; exact bm_up_self _ _ _
  replace hF : ∀ a, a < m → M45 a = M a := fun a ha => by rw [eM45]; exact (bm_up_ne (bm_lnea ha)).trans (hF a ha)
  clear eM45 hz1
  refine bm_putF (ci := 7) (v := .ref (m + 15)) (ty := (.array .long)) (C := "BlindMintModel") (T := bt_M) (N := 22) hx hb hts bu_M by_M bo_M bn_M hown hK hM hS hm rfl 19 (by decide) (hts _ bw_621) (fun _ h9 => h9) rfl hnm rfl (by decide +kernel) rfl rfl (Nat.le_of_ble_eq_true rfl) dM_init_133 (fun H locs hz1 hM hS => ?_)
  replace hz := hz1.trans hz
  replace hM : bm_M D base (bm_up M45 m (.inr (7, [.int 0, .ref (m + 1), .ref (m + 2), .int (-1), .long (-1), .ref (m + 3), .ref (m + 4), .ref (m + 5), .ref (m + 6), .ref (m + 7), .ref (m + 8), .int 0, .ref (m + 9), .int 0, .ref (m + 10), .ref (m + 11), .ref (m + 12), .ref (m + 13), .ref (m + 14), .ref (m + 15), .null, .null]))) H := hM
  obtain ⟨M47, eM47⟩ : ∃ X, X = bm_up M45 m (.inr (7, [.int 0, .ref (m + 1), .ref (m + 2), .int (-1), .long (-1), .ref (m + 3), .ref (m + 4), .ref (m + 5), .ref (m + 6), .ref (m + 7), .ref (m + 8), .int 0, .ref (m + 9), .int 0, .ref (m + 10), .ref (m + 11), .ref (m + 12), .ref (m + 13), .ref (m + 14), .ref (m + 15), .null, .null])) := ⟨_, rfl⟩
  rw [← eM47] at hM
  replace hc2 : M47 (m + 1) = some (.inl (ct 0, 4, .inl (fun _ => 0))) := by rw [eM47, bm_up_ne (bm_ne1 (k := 0))]; exact hc2
  replace hc5 : M47 (m + 2) = some (.inl (ct 0, 4, .inl (fun _ => 0))) := by rw [eM47, bm_up_ne (bm_ne1 (k := 1))]; exact hc5
  replace hc10 : M47 (m + 3) = some (.inl (ct 0, 4, .inl (fun _ => 0))) := by rw [eM47, bm_up_ne (bm_ne1 (k := 2))]; exact hc10
  replace hc13 : M47 (m + 4) = some (.inl (ct 0, 32, .inl (fun _ => 0))) := by rw [eM47, bm_up_ne (bm_ne1 (k := 3))]; exact hc13
  replace hc16 : M47 (m + 5) = some (.inl (ct 1, 32, .inr (.inl (fun _ => 0)))) := by rw [eM47, bm_up_ne (bm_ne1 (k := 4))]; exact hc16
  replace hc19 : M47 (m + 6) = some (.inl (ct 1, 32, .inr (.inl (fun _ => 0)))) := by rw [eM47, bm_up_ne (bm_ne1 (k := 5))]; exact hc19
  replace hc22 : M47 (m + 7) = some (.inl (ct 2, 32, .inl (fun _ => 0))) := by rw [eM47, bm_up_ne (bm_ne1 (k := 6))]; exact hc22
  replace hc25 : M47 (m + 8) = some (.inl (ct 1, 512, .inr (.inl (fun _ => 0)))) := by rw [eM47, bm_up_ne (bm_ne1 (k := 7))]; exact hc25
  replace hc28 : M47 (m + 9) = some (.inl (ct 1, 320, .inr (.inl (fun _ => 0)))) := by rw [eM47, bm_up_ne (bm_ne1 (k := 8))]; exact hc28
  replace hc31 : M47 (m + 10) = some (.inl (ct 1, 5200, .inr (.inl (fun _ => 0)))) := by rw [eM47, bm_up_ne (bm_ne1 (k := 9))]; exact hc31
  replace hc34 : M47 (m + 11) = some (.inl (ct 1, 6, .inr (.inl (fun _ => 0)))) := by rw [eM47, bm_up_ne (bm_ne1 (k := 10))]; exact hc34
  replace hc37 : M47 (m + 12) = some (.inl (ct 1, 6, .inr (.inl (fun _ => 0)))) := by rw [eM47, bm_up_ne (bm_ne1 (k := 11))]; exact hc37
  replace hc40 : M47 (m + 13) = some (.inl (ct 1, 6, .inr (.inl (fun _ => 0)))) := by rw [eM47, bm_up_ne (bm_ne1 (k := 12))]; exact hc40
  replace hc43 : M47 (m + 14) = some (.inl (ct 1, 6, .inr (.inl (fun _ => 0)))) := by rw [eM47, bm_up_ne (bm_ne1 (k := 13))]; exact hc43
  replace hc46 : M47 (m + 15) = some (.inl (ct 1, 6, .inr (.inl (fun _ => 0)))) := by rw [eM47, bm_up_ne (bm_ne1 (k := 14))]; exact hc46
  replace hm : M47 m = some (.inr (7, [.int 0, .ref (m + 1), .ref (m + 2), .int (-1), .long (-1), .ref (m + 3), .ref (m + 4), .ref (m + 5), .ref (m + 6), .ref (m + 7), .ref (m + 8), .int 0, .ref (m + 9), .int 0, .ref (m + 10), .ref (m + 11), .ref (m + 12), .ref (m + 13), .ref (m + 14), .ref (m + 15), .null, .null])) := by rw [eM47]; exact bm_up_self _ _ _
  replace hF : ∀ a, a < m → M47 a = M a := fun a ha => by rw [eM47]; exact (bm_up_ne (bm_lne0 ha)).trans (hF a ha)
  clear eM47
  refine lv_aload_n hx hb dM_init_136 rfl (lv_at hl 0 rfl) ?_
  refine lv_bipush (v := 6) hx hb dM_init_137 (by decide) ?_
  refine bm_newaz (atype := .boolean) (a0 := (6, .inl (fun _ => 0))) hz hx hb (hts _ bw_670) (ty := .boolean) rfl hK hM hS (Nat.le_trans hG.2.1 hS.1) 2 rfl (fun C h => by cases h) (bm_aZ 6) (by decide) (by decide) (Nat.le_of_ble_eq_true rfl) (by rw [← hR]; exact Nat.le_of_ble_eq_true rfl) (by rw [← hR]; exact Nat.le_of_ble_eq_true rfl) dM_init_139 (fun H hz1 hM hS => ?_)
  replace hz : H.size = m + 17 := hz1
  obtain ⟨M48, eM48⟩ : ∃ X, X = bm_up M47 (m + 16) (.inl (ct 2, 6, .inl (fun _ => 0))) := ⟨_, rfl⟩
  replace hM : bm_M D base M48 H := by rw [eM48]; exact hM
  replace hm : M48 m = some (.inr (7, [.int 0, .ref (m + 1), .ref (m + 2), .int (-1), .long (-1), .ref (m + 3), .ref (m + 4), .ref (m + 5), .ref (m + 6), .ref (m + 7), .ref (m + 8), .int 0, .ref (m + 9), .int 0, .ref (m + 10), .ref (m + 11), .ref (m + 12), .ref (m + 13), .ref (m + 14), .ref (m + 15), .null, .null])) := by rw [eM48, bm_up_ne (bm_ne0 (k := 15))]; exact hm
  replace hc2 : M48 (m + 1) = some (.inl (ct 0, 4, .inl (fun _ => 0))) := by rw [eM48, bm_up_ne (bm_nea (by decide))]; exact hc2
  replace hc5 : M48 (m + 2) = some (.inl (ct 0, 4, .inl (fun _ => 0))) := by rw [eM48, bm_up_ne (bm_nea (by decide))]; exact hc5
  replace hc10 : M48 (m + 3) = some (.inl (ct 0, 4, .inl (fun _ => 0))) := by rw [eM48, bm_up_ne (bm_nea (by decide))]; exact hc10
  replace hc13 : M48 (m + 4) = some (.inl (ct 0, 32, .inl (fun _ => 0))) := by rw [eM48, bm_up_ne (bm_nea (by decide))]; exact hc13
  replace hc16 : M48 (m + 5) = some (.inl (ct 1, 32, .inr (.inl (fun _ => 0)))) := by rw [eM48, bm_up_ne (bm_nea (by decide))]; exact hc16
  replace hc19 : M48 (m + 6) = some (.inl (ct 1, 32, .inr (.inl (fun _ => 0)))) := by rw [eM48, bm_up_ne (bm_nea (by decide))]; exact hc19
  replace hc22 : M48 (m + 7) = some (.inl (ct 2, 32, .inl (fun _ => 0))) := by rw [eM48, bm_up_ne (bm_nea (by decide))]; exact hc22
  replace hc25 : M48 (m + 8) = some (.inl (ct 1, 512, .inr (.inl (fun _ => 0)))) := by rw [eM48, bm_up_ne (bm_nea (by decide))]; exact hc25
  replace hc28 : M48 (m + 9) = some (.inl (ct 1, 320, .inr (.inl (fun _ => 0)))) := by rw [eM48, bm_up_ne (bm_nea (by decide))]; exact hc28
  replace hc31 : M48 (m + 10) = some (.inl (ct 1, 5200, .inr (.inl (fun _ => 0)))) := by rw [eM48, bm_up_ne (bm_nea (by decide))]; exact hc31
  replace hc34 : M48 (m + 11) = some (.inl (ct 1, 6, .inr (.inl (fun _ => 0)))) := by rw [eM48, bm_up_ne (bm_nea (by decide))]; exact hc34
  replace hc37 : M48 (m + 12) = some (.inl (ct 1, 6, .inr (.inl (fun _ => 0)))) := by rw [eM48, bm_up_ne (bm_nea (by decide))]; exact hc37
  replace hc40 : M48 (m + 13) = some (.inl (ct 1, 6, .inr (.inl (fun _ => 0)))) := by rw [eM48, bm_up_ne (bm_nea (by decide))]; exact hc40
  replace hc43 : M48 (m + 14) = some (.inl (ct 1, 6, .inr (.inl (fun _ => 0)))) := by rw [eM48, bm_up_ne (bm_nea (by decide))]; exact hc43
  replace hc46 : M48 (m + 15) = some (.inl (ct 1, 6, .inr (.inl (fun _ => 0)))) := by rw [eM48, bm_up_ne (bm_nea (by decide))]; exact hc46
  have hc49 : M48 (m + 16) = some (.inl (ct 2, 6, .inl (fun _ => 0))) := by rw [eM48]; exact bm_up_self _ _ _
  replace hF : ∀ a, a < m → M48 a = M a := fun a ha => by rw [eM48]; exact (bm_up_ne (bm_lnea ha)).trans (hF a ha)
  clear eM48 hz1
  refine bm_putF (ci := 7) (v := .ref (m + 16)) (ty := (.array .boolean)) (C := "BlindMintModel") (T := bt_M) (N := 22) hx hb hts bu_M by_M bo_M bn_M hown hK hM hS hm rfl 20 (by decide) (hts _ bw_622) (fun _ h9 => h9) rfl hnm rfl (by decide +kernel) rfl rfl (Nat.le_of_ble_eq_true rfl) dM_init_141 (fun H locs hz1 hM hS => ?_)
  replace hz := hz1.trans hz
  replace hM : bm_M D base (bm_up M48 m (.inr (7, [.int 0, .ref (m + 1), .ref (m + 2), .int (-1), .long (-1), .ref (m + 3), .ref (m + 4), .ref (m + 5), .ref (m + 6), .ref (m + 7), .ref (m + 8), .int 0, .ref (m + 9), .int 0, .ref (m + 10), .ref (m + 11), .ref (m + 12), .ref (m + 13), .ref (m + 14), .ref (m + 15), .ref (m + 16), .null]))) H := hM
  obtain ⟨M50, eM50⟩ : ∃ X, X = bm_up M48 m (.inr (7, [.int 0, .ref (m + 1), .ref (m + 2), .int (-1), .long (-1), .ref (m + 3), .ref (m + 4), .ref (m + 5), .ref (m + 6), .ref (m + 7), .ref (m + 8), .int 0, .ref (m + 9), .int 0, .ref (m + 10), .ref (m + 11), .ref (m + 12), .ref (m + 13), .ref (m + 14), .ref (m + 15), .ref (m + 16), .null])) := ⟨_, rfl⟩
  rw [← eM50] at hM
  replace hc2 : M50 (m + 1) = some (.inl (ct 0, 4, .inl (fun _ => 0))) := by rw [eM50, bm_up_ne (bm_ne1 (k := 0))]; exact hc2
  replace hc5 : M50 (m + 2) = some (.inl (ct 0, 4, .inl (fun _ => 0))) := by rw [eM50, bm_up_ne (bm_ne1 (k := 1))]; exact hc5
  replace hc10 : M50 (m + 3) = some (.inl (ct 0, 4, .inl (fun _ => 0))) := by rw [eM50, bm_up_ne (bm_ne1 (k := 2))]; exact hc10
  replace hc13 : M50 (m + 4) = some (.inl (ct 0, 32, .inl (fun _ => 0))) := by rw [eM50, bm_up_ne (bm_ne1 (k := 3))]; exact hc13
  replace hc16 : M50 (m + 5) = some (.inl (ct 1, 32, .inr (.inl (fun _ => 0)))) := by rw [eM50, bm_up_ne (bm_ne1 (k := 4))]; exact hc16
  replace hc19 : M50 (m + 6) = some (.inl (ct 1, 32, .inr (.inl (fun _ => 0)))) := by rw [eM50, bm_up_ne (bm_ne1 (k := 5))]; exact hc19
  replace hc22 : M50 (m + 7) = some (.inl (ct 2, 32, .inl (fun _ => 0))) := by rw [eM50, bm_up_ne (bm_ne1 (k := 6))]; exact hc22
  replace hc25 : M50 (m + 8) = some (.inl (ct 1, 512, .inr (.inl (fun _ => 0)))) := by rw [eM50, bm_up_ne (bm_ne1 (k := 7))]; exact hc25
  replace hc28 : M50 (m + 9) = some (.inl (ct 1, 320, .inr (.inl (fun _ => 0)))) := by rw [eM50, bm_up_ne (bm_ne1 (k := 8))]; exact hc28
  replace hc31 : M50 (m + 10) = some (.inl (ct 1, 5200, .inr (.inl (fun _ => 0)))) := by rw [eM50, bm_up_ne (bm_ne1 (k := 9))]; exact hc31
  replace hc34 : M50 (m + 11) = some (.inl (ct 1, 6, .inr (.inl (fun _ => 0)))) := by rw [eM50, bm_up_ne (bm_ne1 (k := 10))]; exact hc34
  replace hc37 : M50 (m + 12) = some (.inl (ct 1, 6, .inr (.inl (fun _ => 0)))) := by rw [eM50, bm_up_ne (bm_ne1 (k := 11))]; exact hc37
  replace hc40 : M50 (m + 13) = some (.inl (ct 1, 6, .inr (.inl (fun _ => 0)))) := by rw [eM50, bm_up_ne (bm_ne1 (k := 12))]; exact hc40
  replace hc43 : M50 (m + 14) = some (.inl (ct 1, 6, .inr (.inl (fun _ => 0)))) := by rw [eM50, bm_up_ne (bm_ne1 (k := 13))]; exact hc43
  replace hc46 : M50 (m + 15) = some (.inl (ct 1, 6, .inr (.inl (fun _ => 0)))) := by rw [eM50, bm_up_ne (bm_ne1 (k := 14))]; exact hc46
  replace hc49 : M50 (m + 16) = some (.inl (ct 2, 6, .inl (fun _ => 0))) := by rw [eM50, bm_up_ne (bm_ne1 (k := 15))]; exact hc49
  replace hm : M50 m = some (.inr (7, [.int 0, .ref (m + 1), .ref (m + 2), .int (-1), .long (-1), .ref (m + 3), .ref (m + 4), .ref (m + 5), .ref (m + 6), .ref (m + 7), .ref (m + 8), .int 0, .ref (m + 9), .int 0, .ref (m + 10), .ref (m + 11), .ref (m + 12), .ref (m + 13), .ref (m + 14), .ref (m + 15), .ref (m + 16), .null])) := by rw [eM50]; exact bm_up_self _ _ _
  replace hF : ∀ a, a < m → M50 a = M a := fun a ha => by rw [eM50]; exact (bm_up_ne (bm_lne0 ha)).trans (hF a ha)
  clear eM50
  refine lv_aload_n hx hb dM_init_144 rfl (lv_at hl 0 rfl) ?_
  refine lv_iconst (v := 4) hx hb dM_init_145 (by decide) ?_
  refine bm_newaz (atype := .long) (a0 := (4, .inr (.inl (fun _ => 0)))) hz hx hb (hts _ bw_108) (ty := .long) rfl hK hM hS (Nat.le_trans hG.2.1 hS.1) 1 rfl (fun C h => by cases h) (bm_aL 4) (by decide) (by decide) (Nat.le_of_ble_eq_true rfl) (by rw [← hR]; exact Nat.le_of_ble_eq_true rfl) (by rw [← hR]; exact Nat.le_of_ble_eq_true rfl) dM_init_146 (fun H hz1 hM hS => ?_)
  replace hz : H.size = m + 18 := hz1
  obtain ⟨M51, eM51⟩ : ∃ X, X = bm_up M50 (m + 17) (.inl (ct 1, 4, .inr (.inl (fun _ => 0)))) := ⟨_, rfl⟩
  replace hM : bm_M D base M51 H := by rw [eM51]; exact hM
  replace hm : M51 m = some (.inr (7, [.int 0, .ref (m + 1), .ref (m + 2), .int (-1), .long (-1), .ref (m + 3), .ref (m + 4), .ref (m + 5), .ref (m + 6), .ref (m + 7), .ref (m + 8), .int 0, .ref (m + 9), .int 0, .ref (m + 10), .ref (m + 11), .ref (m + 12), .ref (m + 13), .ref (m + 14), .ref (m + 15), .ref (m + 16), .null])) := by rw [eM51, bm_up_ne (bm_ne0 (k := 16))]; exact hm
  replace hc2 : M51 (m + 1) = some (.inl (ct 0, 4, .inl (fun _ => 0))) := by rw [eM51, bm_up_ne (bm_nea (by decide))]; exact hc2
  replace hc5 : M51 (m + 2) = some (.inl (ct 0, 4, .inl (fun _ => 0))) := by rw [eM51, bm_up_ne (bm_nea (by decide))]; exact hc5
  replace hc10 : M51 (m + 3) = some (.inl (ct 0, 4, .inl (fun _ => 0))) := by rw [eM51, bm_up_ne (bm_nea (by decide))]; exact hc10
  replace hc13 : M51 (m + 4) = some (.inl (ct 0, 32, .inl (fun _ => 0))) := by rw [eM51, bm_up_ne (bm_nea (by decide))]; exact hc13
  replace hc16 : M51 (m + 5) = some (.inl (ct 1, 32, .inr (.inl (fun _ => 0)))) := by rw [eM51, bm_up_ne (bm_nea (by decide))]; exact hc16
  replace hc19 : M51 (m + 6) = some (.inl (ct 1, 32, .inr (.inl (fun _ => 0)))) := by rw [eM51, bm_up_ne (bm_nea (by decide))]; exact hc19
  replace hc22 : M51 (m + 7) = some (.inl (ct 2, 32, .inl (fun _ => 0))) := by rw [eM51, bm_up_ne (bm_nea (by decide))]; exact hc22
  replace hc25 : M51 (m + 8) = some (.inl (ct 1, 512, .inr (.inl (fun _ => 0)))) := by rw [eM51, bm_up_ne (bm_nea (by decide))]; exact hc25
  replace hc28 : M51 (m + 9) = some (.inl (ct 1, 320, .inr (.inl (fun _ => 0)))) := by rw [eM51, bm_up_ne (bm_nea (by decide))]; exact hc28
  replace hc31 : M51 (m + 10) = some (.inl (ct 1, 5200, .inr (.inl (fun _ => 0)))) := by rw [eM51, bm_up_ne (bm_nea (by decide))]; exact hc31
  replace hc34 : M51 (m + 11) = some (.inl (ct 1, 6, .inr (.inl (fun _ => 0)))) := by rw [eM51, bm_up_ne (bm_nea (by decide))]; exact hc34
  replace hc37 : M51 (m + 12) = some (.inl (ct 1, 6, .inr (.inl (fun _ => 0)))) := by rw [eM51, bm_up_ne (bm_nea (by decide))]; exact hc37
  replace hc40 : M51 (m + 13) = some (.inl (ct 1, 6, .inr (.inl (fun _ => 0)))) := by rw [eM51, bm_up_ne (bm_nea (by decide))]; exact hc40
  replace hc43 : M51 (m + 14) = some (.inl (ct 1, 6, .inr (.inl (fun _ => 0)))) := by rw [eM51, bm_up_ne (bm_nea (by decide))]; exact hc43
  replace hc46 : M51 (m + 15) = some (.inl (ct 1, 6, .inr (.inl (fun _ => 0)))) := by rw [eM51, bm_up_ne (bm_nea (by decide))]; exact hc46
  replace hc49 : M51 (m + 16) = some (.inl (ct 2, 6, .inl (fun _ => 0))) := by rw [eM51, bm_up_ne (bm_nea (by decide))]; exact hc49
  have hc52 : M51 (m + 17) = some (.inl (ct 1, 4, .inr (.inl (fun _ => 0)))) := by rw [eM51]; exact bm_up_self _ _ _
  replace hF : ∀ a, a < m → M51 a = M a := fun a ha => by rw [eM51]; exact (bm_up_ne (bm_lnea ha)).trans (hF a ha)
  clear eM51 hz1
  refine bm_putF (ci := 7) (v := .ref (m + 17)) (ty := (.array .long)) (C := "BlindMintModel") (T := bt_M) (N := 22) hx hb hts bu_M by_M bo_M bn_M hown hK hM hS hm rfl 21 (by decide) (hts _ bw_623) (fun _ h9 => h9) rfl hnm rfl (by decide +kernel) rfl rfl (Nat.le_of_ble_eq_true rfl) dM_init_148 (fun H locs hz1 hM hS => ?_)
  replace hz := hz1.trans hz
  replace hM : bm_M D base (bm_up M51 m (.inr (7, [.int 0, .ref (m + 1), .ref (m + 2), .int (-1), .long (-1), .ref (m + 3), .ref (m + 4), .ref (m + 5), .ref (m + 6), .ref (m + 7), .ref (m + 8), .int 0, .ref (m + 9), .int 0, .ref (m + 10), .ref (m + 11), .ref (m + 12), .ref (m + 13), .ref (m + 14), .ref (m + 15), .ref (m + 16), .ref (m + 17)]))) H := hM
  obtain ⟨M53, eM53⟩ : ∃ X, X = bm_up M51 m (.inr (7, [.int 0, .ref (m + 1), .ref (m + 2), .int (-1), .long (-1), .ref (m + 3), .ref (m + 4), .ref (m + 5), .ref (m + 6), .ref (m + 7), .ref (m + 8), .int 0, .ref (m + 9), .int 0, .ref (m + 10), .ref (m + 11), .ref (m + 12), .ref (m + 13), .ref (m + 14), .ref (m + 15), .ref (m + 16), .ref (m + 17)])) := ⟨_, rfl⟩
  rw [← eM53] at hM
  replace hc2 : M53 (m + 1) = some (.inl (ct 0, 4, .inl (fun _ => 0))) := by rw [eM53, bm_up_ne (bm_ne1 (k := 0))]; exact hc2
  replace hc5 : M53 (m + 2) = some (.inl (ct 0, 4, .inl (fun _ => 0))) := by rw [eM53, bm_up_ne (bm_ne1 (k := 1))]; exact hc5
  replace hc10 : M53 (m + 3) = some (.inl (ct 0, 4, .inl (fun _ => 0))) := by rw [eM53, bm_up_ne (bm_ne1 (k := 2))]; exact hc10
  replace hc13 : M53 (m + 4) = some (.inl (ct 0, 32, .inl (fun _ => 0))) := by rw [eM53, bm_up_ne (bm_ne1 (k := 3))]; exact hc13
  replace hc16 : M53 (m + 5) = some (.inl (ct 1, 32, .inr (.inl (fun _ => 0)))) := by rw [eM53, bm_up_ne (bm_ne1 (k := 4))]; exact hc16
  replace hc19 : M53 (m + 6) = some (.inl (ct 1, 32, .inr (.inl (fun _ => 0)))) := by rw [eM53, bm_up_ne (bm_ne1 (k := 5))]; exact hc19
  replace hc22 : M53 (m + 7) = some (.inl (ct 2, 32, .inl (fun _ => 0))) := by rw [eM53, bm_up_ne (bm_ne1 (k := 6))]; exact hc22
  replace hc25 : M53 (m + 8) = some (.inl (ct 1, 512, .inr (.inl (fun _ => 0)))) := by rw [eM53, bm_up_ne (bm_ne1 (k := 7))]; exact hc25
  replace hc28 : M53 (m + 9) = some (.inl (ct 1, 320, .inr (.inl (fun _ => 0)))) := by rw [eM53, bm_up_ne (bm_ne1 (k := 8))]; exact hc28
  replace hc31 : M53 (m + 10) = some (.inl (ct 1, 5200, .inr (.inl (fun _ => 0)))) := by rw [eM53, bm_up_ne (bm_ne1 (k := 9))]; exact hc31
  replace hc34 : M53 (m + 11) = some (.inl (ct 1, 6, .inr (.inl (fun _ => 0)))) := by rw [eM53, bm_up_ne (bm_ne1 (k := 10))]; exact hc34
  replace hc37 : M53 (m + 12) = some (.inl (ct 1, 6, .inr (.inl (fun _ => 0)))) := by rw [eM53, bm_up_ne (bm_ne1 (k := 11))]; exact hc37
  replace hc40 : M53 (m + 13) = some (.inl (ct 1, 6, .inr (.inl (fun _ => 0)))) := by rw [eM53, bm_up_ne (bm_ne1 (k := 12))]; exact hc40
  replace hc43 : M53 (m + 14) = some (.inl (ct 1, 6, .inr (.inl (fun _ => 0)))) := by rw [eM53, bm_up_ne (bm_ne1 (k := 13))]; exact hc43
  replace hc46 : M53 (m + 15) = some (.inl (ct 1, 6, .inr (.inl (fun _ => 0)))) := by rw [eM53, bm_up_ne (bm_ne1 (k := 14))]; exact hc46
  replace hc49 : M53 (m + 16) = some (.inl (ct 2, 6, .inl (fun _ => 0))) := by rw [eM53, bm_up_ne (bm_ne1 (k := 15))]; exact hc49
  replace hc52 : M53 (m + 17) = some (.inl (ct 1, 4, .inr (.inl (fun _ => 0)))) := by rw [eM53, bm_up_ne (bm_ne1 (k := 16))]; exact hc52
  replace hm : M53 m = some (.inr (7, [.int 0, .ref (m + 1), .ref (m + 2), .int (-1), .long (-1), .ref (m + 3), .ref (m + 4), .ref (m + 5), .ref (m + 6), .ref (m + 7), .ref (m + 8), .int 0, .ref (m + 9), .int 0, .ref (m + 10), .ref (m + 11), .ref (m + 12), .ref (m + 13), .ref (m + 14), .ref (m + 15), .ref (m + 16), .ref (m + 17)])) := by rw [eM53]; exact bm_up_self _ _ _
  replace hF : ∀ a, a < m → M53 a = M a := fun a ha => by rw [eM53]; exact (bm_up_ne (bm_lne0 ha)).trans (hF a ha)
  clear eM53
  refine lv_iconst (v := 0) hx hb dM_init_151 (by decide) ?_
  refine lv_istore_n hx hb dM_init_152 rfl hl (by decide) rfl (fun ls hl => ?_)
  have hl : lv_has ls 2 [(1, .int 0), (0, .ref m)] := hl
  refine lv_iload_n hx hb dM_init_153 rfl (lv_at hl 0 rfl) ?_
  refine lv_iconst (v := 4) hx hb dM_init_154 (by decide) ?_
  refine lv_icmp_ge (tgt := 172) hx hb dM_init_155 rfl (fun h => absurd h (by decide)) (fun _ => ?_)
  refine lv_aload_n hx hb dM_init_158 rfl (lv_at hl 1 rfl) ?_
  refine bm_get (ci := 7) (v := .ref (m + 1)) (C := "BlindMintModel") (T := bt_M) (N := 22) hx hb hts bu_M hown hK hM hm rfl 1 (by decide) (hts _ bw_603) (fun _ h9 => h9) rfl dM_init_159 ?_
  refine lv_iload_n hx hb dM_init_162 rfl (lv_at hl 0 rfl) ?_
  refine lv_bipush (v := 100) hx hb dM_init_163 (by decide) ?_
  refine bm_iast hx hb hK hM hS 0 hc2 rfl 0 (bm_ix_nI (k := 0) (by decide)) (by decide) dM_init_165 (fun H locs hz1 hM hS => ?_)
  replace hz := hz1.trans hz
  replace hM : bm_M D base (bm_up M53 (m + 1) (.inl (ct 0, 4, .inl (upd (fun _ => 0) 0 100)))) H := hM
  obtain ⟨M54, eM54⟩ : ∃ X, X = bm_up M53 (m + 1) (.inl (ct 0, 4, .inl (upd (fun _ => 0) 0 100))) := ⟨_, rfl⟩
  rw [← eM54] at hM
  replace hm : M54 m = some (.inr (7, [.int 0, .ref (m + 1), .ref (m + 2), .int (-1), .long (-1), .ref (m + 3), .ref (m + 4), .ref (m + 5), .ref (m + 6), .ref (m + 7), .ref (m + 8), .int 0, .ref (m + 9), .int 0, .ref (m + 10), .ref (m + 11), .ref (m + 12), .ref (m + 13), .ref (m + 14), .ref (m + 15), .ref (m + 16), .ref (m + 17)])) := by rw [eM54, bm_up_ne (bm_ne0 (k := 0))]; exact hm
  replace hc5 : M54 (m + 2) = some (.inl (ct 0, 4, .inl (fun _ => 0))) := by rw [eM54, bm_up_ne (bm_nea (by decide))]; exact hc5
  replace hc10 : M54 (m + 3) = some (.inl (ct 0, 4, .inl (fun _ => 0))) := by rw [eM54, bm_up_ne (bm_nea (by decide))]; exact hc10
  replace hc13 : M54 (m + 4) = some (.inl (ct 0, 32, .inl (fun _ => 0))) := by rw [eM54, bm_up_ne (bm_nea (by decide))]; exact hc13
  replace hc16 : M54 (m + 5) = some (.inl (ct 1, 32, .inr (.inl (fun _ => 0)))) := by rw [eM54, bm_up_ne (bm_nea (by decide))]; exact hc16
  replace hc19 : M54 (m + 6) = some (.inl (ct 1, 32, .inr (.inl (fun _ => 0)))) := by rw [eM54, bm_up_ne (bm_nea (by decide))]; exact hc19
  replace hc22 : M54 (m + 7) = some (.inl (ct 2, 32, .inl (fun _ => 0))) := by rw [eM54, bm_up_ne (bm_nea (by decide))]; exact hc22
  replace hc25 : M54 (m + 8) = some (.inl (ct 1, 512, .inr (.inl (fun _ => 0)))) := by rw [eM54, bm_up_ne (bm_nea (by decide))]; exact hc25
  replace hc28 : M54 (m + 9) = some (.inl (ct 1, 320, .inr (.inl (fun _ => 0)))) := by rw [eM54, bm_up_ne (bm_nea (by decide))]; exact hc28
  replace hc31 : M54 (m + 10) = some (.inl (ct 1, 5200, .inr (.inl (fun _ => 0)))) := by rw [eM54, bm_up_ne (bm_nea (by decide))]; exact hc31
  replace hc34 : M54 (m + 11) = some (.inl (ct 1, 6, .inr (.inl (fun _ => 0)))) := by rw [eM54, bm_up_ne (bm_nea (by decide))]; exact hc34
  replace hc37 : M54 (m + 12) = some (.inl (ct 1, 6, .inr (.inl (fun _ => 0)))) := by rw [eM54, bm_up_ne (bm_nea (by decide))]; exact hc37
  replace hc40 : M54 (m + 13) = some (.inl (ct 1, 6, .inr (.inl (fun _ => 0)))) := by rw [eM54, bm_up_ne (bm_nea (by decide))]; exact hc40
  replace hc43 : M54 (m + 14) = some (.inl (ct 1, 6, .inr (.inl (fun _ => 0)))) := by rw [eM54, bm_up_ne (bm_nea (by decide))]; exact hc43
  replace hc46 : M54 (m + 15) = some (.inl (ct 1, 6, .inr (.inl (fun _ => 0)))) := by rw [eM54, bm_up_ne (bm_nea (by decide))]; exact hc46
  replace hc49 : M54 (m + 16) = some (.inl (ct 2, 6, .inl (fun _ => 0))) := by rw [eM54, bm_up_ne (bm_nea (by decide))]; exact hc49
  replace hc52 : M54 (m + 17) = some (.inl (ct 1, 4, .inr (.inl (fun _ => 0)))) := by rw [eM54, bm_up_ne (bm_nea (by decide))]; exact hc52
  replace hc2 : M54 (m + 1) = some (.inl (ct 0, 4, .inl (upd (fun _ => 0) 0 100))) := by rw [eM54]; exact bm_up_self _ _ _
  replace hF : ∀ a, a < m → M54 a = M a := fun a ha => by rw [eM54]; exact (bm_up_ne (bm_lnea ha)).trans (hF a ha)
  clear eM54
  refine lv_iinc (v := 1) (k := 0) hx hb dM_init_166 hl rfl (by decide) (by decide) rfl (fun ls hl => ?_)
  have hl : lv_has ls 2 [(1, .int 1), (0, .ref m)] := hl
  refine lv_goto (tgt := 153) hx hb dM_init_169 rfl ?_
  refine lv_iload_n hx hb dM_init_153 rfl (lv_at hl 0 rfl) ?_
  refine lv_iconst (v := 4) hx hb dM_init_154 (by decide) ?_
  refine lv_icmp_ge (tgt := 172) hx hb dM_init_155 rfl (fun h => absurd h (by decide)) (fun _ => ?_)
  refine lv_aload_n hx hb dM_init_158 rfl (lv_at hl 1 rfl) ?_
  refine bm_get (ci := 7) (v := .ref (m + 1)) (C := "BlindMintModel") (T := bt_M) (N := 22) hx hb hts bu_M hown hK hM hm rfl 1 (by decide) (hts _ bw_603) (fun _ h9 => h9) rfl dM_init_159 ?_
  refine lv_iload_n hx hb dM_init_162 rfl (lv_at hl 0 rfl) ?_
  refine lv_bipush (v := 100) hx hb dM_init_163 (by decide) ?_
  refine bm_iast hx hb hK hM hS 0 hc2 rfl 1 (bm_ix_nI (k := 1) (by decide)) (by decide) dM_init_165 (fun H locs hz1 hM hS => ?_)
  replace hz := hz1.trans hz
  replace hM : bm_M D base (bm_up M54 (m + 1) (.inl (ct 0, 4, .inl (upd (upd (fun _ => 0) 0 100) 1 100)))) H := hM
  obtain ⟨M55, eM55⟩ : ∃ X, X = bm_up M54 (m + 1) (.inl (ct 0, 4, .inl (upd (upd (fun _ => 0) 0 100) 1 100))) := ⟨_, rfl⟩
  rw [← eM55] at hM
  replace hm : M55 m = some (.inr (7, [.int 0, .ref (m + 1), .ref (m + 2), .int (-1), .long (-1), .ref (m + 3), .ref (m + 4), .ref (m + 5), .ref (m + 6), .ref (m + 7), .ref (m + 8), .int 0, .ref (m + 9), .int 0, .ref (m + 10), .ref (m + 11), .ref (m + 12), .ref (m + 13), .ref (m + 14), .ref (m + 15), .ref (m + 16), .ref (m + 17)])) := by rw [eM55, bm_up_ne (bm_ne0 (k := 0))]; exact hm
  replace hc5 : M55 (m + 2) = some (.inl (ct 0, 4, .inl (fun _ => 0))) := by rw [eM55, bm_up_ne (bm_nea (by decide))]; exact hc5
  replace hc10 : M55 (m + 3) = some (.inl (ct 0, 4, .inl (fun _ => 0))) := by rw [eM55, bm_up_ne (bm_nea (by decide))]; exact hc10
  replace hc13 : M55 (m + 4) = some (.inl (ct 0, 32, .inl (fun _ => 0))) := by rw [eM55, bm_up_ne (bm_nea (by decide))]; exact hc13
  replace hc16 : M55 (m + 5) = some (.inl (ct 1, 32, .inr (.inl (fun _ => 0)))) := by rw [eM55, bm_up_ne (bm_nea (by decide))]; exact hc16
  replace hc19 : M55 (m + 6) = some (.inl (ct 1, 32, .inr (.inl (fun _ => 0)))) := by rw [eM55, bm_up_ne (bm_nea (by decide))]; exact hc19
  replace hc22 : M55 (m + 7) = some (.inl (ct 2, 32, .inl (fun _ => 0))) := by rw [eM55, bm_up_ne (bm_nea (by decide))]; exact hc22
  replace hc25 : M55 (m + 8) = some (.inl (ct 1, 512, .inr (.inl (fun _ => 0)))) := by rw [eM55, bm_up_ne (bm_nea (by decide))]; exact hc25
  replace hc28 : M55 (m + 9) = some (.inl (ct 1, 320, .inr (.inl (fun _ => 0)))) := by rw [eM55, bm_up_ne (bm_nea (by decide))]; exact hc28
  replace hc31 : M55 (m + 10) = some (.inl (ct 1, 5200, .inr (.inl (fun _ => 0)))) := by rw [eM55, bm_up_ne (bm_nea (by decide))]; exact hc31
  replace hc34 : M55 (m + 11) = some (.inl (ct 1, 6, .inr (.inl (fun _ => 0)))) := by rw [eM55, bm_up_ne (bm_nea (by decide))]; exact hc34
  replace hc37 : M55 (m + 12) = some (.inl (ct 1, 6, .inr (.inl (fun _ => 0)))) := by rw [eM55, bm_up_ne (bm_nea (by decide))]; exact hc37
  replace hc40 : M55 (m + 13) = some (.inl (ct 1, 6, .inr (.inl (fun _ => 0)))) := by rw [eM55, bm_up_ne (bm_nea (by decide))]; exact hc40
  replace hc43 : M55 (m + 14) = some (.inl (ct 1, 6, .inr (.inl (fun _ => 0)))) := by rw [eM55, bm_up_ne (bm_nea (by decide))]; exact hc43
  replace hc46 : M55 (m + 15) = some (.inl (ct 1, 6, .inr (.inl (fun _ => 0)))) := by rw [eM55, bm_up_ne (bm_nea (by decide))]; exact hc46
  replace hc49 : M55 (m + 16) = some (.inl (ct 2, 6, .inl (fun _ => 0))) := by rw [eM55, bm_up_ne (bm_nea (by decide))]; exact hc49
  replace hc52 : M55 (m + 17) = some (.inl (ct 1, 4, .inr (.inl (fun _ => 0)))) := by rw [eM55, bm_up_ne (bm_nea (by decide))]; exact hc52
  replace hc2 : M55 (m + 1) = some (.inl (ct 0, 4, .inl (upd (upd (fun _ => 0) 0 100) 1 100))) := by rw [eM55]; exact bm_up_self _ _ _
  replace hF : ∀ a, a < m → M55 a = M a := fun a ha => by rw [eM55]; exact (bm_up_ne (bm_lnea ha)).trans (hF a ha)
  clear eM55
  refine lv_iinc (v := 2) (k := 0) hx hb dM_init_166 hl rfl (by decide) (by decide) rfl (fun ls hl => ?_)
  have hl : lv_has ls 2 [(1, .int 2), (0, .ref m)] := hl
  refine lv_goto (tgt := 153) hx hb dM_init_169 rfl ?_
  refine lv_iload_n hx hb dM_init_153 rfl (lv_at hl 0 rfl) ?_
  refine lv_iconst (v := 4) hx hb dM_init_154 (by decide) ?_
  refine lv_icmp_ge (tgt := 172) hx hb dM_init_155 rfl (fun h => absurd h (by decide)) (fun _ => ?_)
  refine lv_aload_n hx hb dM_init_158 rfl (lv_at hl 1 rfl) ?_
  refine bm_get (ci := 7) (v := .ref (m + 1)) (C := "BlindMintModel") (T := bt_M) (N := 22) hx hb hts bu_M hown hK hM hm rfl 1 (by decide) (hts _ bw_603) (fun _ h9 => h9) rfl dM_init_159 ?_
  refine lv_iload_n hx hb dM_init_162 rfl (lv_at hl 0 rfl) ?_
  refine lv_bipush (v := 100) hx hb dM_init_163 (by decide) ?_
  refine bm_iast hx hb hK hM hS 0 hc2 rfl 2 (bm_ix_nI (k := 2) (by decide)) (by decide) dM_init_165 (fun H locs hz1 hM hS => ?_)
  replace hz := hz1.trans hz
  replace hM : bm_M D base (bm_up M55 (m + 1) (.inl (ct 0, 4, .inl (upd (upd (upd (fun _ => 0) 0 100) 1 100) 2 100)))) H := hM
  obtain ⟨M56, eM56⟩ : ∃ X, X = bm_up M55 (m + 1) (.inl (ct 0, 4, .inl (upd (upd (upd (fun _ => 0) 0 100) 1 100) 2 100))) := ⟨_, rfl⟩
  rw [← eM56] at hM
  replace hm : M56 m = some (.inr (7, [.int 0, .ref (m + 1), .ref (m + 2), .int (-1), .long (-1), .ref (m + 3), .ref (m + 4), .ref (m + 5), .ref (m + 6), .ref (m + 7), .ref (m + 8), .int 0, .ref (m + 9), .int 0, .ref (m + 10), .ref (m + 11), .ref (m + 12), .ref (m + 13), .ref (m + 14), .ref (m + 15), .ref (m + 16), .ref (m + 17)])) := by rw [eM56, bm_up_ne (bm_ne0 (k := 0))]; exact hm
  replace hc5 : M56 (m + 2) = some (.inl (ct 0, 4, .inl (fun _ => 0))) := by rw [eM56, bm_up_ne (bm_nea (by decide))]; exact hc5
  replace hc10 : M56 (m + 3) = some (.inl (ct 0, 4, .inl (fun _ => 0))) := by rw [eM56, bm_up_ne (bm_nea (by decide))]; exact hc10
  replace hc13 : M56 (m + 4) = some (.inl (ct 0, 32, .inl (fun _ => 0))) := by rw [eM56, bm_up_ne (bm_nea (by decide))]; exact hc13
  replace hc16 : M56 (m + 5) = some (.inl (ct 1, 32, .inr (.inl (fun _ => 0)))) := by rw [eM56, bm_up_ne (bm_nea (by decide))]; exact hc16
  replace hc19 : M56 (m + 6) = some (.inl (ct 1, 32, .inr (.inl (fun _ => 0)))) := by rw [eM56, bm_up_ne (bm_nea (by decide))]; exact hc19
  replace hc22 : M56 (m + 7) = some (.inl (ct 2, 32, .inl (fun _ => 0))) := by rw [eM56, bm_up_ne (bm_nea (by decide))]; exact hc22
  replace hc25 : M56 (m + 8) = some (.inl (ct 1, 512, .inr (.inl (fun _ => 0)))) := by rw [eM56, bm_up_ne (bm_nea (by decide))]; exact hc25
  replace hc28 : M56 (m + 9) = some (.inl (ct 1, 320, .inr (.inl (fun _ => 0)))) := by rw [eM56, bm_up_ne (bm_nea (by decide))]; exact hc28
  replace hc31 : M56 (m + 10) = some (.inl (ct 1, 5200, .inr (.inl (fun _ => 0)))) := by rw [eM56, bm_up_ne (bm_nea (by decide))]; exact hc31
  replace hc34 : M56 (m + 11) = some (.inl (ct 1, 6, .inr (.inl (fun _ => 0)))) := by rw [eM56, bm_up_ne (bm_nea (by decide))]; exact hc34
  replace hc37 : M56 (m + 12) = some (.inl (ct 1, 6, .inr (.inl (fun _ => 0)))) := by rw [eM56, bm_up_ne (bm_nea (by decide))]; exact hc37
  replace hc40 : M56 (m + 13) = some (.inl (ct 1, 6, .inr (.inl (fun _ => 0)))) := by rw [eM56, bm_up_ne (bm_nea (by decide))]; exact hc40
  replace hc43 : M56 (m + 14) = some (.inl (ct 1, 6, .inr (.inl (fun _ => 0)))) := by rw [eM56, bm_up_ne (bm_nea (by decide))]; exact hc43
  replace hc46 : M56 (m + 15) = some (.inl (ct 1, 6, .inr (.inl (fun _ => 0)))) := by rw [eM56, bm_up_ne (bm_nea (by decide))]; exact hc46
  replace hc49 : M56 (m + 16) = some (.inl (ct 2, 6, .inl (fun _ => 0))) := by rw [eM56, bm_up_ne (bm_nea (by decide))]; exact hc49
  replace hc52 : M56 (m + 17) = some (.inl (ct 1, 4, .inr (.inl (fun _ => 0)))) := by rw [eM56, bm_up_ne (bm_nea (by decide))]; exact hc52
  replace hc2 : M56 (m + 1) = some (.inl (ct 0, 4, .inl (upd (upd (upd (fun _ => 0) 0 100) 1 100) 2 100))) := by rw [eM56]; exact bm_up_self _ _ _
  replace hF : ∀ a, a < m → M56 a = M a := fun a ha => by rw [eM56]; exact (bm_up_ne (bm_lnea ha)).trans (hF a ha)
  clear eM56
  refine lv_iinc (v := 3) (k := 0) hx hb dM_init_166 hl rfl (by decide) (by decide) rfl (fun ls hl => ?_)
  have hl : lv_has ls 2 [(1, .int 3), (0, .ref m)] := hl
  refine lv_goto (tgt := 153) hx hb dM_init_169 rfl ?_
  refine lv_iload_n hx hb dM_init_153 rfl (lv_at hl 0 rfl) ?_
  refine lv_iconst (v := 4) hx hb dM_init_154 (by decide) ?_
  refine lv_icmp_ge (tgt := 172) hx hb dM_init_155 rfl (fun h => absurd h (by decide)) (fun _ => ?_)
  refine lv_aload_n hx hb dM_init_158 rfl (lv_at hl 1 rfl) ?_
  refine bm_get (ci := 7) (v := .ref (m + 1)) (C := "BlindMintModel") (T := bt_M) (N := 22) hx hb hts bu_M hown hK hM hm rfl 1 (by decide) (hts _ bw_603) (fun _ h9 => h9) rfl dM_init_159 ?_
  refine lv_iload_n hx hb dM_init_162 rfl (lv_at hl 0 rfl) ?_
  refine lv_bipush (v := 100) hx hb dM_init_163 (by decide) ?_
  refine bm_iast hx hb hK hM hS 0 hc2 rfl 3 (bm_ix_nI (k := 3) (by decide)) (by decide) dM_init_165 (fun H locs hz1 hM hS => ?_)
  replace hz := hz1.trans hz
  replace hM : bm_M D base (bm_up M56 (m + 1) (.inl (ct 0, 4, .inl (upd (upd (upd (upd (fun _ => 0) 0 100) 1 100) 2 100) 3 100)))) H := hM
  obtain ⟨M57, eM57⟩ : ∃ X, X = bm_up M56 (m + 1) (.inl (ct 0, 4, .inl (upd (upd (upd (upd (fun _ => 0) 0 100) 1 100) 2 100) 3 100))) := ⟨_, rfl⟩
  rw [← eM57] at hM
  replace hm : M57 m = some (.inr (7, [.int 0, .ref (m + 1), .ref (m + 2), .int (-1), .long (-1), .ref (m + 3), .ref (m + 4), .ref (m + 5), .ref (m + 6), .ref (m + 7), .ref (m + 8), .int 0, .ref (m + 9), .int 0, .ref (m + 10), .ref (m + 11), .ref (m + 12), .ref (m + 13), .ref (m + 14), .ref (m + 15), .ref (m + 16), .ref (m + 17)])) := by rw [eM57, bm_up_ne (bm_ne0 (k := 0))]; exact hm
  replace hc5 : M57 (m + 2) = some (.inl (ct 0, 4, .inl (fun _ => 0))) := by rw [eM57, bm_up_ne (bm_nea (by decide))]; exact hc5
  replace hc10 : M57 (m + 3) = some (.inl (ct 0, 4, .inl (fun _ => 0))) := by rw [eM57, bm_up_ne (bm_nea (by decide))]; exact hc10
  replace hc13 : M57 (m + 4) = some (.inl (ct 0, 32, .inl (fun _ => 0))) := by rw [eM57, bm_up_ne (bm_nea (by decide))]; exact hc13
  replace hc16 : M57 (m + 5) = some (.inl (ct 1, 32, .inr (.inl (fun _ => 0)))) := by rw [eM57, bm_up_ne (bm_nea (by decide))]; exact hc16
  replace hc19 : M57 (m + 6) = some (.inl (ct 1, 32, .inr (.inl (fun _ => 0)))) := by rw [eM57, bm_up_ne (bm_nea (by decide))]; exact hc19
  replace hc22 : M57 (m + 7) = some (.inl (ct 2, 32, .inl (fun _ => 0))) := by rw [eM57, bm_up_ne (bm_nea (by decide))]; exact hc22
  replace hc25 : M57 (m + 8) = some (.inl (ct 1, 512, .inr (.inl (fun _ => 0)))) := by rw [eM57, bm_up_ne (bm_nea (by decide))]; exact hc25
  replace hc28 : M57 (m + 9) = some (.inl (ct 1, 320, .inr (.inl (fun _ => 0)))) := by rw [eM57, bm_up_ne (bm_nea (by decide))]; exact hc28
  replace hc31 : M57 (m + 10) = some (.inl (ct 1, 5200, .inr (.inl (fun _ => 0)))) := by rw [eM57, bm_up_ne (bm_nea (by decide))]; exact hc31
  replace hc34 : M57 (m + 11) = some (.inl (ct 1, 6, .inr (.inl (fun _ => 0)))) := by rw [eM57, bm_up_ne (bm_nea (by decide))]; exact hc34
  replace hc37 : M57 (m + 12) = some (.inl (ct 1, 6, .inr (.inl (fun _ => 0)))) := by rw [eM57, bm_up_ne (bm_nea (by decide))]; exact hc37
  replace hc40 : M57 (m + 13) = some (.inl (ct 1, 6, .inr (.inl (fun _ => 0)))) := by rw [eM57, bm_up_ne (bm_nea (by decide))]; exact hc40
  replace hc43 : M57 (m + 14) = some (.inl (ct 1, 6, .inr (.inl (fun _ => 0)))) := by rw [eM57, bm_up_ne (bm_nea (by decide))]; exact hc43
  replace hc46 : M57 (m + 15) = some (.inl (ct 1, 6, .inr (.inl (fun _ => 0)))) := by rw [eM57, bm_up_ne (bm_nea (by decide))]; exact hc46
  replace hc49 : M57 (m + 16) = some (.inl (ct 2, 6, .inl (fun _ => 0))) := by rw [eM57, bm_up_ne (bm_nea (by decide))]; exact hc49
  replace hc52 : M57 (m + 17) = some (.inl (ct 1, 4, .inr (.inl (fun _ => 0)))) := by rw [eM57, bm_up_ne (bm_nea (by decide))]; exact hc52
  replace hc2 : M57 (m + 1) = some (.inl (ct 0, 4, .inl (upd (upd (upd (upd (fun _ => 0) 0 100) 1 100) 2 100) 3 100))) := by rw [eM57]; exact bm_up_self _ _ _
  replace hF : ∀ a, a < m → M57 a = M a := fun a ha => by rw [eM57]; exact (bm_up_ne (bm_lnea ha)).trans (hF a ha)
  clear eM57
  refine lv_iinc (v := 4) (k := 0) hx hb dM_init_166 hl rfl (by decide) (by decide) rfl (fun ls hl => ?_)
  have hl : lv_has ls 2 [(1, .int 4), (0, .ref m)] := hl
  refine lv_goto (tgt := 153) hx hb dM_init_169 rfl ?_
  refine lv_iload_n hx hb dM_init_153 rfl (lv_at hl 0 rfl) ?_
  refine lv_iconst (v := 4) hx hb dM_init_154 (by decide) ?_
  refine lv_icmp_ge (tgt := 172) hx hb dM_init_155 rfl (fun _ => ?_) (fun h => absurd h (by decide))
  exact bm_vret hQ hx hb hr hlk hM hS ⟨rfl, hz, ⟨hm, hc2, hc5, hc10, hc13, hc16, hc19, hc22, hc25, hc28, hc31, hc34, hc37, hc40, hc43, hc46, hc49, hc52⟩, hF⟩ (Nat.le_of_ble_eq_true rfl) (Nat.le_of_ble_eq_true rfl) dM_init_172
