set_option maxHeartbeats 4000000 in
set_option maxRecDepth 100000 in
theorem bc_P_init (l : Launch) (D : va_G) (ct : Nat → ClassId) (base : Nat) (ad : Nat → Nat) (M : bm_Map) (sz : Nat) (a o t1 t0 : Nat) (dn sp mer non : Int32) (nu sg : Int64) (f1 f0 : Nat → Int64) (h0 : M a = some (.inr (4, [.null]))) (h1 : M o = some (.inr (2, [.int dn, .long nu, .long sg, .int sp, .ref t1, .ref t0]))) (h2 : M t1 = some (.inl (ct 1, 12, .inr (.inl f1)))) (h3 : M t0 = some (.inl (ct 1, 12, .inr (.inl f0)))) : Met l yP_init (bm_ws yP_init cP_init 8 none) { frames := 2, cells := 1, slots := 16, locals := 60 } (bm_Pre D ct base ad M sz [.ref a, .ref o, .int mer, .int non]) (bm_Post D base (fun v M1 n => v = none ∧ M1 a = some (.inr (4, [.ref sz])) ∧ M1 sz = some (.inl (ct 1, 16, .inr (.inl (bm_pn f1 f0 (bm_h3 mer.toInt64 non.toInt64 sg) (bm_p4 dn.toInt64 sg mer.toInt64 non.toInt64) 4)))) ∧ ∀ b, b ≠ a → b < sz → M1 b = M b)) 1 16 (bm_A base) := by
  refine bm_ofB (cc := cP_init) (maxL := 8) (ret := none) (by decide +kernel) (Nat.le_of_ble_eq_true rfl) ?_
  intro vp ve s vm args below meth vc hx hb hr hlk hts hown hml hnm ls hl hz hM hG R Q hR hQ
  have hown : s.vm.findClass "BlindMint$Payment" = some vm.cls := hown
  have hK := hG.K
  have hS : va_S (bm_A base) s.heap s.heap [] := va_S.rf
  have hl : lv_has ls 8 [(0, .ref a), (1, .ref o), (2, .int mer), (3, .int non)] := hl
  have lt_0 : a < sz := hz ▸ hM.lt h0
  have lt_1 : o < sz := hz ▸ hM.lt h1
  have lt_2 : t1 < sz := hz ▸ hM.lt h2
  have lt_3 : t0 < sz := hz ▸ hM.lt h3
  have hF : ∀ b, b ≠ a → b < sz → M b = M b := fun _ _ _ => rfl
  refine lv_aload_n hx hb dP_init_0 rfl (lv_at hl 0 rfl) ?_
  refine W.objInit hx hb hown (hts _ bw_486) (hts _ bw_25) (hts _ bw_26) rfl (by rw [hml]; exact hl.1) rfl dP_init_1 (by rw [← hR]; exact Nat.le_of_ble_eq_true rfl) (by rw [← hR]; exact Nat.le_of_ble_eq_true rfl) ?_
  refine W.eq (g2 := F0 vm 4 ls []) rfl ?_
  refine lv_aload_n hx hb dP_init_4 rfl (lv_at hl 0 rfl) ?_
  refine lv_bipush (v := 16) hx hb dP_init_5 (by decide) ?_
  refine bm_newaz (atype := .long) (a0 := (16, .inr (.inl (fun _ => 0)))) hz hx hb (hts _ bw_108) (ty := .long) rfl hK hM hS (Nat.le_trans hG.2.1 hS.1) 1 rfl (fun C h => by cases h) (bm_aL 16) (by decide) (by decide) (Nat.le_of_ble_eq_true rfl) (by rw [← hR]; exact Nat.le_of_ble_eq_true rfl) (by rw [← hR]; exact Nat.le_of_ble_eq_true rfl) dP_init_7 (fun H hz1 hM hS => ?_)
  replace hz : H.size = sz + 1 := hz1
  obtain ⟨M1, eM1⟩ : ∃ X, X = bm_up M sz (.inl (ct 1, 16, .inr (.inl (fun _ => 0)))) := ⟨_, rfl⟩
  replace hM : bm_M D base M1 H := by rw [eM1]; exact hM
  replace h0 : M1 a = some (.inr (4, [.null])) := by rw [eM1, bm_up_ne (by omega)]; exact h0
  replace h1 : M1 o = some (.inr (2, [.int dn, .long nu, .long sg, .int sp, .ref t1, .ref t0])) := by rw [eM1, bm_up_ne (by omega)]; exact h1
  replace h2 : M1 t1 = some (.inl (ct 1, 12, .inr (.inl f1))) := by rw [eM1, bm_up_ne (by omega)]; exact h2
  replace h3 : M1 t0 = some (.inl (ct 1, 12, .inr (.inl f0))) := by rw [eM1, bm_up_ne (by omega)]; exact h3
  have hc2 : M1 sz = some (.inl (ct 1, 16, .inr (.inl (fun _ => 0)))) := by rw [eM1]; exact bm_up_self _ _ _
  replace hF : ∀ b, b ≠ a → b < sz → M1 b = M b := fun b q1 q2 => by rw [eM1]; exact (bm_up_ne (by omega)).trans (hF b q1 q2)
  clear eM1 hz1
  refine bm_putF (ci := 4) (v := .ref sz) (ty := (.array .long)) (C := "BlindMint$Payment") (T := bt_P) (N := 1) hx hb hts bu_P by_P bo_P bn_P hown hK hM hS h0 rfl 0 (by decide) (hts _ bw_490) (fun _ h9 => h9) rfl hnm rfl (by decide +kernel) rfl rfl (Nat.le_of_ble_eq_true rfl) dP_init_9 (fun H locs hz1 hM hS => ?_)
  replace hz := hz1.trans hz
  replace hM : bm_M D base (bm_up M1 a (.inr (4, [.ref sz]))) H := hM
  obtain ⟨M3, eM3⟩ : ∃ X, X = bm_up M1 a (.inr (4, [.ref sz])) := ⟨_, rfl⟩
  rw [← eM3] at hM
  replace h1 : M3 o = some (.inr (2, [.int dn, .long nu, .long sg, .int sp, .ref t1, .ref t0])) := by rw [eM3, bm_up_ne (bm_ne_oo h0 h1 (by decide))]; exact h1
  replace h2 : M3 t1 = some (.inl (ct 1, 12, .inr (.inl f1))) := by rw [eM3, bm_up_ne (bm_ne_oa h0 h2)]; exact h2
  replace h3 : M3 t0 = some (.inl (ct 1, 12, .inr (.inl f0))) := by rw [eM3, bm_up_ne (bm_ne_oa h0 h3)]; exact h3
  replace hc2 : M3 sz = some (.inl (ct 1, 16, .inr (.inl (fun _ => 0)))) := by rw [eM3, bm_up_ne (bm_ne_oa h0 hc2)]; exact hc2
  replace h0 : M3 a = some (.inr (4, [.ref sz])) := by rw [eM3]; exact bm_up_self _ _ _
  replace hF : ∀ b, b ≠ a → b < sz → M3 b = M b := fun b q1 q2 => by rw [eM3]; exact (bm_up_ne q1).trans (hF b q1 q2)
  clear eM3
  refine lv_aload_n hx hb dP_init_12 rfl (lv_at hl 0 rfl) ?_
  refine bm_get (ci := 4) (v := .ref sz) (C := "BlindMint$Payment") (T := bt_P) (N := 1) hx hb hts bu_P hown hK hM h0 rfl 0 (by decide) (hts _ bw_490) (fun _ h9 => h9) rfl dP_init_13 ?_
  refine lv_iconst (v := 0) hx hb dP_init_16 (by decide) ?_
  refine lv_aload_n hx hb dP_init_17 rfl (lv_at hl 1 rfl) ?_
  refine bm_get (ci := 2) (v := .int dn) (C := "BlindMint$Coin") (T := bt_O) (N := 6) hx hb hts bu_O hown hK hM h1 rfl 0 (by decide) (hts _ bw_412) (fun _ h9 => h9) rfl dP_init_18 ?_
  refine lv_i2l hx hb dP_init_21 rfl ?_
  refine bm_last hx hb hK hM hS 1 hc2 rfl 0 (bm_ix_nI (k := 0) (by decide)) (by decide) dP_init_22 (fun H locs hz1 hM hS => ?_)
  replace hz := hz1.trans hz
  replace hM : bm_M D base (bm_up M3 sz (.inl (ct 1, 16, .inr (.inl (vp_updL (fun _ => 0) 0 dn.toInt64))))) H := hM
  obtain ⟨M4, eM4⟩ : ∃ X, X = bm_up M3 sz (.inl (ct 1, 16, .inr (.inl (vp_updL (fun _ => 0) 0 dn.toInt64)))) := ⟨_, rfl⟩
  rw [← eM4] at hM
  replace h0 : M4 a = some (.inr (4, [.ref sz])) := by rw [eM4, bm_up_ne (bm_ne_ao hc2 h0)]; exact h0
  replace h1 : M4 o = some (.inr (2, [.int dn, .long nu, .long sg, .int sp, .ref t1, .ref t0])) := by rw [eM4, bm_up_ne (bm_ne_ao hc2 h1)]; exact h1
  replace h2 : M4 t1 = some (.inl (ct 1, 12, .inr (.inl f1))) := by rw [eM4, bm_up_ne (bm_ne_aa hc2 h2 (by decide))]; exact h2
  replace h3 : M4 t0 = some (.inl (ct 1, 12, .inr (.inl f0))) := by rw [eM4, bm_up_ne (bm_ne_aa hc2 h3 (by decide))]; exact h3
  replace hc2 : M4 sz = some (.inl (ct 1, 16, .inr (.inl (vp_updL (fun _ => 0) 0 dn.toInt64)))) := by rw [eM4]; exact bm_up_self _ _ _
  replace hF : ∀ b, b ≠ a → b < sz → M4 b = M b := fun b q1 q2 => by rw [eM4]; exact (bm_up_ne (by omega)).trans (hF b q1 q2)
  clear eM4
  refine lv_aload_n hx hb dP_init_23 rfl (lv_at hl 0 rfl) ?_
  refine bm_get (ci := 4) (v := .ref sz) (C := "BlindMint$Payment") (T := bt_P) (N := 1) hx hb hts bu_P hown hK hM h0 rfl 0 (by decide) (hts _ bw_490) (fun _ h9 => h9) rfl dP_init_24 ?_
  refine lv_iconst (v := 1) hx hb dP_init_27 (by decide) ?_
  refine lv_aload_n hx hb dP_init_28 rfl (lv_at hl 1 rfl) ?_
  refine bm_get (ci := 2) (v := .long sg) (C := "BlindMint$Coin") (T := bt_O) (N := 6) hx hb hts bu_O hown hK hM h1 rfl 2 (by decide) (hts _ bw_417) (fun _ h9 => h9) rfl dP_init_29 ?_
  refine bm_last hx hb hK hM hS 1 hc2 rfl 1 (bm_ix_nI (k := 1) (by decide)) (by decide) dP_init_32 (fun H locs hz1 hM hS => ?_)
  replace hz := hz1.trans hz
  replace hM : bm_M D base (bm_up M4 sz (.inl (ct 1, 16, .inr (.inl (vp_updL (vp_updL (fun _ => 0) 0 dn.toInt64) 1 sg))))) H := hM
  obtain ⟨M5, eM5⟩ : ∃ X, X = bm_up M4 sz (.inl (ct 1, 16, .inr (.inl (vp_updL (vp_updL (fun _ => 0) 0 dn.toInt64) 1 sg)))) := ⟨_, rfl⟩
  rw [← eM5] at hM
  replace h0 : M5 a = some (.inr (4, [.ref sz])) := by rw [eM5, bm_up_ne (bm_ne_ao hc2 h0)]; exact h0
  replace h1 : M5 o = some (.inr (2, [.int dn, .long nu, .long sg, .int sp, .ref t1, .ref t0])) := by rw [eM5, bm_up_ne (bm_ne_ao hc2 h1)]; exact h1
  replace h2 : M5 t1 = some (.inl (ct 1, 12, .inr (.inl f1))) := by rw [eM5, bm_up_ne (bm_ne_aa hc2 h2 (by decide))]; exact h2
  replace h3 : M5 t0 = some (.inl (ct 1, 12, .inr (.inl f0))) := by rw [eM5, bm_up_ne (bm_ne_aa hc2 h3 (by decide))]; exact h3
  replace hc2 : M5 sz = some (.inl (ct 1, 16, .inr (.inl (vp_updL (vp_updL (fun _ => 0) 0 dn.toInt64) 1 sg)))) := by rw [eM5]; exact bm_up_self _ _ _
  replace hF : ∀ b, b ≠ a → b < sz → M5 b = M b := fun b q1 q2 => by rw [eM5]; exact (bm_up_ne (by omega)).trans (hF b q1 q2)
  clear eM5
  refine lv_aload_n hx hb dP_init_33 rfl (lv_at hl 0 rfl) ?_
  refine bm_get (ci := 4) (v := .ref sz) (C := "BlindMint$Payment") (T := bt_P) (N := 1) hx hb hts bu_P hown hK hM h0 rfl 0 (by decide) (hts _ bw_490) (fun _ h9 => h9) rfl dP_init_34 ?_
  refine lv_iconst (v := 2) hx hb dP_init_37 (by decide) ?_
  refine lv_iload_n hx hb dP_init_38 rfl (lv_at hl 2 rfl) ?_
  refine lv_i2l hx hb dP_init_39 rfl ?_
  refine bm_last hx hb hK hM hS 1 hc2 rfl 2 (bm_ix_nI (k := 2) (by decide)) (by decide) dP_init_40 (fun H locs hz1 hM hS => ?_)
  replace hz := hz1.trans hz
  replace hM : bm_M D base (bm_up M5 sz (.inl (ct 1, 16, .inr (.inl (vp_updL (vp_updL (vp_updL (fun _ => 0) 0 dn.toInt64) 1 sg) 2 mer.toInt64))))) H := hM
  obtain ⟨M6, eM6⟩ : ∃ X, X = bm_up M5 sz (.inl (ct 1, 16, .inr (.inl (vp_updL (vp_updL (vp_updL (fun _ => 0) 0 dn.toInt64) 1 sg) 2 mer.toInt64)))) := ⟨_, rfl⟩
  rw [← eM6] at hM
  replace h0 : M6 a = some (.inr (4, [.ref sz])) := by rw [eM6, bm_up_ne (bm_ne_ao hc2 h0)]; exact h0
  replace h1 : M6 o = some (.inr (2, [.int dn, .long nu, .long sg, .int sp, .ref t1, .ref t0])) := by rw [eM6, bm_up_ne (bm_ne_ao hc2 h1)]; exact h1
  replace h2 : M6 t1 = some (.inl (ct 1, 12, .inr (.inl f1))) := by rw [eM6, bm_up_ne (bm_ne_aa hc2 h2 (by decide))]; exact h2
  replace h3 : M6 t0 = some (.inl (ct 1, 12, .inr (.inl f0))) := by rw [eM6, bm_up_ne (bm_ne_aa hc2 h3 (by decide))]; exact h3
  replace hc2 : M6 sz = some (.inl (ct 1, 16, .inr (.inl (vp_updL (vp_updL (vp_updL (fun _ => 0) 0 dn.toInt64) 1 sg) 2 mer.toInt64)))) := by rw [eM6]; exact bm_up_self _ _ _
  replace hF : ∀ b, b ≠ a → b < sz → M6 b = M b := fun b q1 q2 => by rw [eM6]; exact (bm_up_ne (by omega)).trans (hF b q1 q2)
  clear eM6
  refine lv_aload_n hx hb dP_init_41 rfl (lv_at hl 0 rfl) ?_
  refine bm_get (ci := 4) (v := .ref sz) (C := "BlindMint$Payment") (T := bt_P) (N := 1) hx hb hts bu_P hown hK hM h0 rfl 0 (by decide) (hts _ bw_490) (fun _ h9 => h9) rfl dP_init_42 ?_
  refine lv_iconst (v := 3) hx hb dP_init_45 (by decide) ?_
  refine lv_iload_n hx hb dP_init_46 rfl (lv_at hl 3 rfl) ?_
  refine lv_i2l hx hb dP_init_47 rfl ?_
  refine bm_last hx hb hK hM hS 1 hc2 rfl 3 (bm_ix_nI (k := 3) (by decide)) (by decide) dP_init_48 (fun H locs hz1 hM hS => ?_)
  replace hz := hz1.trans hz
  replace hM : bm_M D base (bm_up M6 sz (.inl (ct 1, 16, .inr (.inl (vp_updL (vp_updL (vp_updL (vp_updL (fun _ => 0) 0 dn.toInt64) 1 sg) 2 mer.toInt64) 3 non.toInt64))))) H := hM
  obtain ⟨M7, eM7⟩ : ∃ X, X = bm_up M6 sz (.inl (ct 1, 16, .inr (.inl (vp_updL (vp_updL (vp_updL (vp_updL (fun _ => 0) 0 dn.toInt64) 1 sg) 2 mer.toInt64) 3 non.toInt64)))) := ⟨_, rfl⟩
  rw [← eM7] at hM
  replace h0 : M7 a = some (.inr (4, [.ref sz])) := by rw [eM7, bm_up_ne (bm_ne_ao hc2 h0)]; exact h0
  replace h1 : M7 o = some (.inr (2, [.int dn, .long nu, .long sg, .int sp, .ref t1, .ref t0])) := by rw [eM7, bm_up_ne (bm_ne_ao hc2 h1)]; exact h1
  replace h2 : M7 t1 = some (.inl (ct 1, 12, .inr (.inl f1))) := by rw [eM7, bm_up_ne (bm_ne_aa hc2 h2 (by decide))]; exact h2
  replace h3 : M7 t0 = some (.inl (ct 1, 12, .inr (.inl f0))) := by rw [eM7, bm_up_ne (bm_ne_aa hc2 h3 (by decide))]; exact h3
  replace hc2 : M7 sz = some (.inl (ct 1, 16, .inr (.inl (vp_updL (vp_updL (vp_updL (vp_updL (fun _ => 0) 0 dn.toInt64) 1 sg) 2 mer.toInt64) 3 non.toInt64)))) := by rw [eM7]; exact bm_up_self _ _ _
  replace hF : ∀ b, b ≠ a → b < sz → M7 b = M b := fun b q1 q2 => by rw [eM7]; exact (bm_up_ne (by omega)).trans (hF b q1 q2)
  clear eM7
  refine lv_aload_n hx hb dP_init_49 rfl (lv_at hl 0 rfl) ?_
  have hc2 : M7 sz = some (.inl (ct 1, 16, .inr (.inl (bm_p4 dn.toInt64 sg mer.toInt64 non.toInt64)))) := hc2
  refine bm_callE (va_runV (As := []) (rest := []) ⟨hx, hb, hml, hown, hts⟩ (bc_P_challenge l D ct base ad M7 (sz + 1) a sz (bm_p4 dn.toInt64 sg mer.toInt64 non.toInt64) h0 hc2) (cwV 0 hts (bm_goodV bw_171 bw_172 bw_173 bw_16 bw_174) rfl rfl rfl (by decide +kernel) (by rw [← hR]; exact ⟨Nat.le_of_ble_eq_true rfl, Nat.le_of_ble_eq_true rfl⟩)) (bm_preV hM hG hS hz h0 rfl) rfl rfl hl.1 rfl (lv_room (Nat.le_of_ble_eq_true rfl)) dP_init_50 (by rw [← hR]; exact ⟨Nat.le_of_ble_eq_true rfl, Nat.le_of_ble_eq_true rfl⟩)) hS (fun H locs hz hM hS => ?_)
  refine lv_topl (fun t8 e_t8 => ?_)
  have e_t8 : t8 = bm_h3 mer.toInt64 non.toInt64 sg := by rw [e_t8]; exact bm_p4_ch
  subst e_t8
  refine lv_lstore hx hb dP_init_53 hl (by decide) rfl (fun ls hl => ?_)
  have hl : lv_has ls 8 [(4, .long (bm_h3 mer.toInt64 non.toInt64 sg)), (0, .ref a), (1, .ref o), (2, .int mer), (3, .int non)] := hl
  refine lv_iconst (v := 0) hx hb dP_init_55 (by decide) ?_
  refine lv_istore hx hb dP_init_56 hl (by decide) rfl (fun ls hl => ?_)
  have hl : lv_has ls 8 [(6, .int 0), (4, .long (bm_h3 mer.toInt64 non.toInt64 sg)), (0, .ref a), (1, .ref o), (2, .int mer), (3, .int non)] := hl
  have hl : lv_has ls 8 [(0, .ref a), (1, .ref o), (4, .long (bm_h3 mer.toInt64 non.toInt64 sg)), (6, .int 0)] := lv_sub hl [2, 3, 1, 0] rfl
  have loop : ∀ (n : Nat) (i : Nat) (ls : Array Slot) (H : Heap) (locs : List Loc) (M9 : bm_Map) (z9 : Nat), i + n = 4 → lv_has ls 8 [(0, .ref a), (1, .ref o), (4, .long (bm_h3 mer.toInt64 non.toInt64 sg)), (6, .int (nI i))] → H.size = z9 → bm_M D base M9 H → va_S (bm_A base) s.heap H locs → M9 = bm_up M7 sz (.inl (ct 1, 16, .inr (.inl (bm_pn f1 f0 (bm_h3 mer.toInt64 non.toInt64 sg) (bm_p4 dn.toInt64 sg mer.toInt64 non.toInt64) i)))) → W vp l ve R s vm args below meth vc H locs (0 + 1) (0 + 16) Q (F0 vm 58 ls []) := by
    intro n
    induction n with
    | zero =>
      intro i ls H locs M9 z9 hi hl hz hM hS eX
      have h0 : M9 a = some (.inr (4, [.ref sz])) := by rw [eX, bm_up_ne (bm_ne_ao hc2 h0)]; exact h0
      have h1 : M9 o = some (.inr (2, [.int dn, .long nu, .long sg, .int sp, .ref t1, .ref t0])) := by rw [eX, bm_up_ne (bm_ne_ao hc2 h1)]; exact h1
      have h2 : M9 t1 = some (.inl (ct 1, 12, .inr (.inl f1))) := by rw [eX, bm_up_ne (bm_ne_aa hc2 h2 (by decide))]; exact h2
      have h3 : M9 t0 = some (.inl (ct 1, 12, .inr (.inl f0))) := by rw [eX, bm_up_ne (bm_ne_aa hc2 h3 (by decide))]; exact h3
      have hc2 : M9 sz = some (.inl (ct 1, 16, .inr (.inl (bm_pn f1 f0 (bm_h3 mer.toInt64 non.toInt64 sg) (bm_p4 dn.toInt64 sg mer.toInt64 non.toInt64) i)))) := by rw [eX]; exact bm_up_self _ _ _
      obtain rfl : i = 4 := by omega
      have hl : lv_has ls 8 [(0, .ref a), (1, .ref o), (4, .long (bm_h3 mer.toInt64 non.toInt64 sg)), (6, .int 4)] := hl
      have hF : ∀ b, b ≠ a → b < sz → M9 b = M b := fun b q1 q2 => by rw [eX]; exact (bm_up_ne (by omega)).trans (hF b q1 q2)
      refine lv_iload hx hb dP_init_58 (lv_at hl 3 rfl) ?_
      refine lv_iconst (v := 4) hx hb dP_init_60 (by decide) ?_
      refine lv_icmp_ge (tgt := 112) hx hb dP_init_61 rfl (fun _ => ?_) (fun h => absurd h (by decide))
      exact bm_vret hQ hx hb hr hlk hM hS ⟨rfl, h0, hc2, hF⟩ (Nat.le_of_ble_eq_true rfl) (Nat.le_of_ble_eq_true rfl) dP_init_112
    | succ n ih =>
      intro i ls H locs M9 z9 hi hl hz hM hS eX
      have h0 : M9 a = some (.inr (4, [.ref sz])) := by rw [eX, bm_up_ne (bm_ne_ao hc2 h0)]; exact h0
      have h1 : M9 o = some (.inr (2, [.int dn, .long nu, .long sg, .int sp, .ref t1, .ref t0])) := by rw [eX, bm_up_ne (bm_ne_ao hc2 h1)]; exact h1
      have h2 : M9 t1 = some (.inl (ct 1, 12, .inr (.inl f1))) := by rw [eX, bm_up_ne (bm_ne_aa hc2 h2 (by decide))]; exact h2
      have h3 : M9 t0 = some (.inl (ct 1, 12, .inr (.inl f0))) := by rw [eX, bm_up_ne (bm_ne_aa hc2 h3 (by decide))]; exact h3
      have hc2 : M9 sz = some (.inl (ct 1, 16, .inr (.inl (bm_pn f1 f0 (bm_h3 mer.toInt64 non.toInt64 sg) (bm_p4 dn.toInt64 sg mer.toInt64 non.toInt64) i)))) := by rw [eX]; exact bm_up_self _ _ _
      refine lv_iload hx hb dP_init_58 (lv_at hl 3 rfl) ?_
      refine lv_iconst (v := 4) hx hb dP_init_60 (by decide) ?_
      refine lv_icmp_ge (tgt := 112) hx hb dP_init_61 rfl (fun h61 => absurd h61 (nI_ge (b := 4) (by omega) (by decide))) (fun h61 => ?_)
      refine lv_lload hx hb dP_init_64 (lv_at hl 2 rfl) ?_
      refine lv_iload hx hb dP_init_66 (lv_at hl 3 rfl) ?_
      refine bm_callE (va_runSN (As := [.long (bm_h3 mer.toInt64 non.toInt64 sg), .int (nI i)]) (rest := []) ⟨hx, hb, hml, hown, hts⟩ (bc_B_isOne l D ct base ad M9 z9 (bm_h3 mer.toInt64 non.toInt64 sg) (nI i)) ⟨va_cnB 2 hts (bm_goodW bw_196) rfl rfl rfl (hG.2.2.1.w194) (hts _ bw_1) (by decide +kernel) (by rw [← hR]; exact ⟨Nat.le_of_ble_eq_true rfl, Nat.le_of_ble_eq_true rfl⟩), hts _ bw_195, trivial⟩ (bm_preS hM hG hS hz) rfl rfl hl.1 rfl (lv_room (Nat.le_of_ble_eq_true rfl)) dP_init_68 (by rw [← hR]; exact ⟨Nat.le_of_ble_eq_true rfl, Nat.le_of_ble_eq_true rfl⟩)) hS (fun H locs hz hM hS => ?_)
      refine lv_if_eq (tgt := 81) hx hb dP_init_71 rfl (fun h71 => ?_) (fun h71 => ?_)
      · refine lv_aload_n hx hb dP_init_81 rfl (lv_at hl 1 rfl) ?_
        refine bm_get (ci := 2) (v := .ref t0) (C := "BlindMint$Coin") (T := bt_O) (N := 6) hx hb hts bu_O hown hK hM h1 rfl 5 (by decide) (hts _ bw_426) (fun _ h9 => h9) rfl dP_init_82 ?_
        refine lv_astore hx hb dP_init_85 hl (by decide) rfl (fun ls hl => ?_)
        have hl : lv_has ls 8 [(7, .ref t0), (0, .ref a), (1, .ref o), (4, .long (bm_h3 mer.toInt64 non.toInt64 sg)), (6, .int (nI i))] := hl
        refine lv_aload hx hb dP_init_87 (lv_at hl 0 rfl) ?_
        refine lv_iload hx hb dP_init_89 (lv_at hl 4 rfl) ?_
        refine lv_iconst (v := 3) hx hb dP_init_91 (by decide) ?_
        refine lv_imul hx hb dP_init_92 ?_
        refine lv_topi (fun t10 e_t10 => ?_)
        have e_t10 : t10 = nI (3 * i) := by rw [e_t10]; show nI i * nI 3 = _; rw [pk_mul, Nat.mul_comm]
        subst e_t10
        refine lv_aload_n hx hb dP_init_93 rfl (lv_at hl 1 rfl) ?_
        refine bm_get (ci := 4) (v := .ref sz) (C := "BlindMint$Payment") (T := bt_P) (N := 1) hx hb hts bu_P hown hK hM h0 rfl 0 (by decide) (hts _ bw_490) (fun _ h9 => h9) rfl dP_init_94 ?_
        refine lv_iload hx hb dP_init_97 (lv_at hl 4 rfl) ?_
        refine bm_callE (va_runS (As := [.int (nI i)]) (rest := [.ref sz, .int (nI (3 * i)), .ref t0]) ⟨hx, hb, hml, hown, hts⟩ (bc_P_firstOfPart l D ct base ad M9 z9 i) (va_cwS 1 hts (bm_goodS bw_185 bw_186 bw_16 bw_187) rfl rfl rfl (by decide +kernel) (by rw [← hR]; exact ⟨Nat.le_of_ble_eq_true rfl, Nat.le_of_ble_eq_true rfl⟩)) (bm_preS hM hG hS hz) rfl rfl hl.1 rfl (lv_room (Nat.le_of_ble_eq_true rfl)) dP_init_99 (by rw [← hR]; exact ⟨Nat.le_of_ble_eq_true rfl, Nat.le_of_ble_eq_true rfl⟩)) hS (fun H locs hz hM hS => ?_)
        refine lv_topi (fun t11 e_t11 => ?_)
        have e_t11 : t11 = nI (4 + 3 * i) := by rw [e_t11]; show nI 4 + nI _ * nI 3 = _; rw [pk_mul, nI_add, Nat.mul_comm]
        subst e_t11
        refine lv_iconst (v := 3) hx hb dP_init_102 (by decide) ?_
        refine bm_copy hx hb (hml.trans hl.1.symm) hown (hts _ bw_487) (hts _ bw_489) (hts _ bw_488) (hts _ bw_17) hK hM hS 1 h3 hc2 rfl (3 * i) (4 + 3 * i) 3 (bm_ix_nI (by omega)) (bm_ix_nI (by omega)) (bm_ix_nI (k := 3) (by decide)) (by omega) (by omega) (by rw [← hR]; exact Nat.le_of_ble_eq_true rfl) (by rw [← hR]; exact Nat.le_of_ble_eq_true rfl) dP_init_103 (fun H locs hM hS => ?_)
        obtain ⟨M12, eM12⟩ : ∃ X, X = bm_up M9 sz (.inl (ct 1, 16, .inr (.inl (bm_pn f1 f0 (bm_h3 mer.toInt64 non.toInt64 sg) (bm_p4 dn.toInt64 sg mer.toInt64 non.toInt64) (i + 1))))) := ⟨_, rfl⟩
        replace hM : bm_M D base M12 H := by rw [eM12, show bm_pn f1 f0 (bm_h3 mer.toInt64 non.toInt64 sg) (bm_p4 dn.toInt64 sg mer.toInt64 non.toInt64) (i + 1) = _ from bm_pn_n (bm_one_z h71)]; exact hM
        obtain ⟨zc13, hz⟩ : ∃ z, H.size = z := ⟨_, rfl⟩
        refine lv_iinc (v := nI (i + 1)) (k := 4) hx hb dP_init_106 hl rfl (bm_inc i) (by decide) rfl (fun ls hl => ?_)
        have hl : lv_has ls 8 [(6, .int (nI (i + 1))), (7, .ref t0), (0, .ref a), (1, .ref o), (4, .long (bm_h3 mer.toInt64 non.toInt64 sg))] := hl
        refine lv_goto (tgt := 58) hx hb dP_init_109 rfl ?_
        have hl : lv_has ls 8 [(0, .ref a), (1, .ref o), (4, .long (bm_h3 mer.toInt64 non.toInt64 sg)), (6, .int (nI (i + 1)))] := lv_sub hl [2, 3, 4, 0] rfl
        exact ih (i + 1) ls _ _ _ _ (by omega) hl hz hM hS (by rw [eM12, eX]; simp only [bm_up_up]; first | done | rfl)
      · refine lv_aload_n hx hb dP_init_74 rfl (lv_at hl 1 rfl) ?_
        refine bm_get (ci := 2) (v := .ref t1) (C := "BlindMint$Coin") (T := bt_O) (N := 6) hx hb hts bu_O hown hK hM h1 rfl 4 (by decide) (hts _ bw_424) (fun _ h9 => h9) rfl dP_init_75 ?_
        refine lv_goto (tgt := 85) hx hb dP_init_78 rfl ?_
        refine lv_astore hx hb dP_init_85 hl (by decide) rfl (fun ls hl => ?_)
        have hl : lv_has ls 8 [(7, .ref t1), (0, .ref a), (1, .ref o), (4, .long (bm_h3 mer.toInt64 non.toInt64 sg)), (6, .int (nI i))] := hl
        refine lv_aload hx hb dP_init_87 (lv_at hl 0 rfl) ?_
        refine lv_iload hx hb dP_init_89 (lv_at hl 4 rfl) ?_
        refine lv_iconst (v := 3) hx hb dP_init_91 (by decide) ?_
        refine lv_imul hx hb dP_init_92 ?_
        refine lv_topi (fun t14 e_t14 => ?_)
        have e_t14 : t14 = nI (3 * i) := by rw [e_t14]; show nI i * nI 3 = _; rw [pk_mul, Nat.mul_comm]
        subst e_t14
        refine lv_aload_n hx hb dP_init_93 rfl (lv_at hl 1 rfl) ?_
        refine bm_get (ci := 4) (v := .ref sz) (C := "BlindMint$Payment") (T := bt_P) (N := 1) hx hb hts bu_P hown hK hM h0 rfl 0 (by decide) (hts _ bw_490) (fun _ h9 => h9) rfl dP_init_94 ?_
        refine lv_iload hx hb dP_init_97 (lv_at hl 4 rfl) ?_
        refine bm_callE (va_runS (As := [.int (nI i)]) (rest := [.ref sz, .int (nI (3 * i)), .ref t1]) ⟨hx, hb, hml, hown, hts⟩ (bc_P_firstOfPart l D ct base ad M9 z9 i) (va_cwS 1 hts (bm_goodS bw_185 bw_186 bw_16 bw_187) rfl rfl rfl (by decide +kernel) (by rw [← hR]; exact ⟨Nat.le_of_ble_eq_true rfl, Nat.le_of_ble_eq_true rfl⟩)) (bm_preS hM hG hS hz) rfl rfl hl.1 rfl (lv_room (Nat.le_of_ble_eq_true rfl)) dP_init_99 (by rw [← hR]; exact ⟨Nat.le_of_ble_eq_true rfl, Nat.le_of_ble_eq_true rfl⟩)) hS (fun H locs hz hM hS => ?_)
        refine lv_topi (fun t15 e_t15 => ?_)
        have e_t15 : t15 = nI (4 + 3 * i) := by rw [e_t15]; show nI 4 + nI _ * nI 3 = _; rw [pk_mul, nI_add, Nat.mul_comm]
        subst e_t15
        refine lv_iconst (v := 3) hx hb dP_init_102 (by decide) ?_
        refine bm_copy hx hb (hml.trans hl.1.symm) hown (hts _ bw_487) (hts _ bw_489) (hts _ bw_488) (hts _ bw_17) hK hM hS 1 h2 hc2 rfl (3 * i) (4 + 3 * i) 3 (bm_ix_nI (by omega)) (bm_ix_nI (by omega)) (bm_ix_nI (k := 3) (by decide)) (by omega) (by omega) (by rw [← hR]; exact Nat.le_of_ble_eq_true rfl) (by rw [← hR]; exact Nat.le_of_ble_eq_true rfl) dP_init_103 (fun H locs hM hS => ?_)
        obtain ⟨M16, eM16⟩ : ∃ X, X = bm_up M9 sz (.inl (ct 1, 16, .inr (.inl (bm_pn f1 f0 (bm_h3 mer.toInt64 non.toInt64 sg) (bm_p4 dn.toInt64 sg mer.toInt64 non.toInt64) (i + 1))))) := ⟨_, rfl⟩
        replace hM : bm_M D base M16 H := by rw [eM16, show bm_pn f1 f0 (bm_h3 mer.toInt64 non.toInt64 sg) (bm_p4 dn.toInt64 sg mer.toInt64 non.toInt64) (i + 1) = _ from bm_pn_y (bm_one_nz h71)]; exact hM
        obtain ⟨zc17, hz⟩ : ∃ z, H.size = z := ⟨_, rfl⟩
        refine lv_iinc (v := nI (i + 1)) (k := 4) hx hb dP_init_106 hl rfl (bm_inc i) (by decide) rfl (fun ls hl => ?_)
        have hl : lv_has ls 8 [(6, .int (nI (i + 1))), (7, .ref t1), (0, .ref a), (1, .ref o), (4, .long (bm_h3 mer.toInt64 non.toInt64 sg))] := hl
        refine lv_goto (tgt := 58) hx hb dP_init_109 rfl ?_
        have hl : lv_has ls 8 [(0, .ref a), (1, .ref o), (4, .long (bm_h3 mer.toInt64 non.toInt64 sg)), (6, .int (nI (i + 1)))] := lv_sub hl [2, 3, 4, 0] rfl
        exact ih (i + 1) ls _ _ _ _ (by omega) hl hz hM hS (by rw [eM16, eX]; simp only [bm_up_up]; first | done | rfl)
  exact loop 4 0 ls _ _ _ _ rfl hl hz hM hS (bm_up_same hc2)
