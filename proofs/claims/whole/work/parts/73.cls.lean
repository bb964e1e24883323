set_option maxHeartbeats 4000000 in
set_option maxRecDepth 100000 in
theorem bc_C_init (l : Launch) (D : va_G) (ct : Nat → ClassId) (base : Nat) (ad : Nat → Nat) (M : bm_Map) (sz : Nat) (a : Nat) : Met l yC_init (bm_ws yC_init cC_init 1 none) { frames := 1, cells := 0, slots := 0, locals := 30 } (bm_Pre D ct base ad M sz [.ref a]) (bm_Post D base (bm_Is none M sz)) 0 0 (bm_A base) := by
  refine bm_ofB (cc := cC_init) (maxL := 1) (ret := none) (by decide +kernel) (Nat.le_of_ble_eq_true rfl) ?_
  intro vp ve s vm args below meth vc hx hb hr hlk hts hown hml hnm ls hl hz hM hG R Q hR hQ
  have hown : s.vm.findClass "BlindMint$Candidate" = some vm.cls := hown
  have hK := hG.K
  have hS : va_S (bm_A base) s.heap s.heap [] := va_S.rf
  have hl : lv_has ls 1 [(0, .ref a)] := hl
  refine lv_aload_n hx hb dC_init_0 rfl (lv_at hl 0 rfl) ?_
  refine W.objInit hx hb hown (hts _ bw_41) (hts _ bw_25) (hts _ bw_26) rfl (by rw [hml]; exact hl.1) rfl dC_init_1 (by rw [← hR]; exact Nat.le_of_ble_eq_true rfl) (by rw [← hR]; exact Nat.le_of_ble_eq_true rfl) ?_
  refine W.eq (g2 := F0 vm 4 ls []) rfl ?_
  exact bm_vret hQ hx hb hr hlk hM hS ⟨rfl, rfl, hz⟩ (Nat.le_refl _) (Nat.le_refl _) dC_init_4
set_option maxHeartbeats 4000000 in
set_option maxRecDepth 100000 in
theorem bc_A_init (l : Launch) (D : va_G) (ct : Nat → ClassId) (base : Nat) (ad : Nat → Nat) (M : bm_Map) (sz : Nat) (a : Nat) (h0 : M a = some (.inr (0, [.int 0, .null, .int 0]))) : Met l yA_init (bm_ws yA_init cA_init 1 none) { frames := 1, cells := 1, slots := 8, locals := 30 } (bm_Pre D ct base ad M sz [.ref a]) (bm_Post D base (fun v M1 n => v = none ∧ n = sz + 1 ∧ M1 a = some (.inr (0, [.int 100, .ref sz, .int 0])) ∧ M1 sz = some (.inl (ct 6, 8, .inr (.inr (.inr (.inr (fun _ => none)))))) ∧ ∀ b, b ≠ a → b < sz → M1 b = M b)) 1 8 (bm_A base) := by
  refine bm_ofB (cc := cA_init) (maxL := 1) (ret := none) (by decide +kernel) (Nat.le_of_ble_eq_true rfl) ?_
  intro vp ve s vm args below meth vc hx hb hr hlk hts hown hml hnm ls hl hz hM hG R Q hR hQ
  have hown : s.vm.findClass "BlindMint$Account" = some vm.cls := hown
  have hK := hG.K
  have hS : va_S (bm_A base) s.heap s.heap [] := va_S.rf
  have hl : lv_has ls 1 [(0, .ref a)] := hl
  have lt_0 : a < sz := hz ▸ hM.lt h0
  have hF : ∀ b, b ≠ a → b < sz → M b = M b := fun _ _ _ => rfl
  refine lv_aload_n hx hb dA_init_0 rfl (lv_at hl 0 rfl) ?_
  refine W.objInit hx hb hown (hts _ bw_92) (hts _ bw_25) (hts _ bw_26) rfl (by rw [hml]; exact hl.1) rfl dA_init_1 (by rw [← hR]; exact Nat.le_of_ble_eq_true rfl) (by rw [← hR]; exact Nat.le_of_ble_eq_true rfl) ?_
  refine W.eq (g2 := F0 vm 4 ls []) rfl ?_
  refine lv_aload_n hx hb dA_init_4 rfl (lv_at hl 0 rfl) ?_
  refine lv_bipush (v := 100) hx hb dA_init_5 (by decide) ?_
  refine bm_put (ci := 0) (v := .int 100) (ty := .int) (C := "BlindMint$Account") (T := bt_A) (N := 3) hx hb hts bu_A by_A bo_A bn_A hown hK hM hS h0 rfl 0 (by decide) (hts _ bw_95) (fun _ h9 => h9) rfl (by decide +kernel) rfl rfl (Nat.le_of_ble_eq_true rfl) dA_init_7 (fun H locs hz1 hM hS => ?_)
  replace hz := hz1.trans hz
  replace hM : bm_M D base (bm_up M a (.inr (0, [.int 100, .null, .int 0]))) H := hM
  obtain ⟨M1, eM1⟩ : ∃ X, X = bm_up M a (.inr (0, [.int 100, .null, .int 0])) := ⟨_, rfl⟩
  rw [← eM1] at hM
  replace h0 : M1 a = some (.inr (0, [.int 100, .null, .int 0])) := by rw [eM1]; exact bm_up_self _ _ _
  replace hF : ∀ b, b ≠ a → b < sz → M1 b = M b := fun b q1 q2 => by rw [eM1]; exact (bm_up_ne q1).trans (hF b q1 q2)
  clear eM1
  refine lv_aload_n hx hb dA_init_10 rfl (lv_at hl 0 rfl) ?_
  refine lv_bipush (v := 8) hx hb dA_init_11 (by decide) ?_
  refine bm_newqz hz hx hb hown (hts _ bw_93) (va_AO.use hG.2.2.1.o94) hK hM hS (Nat.le_trans hG.2.1 hS.1) 6 rfl (N' := 8) (by decide) (by decide) (Nat.le_of_ble_eq_true rfl) (by rw [← hR]; exact Nat.le_of_ble_eq_true rfl) (by rw [← hR]; exact Nat.le_of_ble_eq_true rfl) dA_init_13 (fun H hz1 hM hS => ?_)
  replace hz : H.size = sz + 1 := hz1
  obtain ⟨M2, eM2⟩ : ∃ X, X = bm_up M1 sz (.inl (ct 6, 8, .inr (.inr (.inr (.inr (fun _ => none)))))) := ⟨_, rfl⟩
  replace hM : bm_M D base M2 H := by rw [eM2]; exact hM
  replace h0 : M2 a = some (.inr (0, [.int 100, .null, .int 0])) := by rw [eM2, bm_up_ne (by omega)]; exact h0
  have hc3 : M2 sz = some (.inl (ct 6, 8, .inr (.inr (.inr (.inr (fun _ => none)))))) := by rw [eM2]; exact bm_up_self _ _ _
  replace hF : ∀ b, b ≠ a → b < sz → M2 b = M b := fun b q1 q2 => by rw [eM2]; exact (bm_up_ne (by omega)).trans (hF b q1 q2)
  clear eM2 hz1
  refine bm_putF (ci := 0) (v := .ref sz) (ty := (.array (.object "BlindMint$Coin"))) (C := "BlindMint$Account") (T := bt_A) (N := 3) hx hb hts bu_A by_A bo_A bn_A hown hK hM hS h0 rfl 1 (by decide) (hts _ bw_97) (fun _ h9 => h9) rfl hnm rfl (by decide +kernel) rfl rfl (Nat.le_of_ble_eq_true rfl) dA_init_16 (fun H locs hz1 hM hS => ?_)
  replace hz := hz1.trans hz
  replace hM : bm_M D base (bm_up M2 a (.inr (0, [.int 100, .ref sz, .int 0]))) H := hM
  obtain ⟨M4, eM4⟩ : ∃ X, X = bm_up M2 a (.inr (0, [.int 100, .ref sz, .int 0])) := ⟨_, rfl⟩
  rw [← eM4] at hM
  replace hc3 : M4 sz = some (.inl (ct 6, 8, .inr (.inr (.inr (.inr (fun _ => none)))))) := by rw [eM4, bm_up_ne (bm_ne_oa h0 hc3)]; exact hc3
  replace h0 : M4 a = some (.inr (0, [.int 100, .ref sz, .int 0])) := by rw [eM4]; exact bm_up_self _ _ _
  replace hF : ∀ b, b ≠ a → b < sz → M4 b = M b := fun b q1 q2 => by rw [eM4]; exact (bm_up_ne q1).trans (hF b q1 q2)
  clear eM4
  refine lv_aload_n hx hb dA_init_19 rfl (lv_at hl 0 rfl) ?_
  refine lv_iconst (v := 0) hx hb dA_init_20 (by decide) ?_
  refine bm_put (ci := 0) (v := .int 0) (ty := .int) (C := "BlindMint$Account") (T := bt_A) (N := 3) hx hb hts bu_A by_A bo_A bn_A hown hK hM hS h0 rfl 2 (by decide) (hts _ bw_99) (fun _ h9 => h9) rfl (by decide +kernel) rfl rfl (Nat.le_of_ble_eq_true rfl) dA_init_21 (fun H locs hz1 hM hS => ?_)
  replace hz := hz1.trans hz
  replace hM : bm_M D base (bm_up M4 a (.inr (0, [.int 100, .ref sz, .int 0]))) H := hM
  obtain ⟨M5, eM5⟩ : ∃ X, X = bm_up M4 a (.inr (0, [.int 100, .ref sz, .int 0])) := ⟨_, rfl⟩
  rw [← eM5] at hM
  replace hc3 : M5 sz = some (.inl (ct 6, 8, .inr (.inr (.inr (.inr (fun _ => none)))))) := by rw [eM5, bm_up_ne (bm_ne_oa h0 hc3)]; exact hc3
  replace h0 : M5 a = some (.inr (0, [.int 100, .ref sz, .int 0])) := by rw [eM5]; exact bm_up_self _ _ _
  replace hF : ∀ b, b ≠ a → b < sz → M5 b = M b := fun b q1 q2 => by rw [eM5]; exact (bm_up_ne q1).trans (hF b q1 q2)
  clear eM5
  exact bm_vret hQ hx hb hr hlk hM hS ⟨rfl, hz, h0, hc3, hF⟩ (Nat.le_of_ble_eq_true rfl) (Nat.le_of_ble_eq_true rfl) dA_init_24
set_option maxHeartbeats 4000000 in
set_option maxRecDepth 100000 in
theorem bc_O_init (l : Launch) (D : va_G) (ct : Nat → ClassId) (base : Nat) (ad : Nat → Nat) (M : bm_Map) (sz : Nat) (a y : Nat) (dn : Int32) (nu sg : Int64) (pf : Nat → Option Nat) (cd : Nat → Nat) (vA vC vE vB vX vY vP : Nat → Int64) (h0 : M a = some (.inr (2, [.int 0, .long 0, .long 0, .int 0, .null, .null]))) (h1 : M y = some (.inl (ct 5, 4, .inr (.inr (.inr (.inr pf)))))) (k0 : M (cd 0) = some (.inr (1, [.long (vA 0), .long (vC 0), .long (vE 0), .long (vB 0), .long (vX 0), .long (vY 0), .long (vP 0)]))) (k1 : M (cd 1) = some (.inr (1, [.long (vA 1), .long (vC 1), .long (vE 1), .long (vB 1), .long (vX 1), .long (vY 1), .long (vP 1)]))) (k2 : M (cd 2) = some (.inr (1, [.long (vA 2), .long (vC 2), .long (vE 2), .long (vB 2), .long (vX 2), .long (vY 2), .long (vP 2)]))) (k3 : M (cd 3) = some (.inr (1, [.long (vA 3), .long (vC 3), .long (vE 3), .long (vB 3), .long (vX 3), .long (vY 3), .long (vP 3)]))) (hpf : ∀ j, j < 4 → pf j = some (cd j)) : Met l yO_init (bm_ws yO_init cO_init 10 none) { frames := 1, cells := 2, slots := 24, locals := 30 } (bm_Pre D ct base ad M sz [.ref a, .int dn, .long nu, .long sg, .ref y]) (bm_Post D base (fun v M1 n => v = none ∧ n = sz + 2 ∧ M1 a = some (.inr (2, [.int dn, .long nu, .long sg, .int 0, .ref sz, .ref (sz + 1)])) ∧ (∃ f, M1 sz = some (.inl (ct 1, 12, .inr (.inl f))) ∧ ∀ t, t < 12 → f t = bm_v3 vA vC vY t) ∧ (∃ f, M1 (sz + 1) = some (.inl (ct 1, 12, .inr (.inl f))) ∧ ∀ t, t < 12 → f t = bm_v3 vB vE vX t) ∧ ∀ b, b ≠ a → b < sz → M1 b = M b)) 2 24 (bm_A base) := by
  refine bm_ofB (cc := cO_init) (maxL := 10) (ret := none) (by decide +kernel) (Nat.le_of_ble_eq_true rfl) ?_
  intro vp ve s vm args below meth vc hx hb hr hlk hts hown hml hnm ls hl hz hM hG R Q hR hQ
  have hown : s.vm.findClass "BlindMint$Coin" = some vm.cls := hown
  have hK := hG.K
  have hS : va_S (bm_A base) s.heap s.heap [] := va_S.rf
  have hl : lv_has ls 10 [(0, .ref a), (1, .int dn), (2, .long nu), (4, .long sg), (6, .ref y)] := hl
  have lt_0 : a < sz := hz ▸ hM.lt h0
  have lt_1 : y < sz := hz ▸ hM.lt h1
  have lt_2 : cd 0 < sz := hz ▸ hM.lt k0
  have lt_3 : cd 1 < sz := hz ▸ hM.lt k1
  have lt_4 : cd 2 < sz := hz ▸ hM.lt k2
  have lt_5 : cd 3 < sz := hz ▸ hM.lt k3
  have hF : ∀ b, b ≠ a → b < sz → M b = M b := fun _ _ _ => rfl
  refine lv_aload_n hx hb dO_init_0 rfl (lv_at hl 0 rfl) ?_
  refine W.objInit hx hb hown (hts _ bw_411) (hts _ bw_25) (hts _ bw_26) rfl (by rw [hml]; exact hl.1) rfl dO_init_1 (by rw [← hR]; exact Nat.le_of_ble_eq_true rfl) (by rw [← hR]; exact Nat.le_of_ble_eq_true rfl) ?_
  refine W.eq (g2 := F0 vm 4 ls []) rfl ?_
  refine lv_aload_n hx hb dO_init_4 rfl (lv_at hl 0 rfl) ?_
  refine lv_iconst (v := 0) hx hb dO_init_5 (by decide) ?_
  refine bm_put (ci := 2) (v := .int 0) (ty := .boolean) (C := "BlindMint$Coin") (T := bt_O) (N := 6) hx hb hts bu_O by_O bo_O bn_O hown hK hM hS h0 rfl 3 (by decide) (hts _ bw_420) (fun _ h9 => h9) rfl (by decide +kernel) rfl rfl (Nat.le_of_ble_eq_true rfl) dO_init_6 (fun H locs hz1 hM hS => ?_)
  replace hz := hz1.trans hz
  replace hM : bm_M D base (bm_up M a (.inr (2, [.int 0, .long 0, .long 0, .int 0, .null, .null]))) H := hM
  obtain ⟨M1, eM1⟩ : ∃ X, X = bm_up M a (.inr (2, [.int 0, .long 0, .long 0, .int 0, .null, .null])) := ⟨_, rfl⟩
  rw [← eM1] at hM
  replace h1 : M1 y = some (.inl (ct 5, 4, .inr (.inr (.inr (.inr pf))))) := by rw [eM1, bm_up_ne (bm_ne_oa h0 h1)]; exact h1
  replace k0 : M1 (cd 0) = some (.inr (1, [.long (vA 0), .long (vC 0), .long (vE 0), .long (vB 0), .long (vX 0), .long (vY 0), .long (vP 0)])) := by rw [eM1, bm_up_ne (bm_ne_oo h0 k0 (by decide))]; exact k0
  replace k1 : M1 (cd 1) = some (.inr (1, [.long (vA 1), .long (vC 1), .long (vE 1), .long (vB 1), .long (vX 1), .long (vY 1), .long (vP 1)])) := by rw [eM1, bm_up_ne (bm_ne_oo h0 k1 (by decide))]; exact k1
  replace k2 : M1 (cd 2) = some (.inr (1, [.long (vA 2), .long (vC 2), .long (vE 2), .long (vB 2), .long (vX 2), .long (vY 2), .long (vP 2)])) := by rw [eM1, bm_up_ne (bm_ne_oo h0 k2 (by decide))]; exact k2
  replace k3 : M1 (cd 3) = some (.inr (1, [.long (vA 3), .long (vC 3), .long (vE 3), .long (vB 3), .long (vX 3), .long (vY 3), .long (vP 3)])) := by rw [eM1, bm_up_ne (bm_ne_oo h0 k3 (by decide))]; exact k3
  replace h0 : M1 a = some (.inr (2, [.int 0, .long 0, .long 0, .int 0, .null, .null])) := by rw [eM1]; exact bm_up_self _ _ _
  replace hF : ∀ b, b ≠ a → b < sz → M1 b = M b := fun b q1 q2 => by rw [eM1]; exact (bm_up_ne q1).trans (hF b q1 q2)
  clear eM1
  refine lv_aload_n hx hb dO_init_9 rfl (lv_at hl 0 rfl) ?_
  refine lv_bipush (v := 12) hx hb dO_init_10 (by decide) ?_
  refine bm_newaz (atype := .long) (a0 := (12, .inr (.inl (fun _ => 0)))) hz hx hb (hts _ bw_108) (ty := .long) rfl hK hM hS (Nat.le_trans hG.2.1 hS.1) 1 rfl (fun C h => by cases h) (bm_aL 12) (by decide) (by decide) (Nat.le_of_ble_eq_true rfl) (by rw [← hR]; exact Nat.le_of_ble_eq_true rfl) (by rw [← hR]; exact Nat.le_of_ble_eq_true rfl) dO_init_12 (fun H hz1 hM hS => ?_)
  replace hz : H.size = sz + 1 := hz1
  obtain ⟨M2, eM2⟩ : ∃ X, X = bm_up M1 sz (.inl (ct 1, 12, .inr (.inl (fun _ => 0)))) := ⟨_, rfl⟩
  replace hM : bm_M D base M2 H := by rw [eM2]; exact hM
  replace h0 : M2 a = some (.inr (2, [.int 0, .long 0, .long 0, .int 0, .null, .null])) := by rw [eM2, bm_up_ne (by omega)]; exact h0
  replace h1 : M2 y = some (.inl (ct 5, 4, .inr (.inr (.inr (.inr pf))))) := by rw [eM2, bm_up_ne (by omega)]; exact h1
  replace k0 : M2 (cd 0) = some (.inr (1, [.long (vA 0), .long (vC 0), .long (vE 0), .long (vB 0), .long (vX 0), .long (vY 0), .long (vP 0)])) := by rw [eM2, bm_up_ne (by omega)]; exact k0
  replace k1 : M2 (cd 1) = some (.inr (1, [.long (vA 1), .long (vC 1), .long (vE 1), .long (vB 1), .long (vX 1), .long (vY 1), .long (vP 1)])) := by rw [eM2, bm_up_ne (by omega)]; exact k1
  replace k2 : M2 (cd 2) = some (.inr (1, [.long (vA 2), .long (vC 2), .long (vE 2), .long (vB 2), .long (vX 2), .long (vY 2), .long (vP 2)])) := by rw [eM2, bm_up_ne (by omega)]; exact k2
  replace k3 : M2 (cd 3) = some (.inr (1, [.long (vA 3), .long (vC 3), .long (vE 3), .long (vB 3), .long (vX 3), .long (vY 3), .long (vP 3)])) := by rw [eM2, bm_up_ne (by omega)]; exact k3
  have hc3 : M2 sz = some (.inl (ct 1, 12, .inr (.inl (fun _ => 0)))) := by rw [eM2]; exact bm_up_self _ _ _
  replace hF : ∀ b, b ≠ a → b < sz → M2 b = M b := fun b q1 q2 => by rw [eM2]; exact (bm_up_ne (by omega)).trans (hF b q1 q2)
  clear eM2 hz1
  refine bm_putF (ci := 2) (v := .ref sz) (ty := (.array .long)) (C := "BlindMint$Coin") (T := bt_O) (N := 6) hx hb hts bu_O by_O bo_O bn_O hown hK hM hS h0 rfl 4 (by decide) (hts _ bw_423) (fun _ h9 => h9) rfl hnm rfl (by decide +kernel) rfl rfl (Nat.le_of_ble_eq_true rfl) dO_init_14 (fun H locs hz1 hM hS => ?_)
  replace hz := hz1.trans hz
  replace hM : bm_M D base (bm_up M2 a (.inr (2, [.int 0, .long 0, .long 0, .int 0, .ref sz, .null]))) H := hM
  obtain ⟨M4, eM4⟩ : ∃ X, X = bm_up M2 a (.inr (2, [.int 0, .long 0, .long 0, .int 0, .ref sz, .null])) := ⟨_, rfl⟩
  rw [← eM4] at hM
  replace h1 : M4 y = some (.inl (ct 5, 4, .inr (.inr (.inr (.inr pf))))) := by rw [eM4, bm_up_ne (bm_ne_oa h0 h1)]; exact h1
  replace k0 : M4 (cd 0) = some (.inr (1, [.long (vA 0), .long (vC 0), .long (vE 0), .long (vB 0), .long (vX 0), .long (vY 0), .long (vP 0)])) := by rw [eM4, bm_up_ne (bm_ne_oo h0 k0 (by decide))]; exact k0
  replace k1 : M4 (cd 1) = some (.inr (1, [.long (vA 1), .long (vC 1), .long (vE 1), .long (vB 1), .long (vX 1), .long (vY 1), .long (vP 1)])) := by rw [eM4, bm_up_ne (bm_ne_oo h0 k1 (by decide))]; exact k1
  replace k2 : M4 (cd 2) = some (.inr (1, [.long (vA 2), .long (vC 2), .long (vE 2), .long (vB 2), .long (vX 2), .long (vY 2), .long (vP 2)])) := by rw [eM4, bm_up_ne (bm_ne_oo h0 k2 (by decide))]; exact k2
  replace k3 : M4 (cd 3) = some (.inr (1, [.long (vA 3), .long (vC 3), .long (vE 3), .long (vB 3), .long (vX 3), .long (vY 3), .long (vP 3)])) := by rw [eM4, bm_up_ne (bm_ne_oo h0 k3 (by decide))]; exact k3
  replace hc3 : M4 sz = some (.inl (ct 1, 12, .inr (.inl (fun _ => 0)))) := by rw [eM4, bm_up_ne (bm_ne_oa h0 hc3)]; exact hc3
  replace h0 : M4 a = some (.inr (2, [.int 0, .long 0, .long 0, .int 0, .ref sz, .null])) := by rw [eM4]; exact bm_up_self _ _ _
  replace hF : ∀ b, b ≠ a → b < sz → M4 b = M b := fun b q1 q2 => by rw [eM4]; exact (bm_up_ne q1).trans (hF b q1 q2)
  clear eM4
  refine lv_aload_n hx hb dO_init_17 rfl (lv_at hl 0 rfl) ?_
  refine lv_bipush (v := 12) hx hb dO_init_18 (by decide) ?_
  refine bm_newaz (atype := .long) (a0 := (12, .inr (.inl (fun _ => 0)))) hz hx hb (hts _ bw_108) (ty := .long) rfl hK hM hS (Nat.le_trans hG.2.1 hS.1) 1 rfl (fun C h => by cases h) (bm_aL 12) (by decide) (by decide) (Nat.le_of_ble_eq_true rfl) (by rw [← hR]; exact Nat.le_of_ble_eq_true rfl) (by rw [← hR]; exact Nat.le_of_ble_eq_true rfl) dO_init_20 (fun H hz1 hM hS => ?_)
  replace hz : H.size = sz + 2 := hz1
  obtain ⟨M5, eM5⟩ : ∃ X, X = bm_up M4 (sz + 1) (.inl (ct 1, 12, .inr (.inl (fun _ => 0)))) := ⟨_, rfl⟩
  replace hM : bm_M D base M5 H := by rw [eM5]; exact hM
  replace h0 : M5 a = some (.inr (2, [.int 0, .long 0, .long 0, .int 0, .ref sz, .null])) := by rw [eM5, bm_up_ne (by omega)]; exact h0
  replace h1 : M5 y = some (.inl (ct 5, 4, .inr (.inr (.inr (.inr pf))))) := by rw [eM5, bm_up_ne (by omega)]; exact h1
  replace k0 : M5 (cd 0) = some (.inr (1, [.long (vA 0), .long (vC 0), .long (vE 0), .long (vB 0), .long (vX 0), .long (vY 0), .long (vP 0)])) := by rw [eM5, bm_up_ne (by omega)]; exact k0
  replace k1 : M5 (cd 1) = some (.inr (1, [.long (vA 1), .long (vC 1), .long (vE 1), .long (vB 1), .long (vX 1), .long (vY 1), .long (vP 1)])) := by rw [eM5, bm_up_ne (by omega)]; exact k1
  replace k2 : M5 (cd 2) = some (.inr (1, [.long (vA 2), .long (vC 2), .long (vE 2), .long (vB 2), .long (vX 2), .long (vY 2), .long (vP 2)])) := by rw [eM5, bm_up_ne (by omega)]; exact k2
  replace k3 : M5 (cd 3) = some (.inr (1, [.long (vA 3), .long (vC 3), .long (vE 3), .long (vB 3), .long (vX 3), .long (vY 3), .long (vP 3)])) := by rw [eM5, bm_up_ne (by omega)]; exact k3
  replace hc3 : M5 sz = some (.inl (ct 1, 12, .inr (.inl (fun _ => 0)))) := by rw [eM5, bm_up_ne (bm_ne0 (k := 0))]; exact hc3
  have hc6 : M5 (sz + 1) = some (.inl (ct 1, 12, .inr (.inl (fun _ => 0)))) := by rw [eM5]; exact bm_up_self _ _ _
  replace hF : ∀ b, b ≠ a → b < sz → M5 b = M b := fun b q1 q2 => by rw [eM5]; exact (bm_up_ne (by omega)).trans (hF b q1 q2)
  clear eM5 hz1
  refine bm_putF (ci := 2) (v := .ref (sz + 1)) (ty := (.array .long)) (C := "BlindMint$Coin") (T := bt_O) (N := 6) hx hb hts bu_O by_O bo_O bn_O hown hK hM hS h0 rfl 5 (by decide) (hts _ bw_425) (fun _ h9 => h9) rfl hnm rfl (by decide +kernel) rfl rfl (Nat.le_of_ble_eq_true rfl) dO_init_22 (fun H locs hz1 hM hS => ?_)
  replace hz := hz1.trans hz
  replace hM : bm_M D base (bm_up M5 a (.inr (2, [.int 0, .long 0, .long 0, .int 0, .ref sz, .ref (sz + 1)]))) H := hM
  obtain ⟨M7, eM7⟩ : ∃ X, X = bm_up M5 a (.inr (2, [.int 0, .long 0, .long 0, .int 0, .ref sz, .ref (sz + 1)])) := ⟨_, rfl⟩
  rw [← eM7] at hM
  replace h1 : M7 y = some (.inl (ct 5, 4, .inr (.inr (.inr (.inr pf))))) := by rw [eM7, bm_up_ne (bm_ne_oa h0 h1)]; exact h1
  replace k0 : M7 (cd 0) = some (.inr (1, [.long (vA 0), .long (vC 0), .long (vE 0), .long (vB 0), .long (vX 0), .long (vY 0), .long (vP 0)])) := by rw [eM7, bm_up_ne (bm_ne_oo h0 k0 (by decide))]; exact k0
  replace k1 : M7 (cd 1) = some (.inr (1, [.long (vA 1), .long (vC 1), .long (vE 1), .long (vB 1), .long (vX 1), .long (vY 1), .long (vP 1)])) := by rw [eM7, bm_up_ne (bm_ne_oo h0 k1 (by decide))]; exact k1
  replace k2 : M7 (cd 2) = some (.inr (1, [.long (vA 2), .long (vC 2), .long (vE 2), .long (vB 2), .long (vX 2), .long (vY 2), .long (vP 2)])) := by rw [eM7, bm_up_ne (bm_ne_oo h0 k2 (by decide))]; exact k2
  replace k3 : M7 (cd 3) = some (.inr (1, [.long (vA 3), .long (vC 3), .long (vE 3), .long (vB 3), .long (vX 3), .long (vY 3), .long (vP 3)])) := by rw [eM7, bm_up_ne (bm_ne_oo h0 k3 (by decide))]; exact k3
  replace hc3 : M7 sz = some (.inl (ct 1, 12, .inr (.inl (fun _ => 0)))) := by rw [eM7, bm_up_ne (bm_ne_oa h0 hc3)]; exact hc3
  replace hc6 : M7 (sz + 1) = some (.inl (ct 1, 12, .inr (.inl (fun _ => 0)))) := by rw [eM7, bm_up_ne (bm_ne_oa h0 hc6)]; exact hc6
  replace h0 : M7 a = some (.inr (2, [.int 0, .long 0, .long 0, .int 0, .ref sz, .ref (sz + 1)])) := by rw [eM7]; exact bm_up_self _ _ _
  replace hF : ∀ b, b ≠ a → b < sz → M7 b = M b := fun b q1 q2 => by rw [eM7]; exact (bm_up_ne q1).trans (hF b q1 q2)
  clear eM7
  refine lv_aload_n hx hb dO_init_25 rfl (lv_at hl 0 rfl) ?_
  refine lv_iload_n hx hb dO_init_26 rfl (lv_at hl 1 rfl) ?_
  refine bm_putF (ci := 2) (v := .int dn) (ty := .int) (C := "BlindMint$Coin") (T := bt_O) (N := 6) hx hb hts bu_O by_O bo_O bn_O hown hK hM hS h0 rfl 0 (by decide) (hts _ bw_413) (fun _ h9 => h9) rfl hnm rfl (by decide +kernel) rfl rfl (Nat.le_of_ble_eq_true rfl) dO_init_27 (fun H locs hz1 hM hS => ?_)
  replace hz := hz1.trans hz
  replace hM : bm_M D base (bm_up M7 a (.inr (2, [.int dn, .long 0, .long 0, .int 0, .ref sz, .ref (sz + 1)]))) H := hM
  obtain ⟨M8, eM8⟩ : ∃ X, X = bm_up M7 a (.inr (2, [.int dn, .long 0, .long 0, .int 0, .ref sz, .ref (sz + 1)])) := ⟨_, rfl⟩
  rw [← eM8] at hM
  replace h1 : M8 y = some (.inl (ct 5, 4, .inr (.inr (.inr (.inr pf))))) := by rw [eM8, bm_up_ne (bm_ne_oa h0 h1)]; exact h1
  replace k0 : M8 (cd 0) = some (.inr (1, [.long (vA 0), .long (vC 0), .long (vE 0), .long (vB 0), .long (vX 0), .long (vY 0), .long (vP 0)])) := by rw [eM8, bm_up_ne (bm_ne_oo h0 k0 (by decide))]; exact k0
  replace k1 : M8 (cd 1) = some (.inr (1, [.long (vA 1), .long (vC 1), .long (vE 1), .long (vB 1), .long (vX 1), .long (vY 1), .long (vP 1)])) := by rw [eM8, bm_up_ne (bm_ne_oo h0 k1 (by decide))]; exact k1
  replace k2 : M8 (cd 2) = some (.inr (1, [.long (vA 2), .long (vC 2), .long (vE 2), .long (vB 2), .long (vX 2), .long (vY 2), .long (vP 2)])) := by rw [eM8, bm_up_ne (bm_ne_oo h0 k2 (by decide))]; exact k2
  replace k3 : M8 (cd 3) = some (.inr (1, [.long (vA 3), .long (vC 3), .long (vE 3), .long (vB 3), .long (vX 3), .long (vY 3), .long (vP 3)])) := by rw [eM8, bm_up_ne (bm_ne_oo h0 k3 (by decide))]; exact k3
  replace hc3 : M8 sz = some (.inl (ct 1, 12, .inr (.inl (fun _ => 0)))) := by rw [eM8, bm_up_ne (bm_ne_oa h0 hc3)]; exact hc3
  replace hc6 : M8 (sz + 1) = some (.inl (ct 1, 12, .inr (.inl (fun _ => 0)))) := by rw [eM8, bm_up_ne (bm_ne_oa h0 hc6)]; exact hc6
  replace h0 : M8 a = some (.inr (2, [.int dn, .long 0, .long 0, .int 0, .ref sz, .ref (sz + 1)])) := by rw [eM8]; exact bm_up_self _ _ _
  replace hF : ∀ b, b ≠ a → b < sz → M8 b = M b := fun b q1 q2 => by rw [eM8]; exact (bm_up_ne q1).trans (hF b q1 q2)
  clear eM8
  refine lv_aload_n hx hb dO_init_30 rfl (lv_at hl 0 rfl) ?_
  refine lv_lload_n hx hb dO_init_31 rfl (lv_at hl 2 rfl) ?_
  refine bm_putF (ci := 2) (v := .long nu) (ty := .long) (C := "BlindMint$Coin") (T := bt_O) (N := 6) hx hb hts bu_O by_O bo_O bn_O hown hK hM hS h0 rfl 1 (by decide) (hts _ bw_415) (fun _ h9 => h9) rfl hnm rfl (by decide +kernel) rfl rfl (Nat.le_of_ble_eq_true rfl) dO_init_32 (fun H locs hz1 hM hS => ?_)
  replace hz := hz1.trans hz
  replace hM : bm_M D base (bm_up M8 a (.inr (2, [.int dn, .long nu, .long 0, .int 0, .ref sz, .ref (sz + 1)]))) H := hM
  obtain ⟨M9, eM9⟩ : ∃ X, X = bm_up M8 a (.inr (2, [.int dn, .long nu, .long 0, .int 0, .ref sz, .ref (sz + 1)])) := ⟨_, rfl⟩
  rw [← eM9] at hM
  replace h1 : M9 y = some (.inl (ct 5, 4, .inr (.inr (.inr (.inr pf))))) := by rw [eM9, bm_up_ne (bm_ne_oa h0 h1)]; exact h1
  replace k0 : M9 (cd 0) = some (.inr (1, [.long (vA 0), .long (vC 0), .long (vE 0), .long (vB 0), .long (vX 0), .long (vY 0), .long (vP 0)])) := by rw [eM9, bm_up_ne (bm_ne_oo h0 k0 (by decide))]; exact k0
  replace k1 : M9 (cd 1) = some (.inr (1, [.long (vA 1), .long (vC 1), .long (vE 1), .long (vB 1), .long (vX 1), .long (vY 1), .long (vP 1)])) := by rw [eM9, bm_up_ne (bm_ne_oo h0 k1 (by decide))]; exact k1
  replace k2 : M9 (cd 2) = some (.inr (1, [.long (vA 2), .long (vC 2), .long (vE 2), .long (vB 2), .long (vX 2), .long (vY 2), .long (vP 2)])) := by rw [eM9, bm_up_ne (bm_ne_oo h0 k2 (by decide))]; exact k2
  replace k3 : M9 (cd 3) = some (.inr (1, [.long (vA 3), .long (vC 3), .long (vE 3), .long (vB 3), .long (vX 3), .long (vY 3), .long (vP 3)])) := by rw [eM9, bm_up_ne (bm_ne_oo h0 k3 (by decide))]; exact k3
  replace hc3 : M9 sz = some (.inl (ct 1, 12, .inr (.inl (fun _ => 0)))) := by rw [eM9, bm_up_ne (bm_ne_oa h0 hc3)]; exact hc3
  replace hc6 : M9 (sz + 1) = some (.inl (ct 1, 12, .inr (.inl (fun _ => 0)))) := by rw [eM9, bm_up_ne (bm_ne_oa h0 hc6)]; exact hc6
  replace h0 : M9 a = some (.inr (2, [.int dn, .long nu, .long 0, .int 0, .ref sz, .ref (sz + 1)])) := by rw [eM9]; exact bm_up_self _ _ _
  replace hF : ∀ b, b ≠ a → b < sz → M9 b = M b := fun b q1 q2 => by rw [eM9]; exact (bm_up_ne q1).trans (hF b q1 q2)
  clear eM9
  refine lv_aload_n hx hb dO_init_35 rfl (lv_at hl 0 rfl) ?_
  refine lv_lload hx hb dO_init_36 (lv_at hl 3 rfl) ?_
  refine bm_putF (ci := 2) (v := .long sg) (ty := .long) (C := "BlindMint$Coin") (T := bt_O) (N := 6) hx hb hts bu_O by_O bo_O bn_O hown hK hM hS h0 rfl 2 (by decide) (hts _ bw_418) (fun _ h9 => h9) rfl hnm rfl (by decide +kernel) rfl rfl (Nat.le_of_ble_eq_true rfl) dO_init_38 (fun H locs hz1 hM hS => ?_)
  replace hz := hz1.trans hz
  replace hM : bm_M D base (bm_up M9 a (.inr (2, [.int dn, .long nu, .long sg, .int 0, .ref sz, .ref (sz + 1)]))) H := hM
  obtain ⟨M10, eM10⟩ : ∃ X, X = bm_up M9 a (.inr (2, [.int dn, .long nu, .long sg, .int 0, .ref sz, .ref (sz + 1)])) := ⟨_, rfl⟩
  rw [← eM10] at hM
  replace h1 : M10 y = some (.inl (ct 5, 4, .inr (.inr (.inr (.inr pf))))) := by rw [eM10, bm_up_ne (bm_ne_oa h0 h1)]; exact h1
  replace k0 : M10 (cd 0) = some (.inr (1, [.long (vA 0), .long (vC 0), .long (vE 0), .long (vB 0), .long (vX 0), .long (vY 0), .long (vP 0)])) := by rw [eM10, bm_up_ne (bm_ne_oo h0 k0 (by decide))]; exact k0
  replace k1 : M10 (cd 1) = some (.inr (1, [.long (vA 1), .long (vC 1), .long (vE 1), .long (vB 1), .long (vX 1), .long (vY 1), .long (vP 1)])) := by rw [eM10, bm_up_ne (bm_ne_oo h0 k1 (by decide))]; exact k1
  replace k2 : M10 (cd 2) = some (.inr (1, [.long (vA 2), .long (vC 2), .long (vE 2), .long (vB 2), .long (vX 2), .long (vY 2), .long (vP 2)])) := by rw [eM10, bm_up_ne (bm_ne_oo h0 k2 (by decide))]; exact k2
  replace k3 : M10 (cd 3) = some (.inr (1, [.long (vA 3), .long (vC 3), .long (vE 3), .long (vB 3), .long (vX 3), .long (vY 3), .long (vP 3)])) := by rw [eM10, bm_up_ne (bm_ne_oo h0 k3 (by decide))]; exact k3
  replace hc3 : M10 sz = some (.inl (ct 1, 12, .inr (.inl (fun _ => 0)))) := by rw [eM10, bm_up_ne (bm_ne_oa h0 hc3)]; exact hc3
  replace hc6 : M10 (sz + 1) = some (.inl (ct 1, 12, .inr (.inl (fun _ => 0)))) := by rw [eM10, bm_up_ne (bm_ne_oa h0 hc6)]; exact hc6
  replace h0 : M10 a = some (.inr (2, [.int dn, .long nu, .long sg, .int 0, .ref sz, .ref (sz + 1)])) := by rw [eM10]; exact bm_up_self _ _ _
  replace hF : ∀ b, b ≠ a → b < sz → M10 b = M b := fun b q1 q2 => by rw [eM10]; exact (bm_up_ne q1).trans (hF b q1 q2)
  clear eM10
  refine lv_iconst (v := 0) hx hb dO_init_41 (by decide) ?_
  refine lv_istore hx hb dO_init_42 hl (by decide) rfl (fun ls hl => ?_)
  have hl : lv_has ls 10 [(7, .int 0), (0, .ref a), (1, .int dn), (2, .long nu), (4, .long sg), (6, .ref y)] := hl
  refine lv_iload hx hb dO_init_44 (lv_at hl 0 rfl) ?_
  refine lv_iconst (v := 4) hx hb dO_init_46 (by decide) ?_
  refine lv_icmp_ge (tgt := 149) hx hb dO_init_47 rfl (fun h => absurd h (by decide)) (fun _ => ?_)
  refine lv_aload hx hb dO_init_50 (lv_at hl 5 rfl) ?_
  refine lv_iload hx hb dO_init_52 (lv_at hl 0 rfl) ?_
  refine bm_aald (v := .ref (cd 0)) hx hb hK hM 5 h1 rfl 0 (bm_ix_nI (k := 0) (by decide)) (by decide) (by rw [hpf 0 (by decide)]; rfl) dO_init_54 ?_
  refine lv_astore hx hb dO_init_55 hl (by decide) rfl (fun ls hl => ?_)
  have hl : lv_has ls 10 [(8, .ref (cd 0)), (7, .int 0), (0, .ref a), (1, .int dn), (2, .long nu), (4, .long sg), (6, .ref y)] := hl
  refine lv_iload hx hb dO_init_57 (lv_at hl 1 rfl) ?_
  refine lv_iconst (v := 3) hx hb dO_init_59 (by decide) ?_
  refine lv_imul hx hb dO_init_60 ?_
  refine lv_topi (fun t11 e_t11 => ?_)
  have e_t11 : t11 = 0 := by rw [e_t11]; decide
  subst e_t11
  refine lv_istore hx hb dO_init_61 hl (by decide) rfl (fun ls hl => ?_)
  have hl : lv_has ls 10 [(9, .int 0), (8, .ref (cd 0)), (7, .int 0), (0, .ref a), (1, .int dn), (2, .long nu), (4, .long sg), (6, .ref y)] := hl
  refine lv_aload_n hx hb dO_init_63 rfl (lv_at hl 3 rfl) ?_
  refine bm_get (ci := 2) (v := .ref sz) (C := "BlindMint$Coin") (T := bt_O) (N := 6) hx hb hts bu_O hown hK hM h0 rfl 4 (by decide) (hts _ bw_423) (fun _ h9 => h9) rfl dO_init_64 ?_
  refine lv_iload hx hb dO_init_67 (lv_at hl 0 rfl) ?_
  refine lv_aload hx hb dO_init_69 (lv_at hl 1 rfl) ?_
  refine bm_get (ci := 1) (v := .long (vA 0)) (C := "BlindMint$Candidate") (T := bt_C) (N := 7) hx hb hts bu_C hown hK hM k0 rfl 0 (by decide) (hts _ bw_42) (fun _ h9 => h9) rfl dO_init_71 ?_
  refine bm_last hx hb hK hM hS 1 hc3 rfl 0 (bm_ix_nI (k := 0) (by decide)) (by decide) dO_init_74 (fun H locs hz1 hM hS => ?_)
  replace hz := hz1.trans hz
  replace hM : bm_M D base (bm_up M10 sz (.inl (ct 1, 12, .inr (.inl (vp_updL (fun _ => 0) 0 (vA 0)))))) H := hM
  obtain ⟨M12, eM12⟩ : ∃ X, X = bm_up M10 sz (.inl (ct 1, 12, .inr (.inl (vp_updL (fun _ => 0) 0 (vA 0))))) := ⟨_, rfl⟩
  rw [← eM12] at hM
  replace h0 : M12 a = some (.inr (2, [.int dn, .long nu, .long sg, .int 0, .ref sz, .ref (sz + 1)])) := by rw [eM12, bm_up_ne (bm_ne_ao hc3 h0)]; exact h0
  replace h1 : M12 y = some (.inl (ct 5, 4, .inr (.inr (.inr (.inr pf))))) := by rw [eM12, bm_up_ne (bm_ne_aa hc3 h1 (by decide))]; exact h1
  replace k0 : M12 (cd 0) = some (.inr (1, [.long (vA 0), .long (vC 0), .long (vE 0), .long (vB 0), .long (vX 0), .long (vY 0), .long (vP 0)])) := by rw [eM12, bm_up_ne (bm_ne_ao hc3 k0)]; exact k0
  replace k1 : M12 (cd 1) = some (.inr (1, [.long (vA 1), .long (vC 1), .long (vE 1), .long (vB 1), .long (vX 1), .long (vY 1), .long (vP 1)])) := by rw [eM12, bm_up_ne (bm_ne_ao hc3 k1)]; exact k1
  replace k2 : M12 (cd 2) = some (.inr (1, [.long (vA 2), .long (vC 2), .long (vE 2), .long (vB 2), .long (vX 2), .long (vY 2), .long (vP 2)])) := by rw [eM12, bm_up_ne (bm_ne_ao hc3 k2)]; exact k2
  replace k3 : M12 (cd 3) = some (.inr (1, [.long (vA 3), .long (vC 3), .long (vE 3), .long (vB 3), .long (vX 3), .long (vY 3), .long (vP 3)])) := by rw [eM12, bm_up_ne (bm_ne_ao hc3 k3)]; exact k3
  replace hc6 : M12 (sz + 1) = some (.inl (ct 1, 12, .inr (.inl (fun _ => 0)))) := by rw [eM12, bm_up_ne (by omega)]; exact hc6
  replace hc3 : M12 sz = some (.inl (ct 1, 12, .inr (.inl (vp_updL (fun _ => 0) 0 (vA 0))))) := by rw [eM12]; exact bm_up_self _ _ _
  replace hF : ∀ b, b ≠ a → b < sz → M12 b = M b := fun b q1 q2 => by rw [eM12]; exact (bm_up_ne (by omega)).trans (hF b q1 q2)
  clear eM12
  refine lv_aload_n hx hb dO_init_75 rfl (lv_at hl 3 rfl) ?_
  refine bm_get (ci := 2) (v := .ref sz) (C := "BlindMint$Coin") (T := bt_O) (N := 6) hx hb hts bu_O hown hK hM h0 rfl 4 (by decide) (hts _ bw_423) (fun _ h9 => h9) rfl dO_init_76 ?_
  refine lv_iload hx hb dO_init_79 (lv_at hl 0 rfl) ?_
  refine lv_iconst (v := 1) hx hb dO_init_81 (by decide) ?_
  refine lv_iadd hx hb dO_init_82 ?_
  refine lv_topi (fun t13 e_t13 => ?_)
  have e_t13 : t13 = 1 := by rw [e_t13]; decide
  subst e_t13
  refine lv_aload hx hb dO_init_83 (lv_at hl 1 rfl) ?_
  refine bm_get (ci := 1) (v := .long (vC 0)) (C := "BlindMint$Candidate") (T := bt_C) (N := 7) hx hb hts bu_C hown hK hM k0 rfl 1 (by decide) (hts _ bw_44) (fun _ h9 => h9) rfl dO_init_85 ?_
  refine bm_last hx hb hK hM hS 1 hc3 rfl 1 (bm_ix_nI (k := 1) (by decide)) (by decide) dO_init_88 (fun H locs hz1 hM hS => ?_)
  replace hz := hz1.trans hz
  replace hM : bm_M D base (bm_up M12 sz (.inl (ct 1, 12, .inr (.inl (vp_updL (vp_updL (fun _ => 0) 0 (vA 0)) 1 (vC 0)))))) H := hM
  obtain ⟨M14, eM14⟩ : ∃ X, X = bm_up M12 sz (.inl (ct 1, 12, .inr (.inl (vp_updL (vp_updL (fun _ => 0) 0 (vA 0)) 1 (vC 0))))) := ⟨_, rfl⟩
  rw [← eM14] at hM
  replace h0 : M14 a = some (.inr (2, [.int dn, .long nu, .long sg, .int 0, .ref sz, .ref (sz + 1)])) := by rw [eM14, bm_up_ne (bm_ne_ao hc3 h0)]; exact h0
  replace h1 : M14 y = some (.inl (ct 5, 4, .inr (.inr (.inr (.inr pf))))) := by rw [eM14, bm_up_ne (bm_ne_aa hc3 h1 (by decide))]; exact h1
  replace k0 : M14 (cd 0) = some (.inr (1, [.long (vA 0), .long (vC 0), .long (vE 0), .long (vB 0), .long (vX 0), .long (vY 0), .long (vP 0)])) := by rw [eM14, bm_up_ne (bm_ne_ao hc3 k0)]; exact k0
  replace k1 : M14 (cd 1) = some (.inr (1, [.long (vA 1), .long (vC 1), .long (vE 1), .long (vB 1), .long (vX 1), .long (vY 1), .long (vP 1)])) := by rw [eM14, bm_up_ne (bm_ne_ao hc3 k1)]; exact k1
  replace k2 : M14 (cd 2) = some (.inr (1, [.long (vA 2), .long (vC 2), .long (vE 2), .long (vB 2), .long (vX 2), .long (vY 2), .long (vP 2)])) := by rw [eM14, bm_up_ne (bm_ne_ao hc3 k2)]; exact k2
  replace k3 : M14 (cd 3) = some (.inr (1, [.long (vA 3), .long (vC 3), .long (vE 3), .long (vB 3), .long (vX 3), .long (vY 3), .long (vP 3)])) := by rw [eM14, bm_up_ne (bm_ne_ao hc3 k3)]; exact k3
  replace hc6 : M14 (sz + 1) = some (.inl (ct 1, 12, .inr (.inl (fun _ => 0)))) := by rw [eM14, bm_up_ne (by omega)]; exact hc6
  replace hc3 : M14 sz = some (.inl (ct 1, 12, .inr (.inl (vp_updL (vp_updL (fun _ => 0) 0 (vA 0)) 1 (vC 0))))) := by rw [eM14]; exact bm_up_self _ _ _
  replace hF : ∀ b, b ≠ a → b < sz → M14 b = M b := fun b q1 q2 => by rw [eM14]; exact (bm_up_ne (by omega)).trans (hF b q1 q2)
  clear eM14
  refine lv_aload_n hx hb dO_init_89 rfl (lv_at hl 3 rfl) ?_
  refine bm_get (ci := 2) (v := .ref sz) (C := "BlindMint$Coin") (T := bt_O) (N := 6) hx hb hts bu_O hown hK hM h0 rfl 4 (by decide) (hts _ bw_423) (fun _ h9 => h9) rfl dO_init_90 ?_
  refine lv_iload hx hb dO_init_93 (lv_at hl 0 rfl) ?_
  refine lv_iconst (v := 2) hx hb dO_init_95 (by decide) ?_
  refine lv_iadd hx hb dO_init_96 ?_
  refine lv_topi (fun t15 e_t15 => ?_)
  have e_t15 : t15 = 2 := by rw [e_t15]; decide
  subst e_t15
  refine lv_aload hx hb dO_init_97 (lv_at hl 1 rfl) ?_
  refine bm_get (ci := 1) (v := .long (vY 0)) (C := "BlindMint$Candidate") (T := bt_C) (N := 7) hx hb hts bu_C hown hK hM k0 rfl 5 (by decide) (hts _ bw_52) (fun _ h9 => h9) rfl dO_init_99 ?_
  refine bm_last hx hb hK hM hS 1 hc3 rfl 2 (bm_ix_nI (k := 2) (by decide)) (by decide) dO_init_102 (fun H locs hz1 hM hS => ?_)
  replace hz := hz1.trans hz
  replace hM : bm_M D base (bm_up M14 sz (.inl (ct 1, 12, .inr (.inl (vp_updL (vp_updL (vp_updL (fun _ => 0) 0 (vA 0)) 1 (vC 0)) 2 (vY 0)))))) H := hM
  obtain ⟨M16, eM16⟩ : ∃ X, X = bm_up M14 sz (.inl (ct 1, 12, .inr (.inl (vp_updL (vp_updL (vp_updL (fun _ => 0) 0 (vA 0)) 1 (vC 0)) 2 (vY 0))))) := ⟨_, rfl⟩
  rw [← eM16] at hM
  replace h0 : M16 a = some (.inr (2, [.int dn, .long nu, .long sg, .int 0, .ref sz, .ref (sz + 1)])) := by rw [eM16, bm_up_ne (bm_ne_ao hc3 h0)]; exact h0
  replace h1 : M16 y = some (.inl (ct 5, 4, .inr (.inr (.inr (.inr pf))))) := by rw [eM16, bm_up_ne (bm_ne_aa hc3 h1 (by decide))]; exact h1
  replace k0 : M16 (cd 0) = some (.inr (1, [.long (vA 0), .long (vC 0), .long (vE 0), .long (vB 0), .long (vX 0), .long (vY 0), .long (vP 0)])) := by rw [eM16, bm_up_ne (bm_ne_ao hc3 k0)]; exact k0
  replace k1 : M16 (cd 1) = some (.inr (1, [.long (vA 1), .long (vC 1), .long (vE 1), .long (vB 1), .long (vX 1), .long (vY 1), .long (vP 1)])) := by rw [eM16, bm_up_ne (bm_ne_ao hc3 k1)]; exact k1
  replace k2 : M16 (cd 2) = some (.inr (1, [.long (vA 2), .long (vC 2), .long (vE 2), .long (vB 2), .long (vX 2), .long (vY 2), .long (vP 2)])) := by rw [eM16, bm_up_ne (bm_ne_ao hc3 k2)]; exact k2
  replace k3 : M16 (cd 3) = some (.inr (1, [.long (vA 3), .long (vC 3), .long (vE 3), .long (vB 3), .long (vX 3), .long (vY 3), .long (vP 3)])) := by rw [eM16, bm_up_ne (bm_ne_ao hc3 k3)]; exact k3
  replace hc6 : M16 (sz + 1) = some (.inl (ct 1, 12, .inr (.inl (fun _ => 0)))) := by rw [eM16, bm_up_ne (by omega)]; exact hc6
  replace hc3 : M16 sz = some (.inl (ct 1, 12, .inr (.inl (vp_updL (vp_updL (vp_updL (fun _ => 0) 0 (vA 0)) 1 (vC 0)) 2 (vY 0))))) := by rw [eM16]; exact bm_up_self _ _ _
  replace hF : ∀ b, b ≠ a → b < sz → M16 b = M b := fun b q1 q2 => by rw [eM16]; exact (bm_up_ne (by omega)).trans (hF b q1 q2)
  clear eM16
  refine lv_aload_n hx hb dO_init_103 rfl (lv_at hl 3 rfl) ?_
  refine bm_get (ci := 2) (v := .ref (sz + 1)) (C := "BlindMint$Coin") (T := bt_O) (N := 6) hx hb hts bu_O hown hK hM h0 rfl 5 (by decide) (hts _ bw_425) (fun _ h9 => h9) rfl dO_init_104 ?_
  refine lv_iload hx hb dO_init_107 (lv_at hl 0 rfl) ?_
  refine lv_aload hx hb dO_init_109 (lv_at hl 1 rfl) ?_
  refine bm_get (ci := 1) (v := .long (vB 0)) (C := "BlindMint$Candidate") (T := bt_C) (N := 7) hx hb hts bu_C hown hK hM k0 rfl 3 (by decide) (hts _ bw_48) (fun _ h9 => h9) rfl dO_init_111 ?_
  refine bm_last hx hb hK hM hS 1 hc6 rfl 0 (bm_ix_nI (k := 0) (by decide)) (by decide) dO_init_114 (fun H locs hz1 hM hS => ?_)
  replace hz := hz1.trans hz
  replace hM : bm_M D base (bm_up M16 (sz + 1) (.inl (ct 1, 12, .inr (.inl (vp_updL (fun _ => 0) 0 (vB 0)))))) H := hM
  obtain ⟨M17, eM17⟩ : ∃ X, X = bm_up M16 (sz + 1) (.inl (ct 1, 12, .inr (.inl (vp_updL (fun _ => 0) 0 (vB 0))))) := ⟨_, rfl⟩
  rw [← eM17] at hM
  replace h0 : M17 a = some (.inr (2, [.int dn, .long nu, .long sg, .int 0, .ref sz, .ref (sz + 1)])) := by rw [eM17, bm_up_ne (bm_ne_ao hc6 h0)]; exact h0
  replace h1 : M17 y = some (.inl (ct 5, 4, .inr (.inr (.inr (.inr pf))))) := by rw [eM17, bm_up_ne (bm_ne_aa hc6 h1 (by decide))]; exact h1
  replace k0 : M17 (cd 0) = some (.inr (1, [.long (vA 0), .long (vC 0), .long (vE 0), .long (vB 0), .long (vX 0), .long (vY 0), .long (vP 0)])) := by rw [eM17, bm_up_ne (bm_ne_ao hc6 k0)]; exact k0
  replace k1 : M17 (cd 1) = some (.inr (1, [.long (vA 1), .long (vC 1), .long (vE 1), .long (vB 1), .long (vX 1), .long (vY 1), .long (vP 1)])) := by rw [eM17, bm_up_ne (bm_ne_ao hc6 k1)]; exact k1
  replace k2 : M17 (cd 2) = some (.inr (1, [.long (vA 2), .long (vC 2), .long (vE 2), .long (vB 2), .long (vX 2), .long (vY 2), .long (vP 2)])) := by rw [eM17, bm_up_ne (bm_ne_ao hc6 k2)]; exact k2
  replace k3 : M17 (cd 3) = some (.inr (1, [.long (vA 3), .long (vC 3), .long (vE 3), .long (vB 3), .long (vX 3), .long (vY 3), .long (vP 3)])) := by rw [eM17, bm_up_ne (bm_ne_ao hc6 k3)]; exact k3
  replace hc3 : M17 sz = some (.inl (ct 1, 12, .inr (.inl (vp_updL (vp_updL (vp_updL (fun _ => 0) 0 (vA 0)) 1 (vC 0)) 2 (vY 0))))) := by rw [eM17, bm_up_ne (by omega)]; exact hc3
  replace hc6 : M17 (sz + 1) = some (.inl (ct 1, 12, .inr (.inl (vp_updL (fun _ => 0) 0 (vB 0))))) := by rw [eM17]; exact bm_up_self _ _ _
  replace hF : ∀ b, b ≠ a → b < sz → M17 b = M b := fun b q1 q2 => by rw [eM17]; exact (bm_up_ne (by omega)).trans (hF b q1 q2)
  clear eM17
  refine lv_aload_n hx hb dO_init_115 rfl (lv_at hl 3 rfl) ?_
  refine bm_get (ci := 2) (v := .ref (sz + 1)) (C := "BlindMint$Coin") (T := bt_O) (N := 6) hx hb hts bu_O hown hK hM h0 rfl 5 (by decide) (hts _ bw_425) (fun _ h9 => h9) rfl dO_init_116 ?_
  refine lv_iload hx hb dO_init_119 (lv_at hl 0 rfl) ?_
  refine lv_iconst (v := 1) hx hb dO_init_121 (by decide) ?_
  refine lv_iadd hx hb dO_init_122 ?_
  refine lv_topi (fun t18 e_t18 => ?_)
  have e_t18 : t18 = 1 := by rw [e_t18]; decide
  subst e_t18
  refine lv_aload hx hb dO_init_123 (lv_at hl 1 rfl) ?_
  refine bm_get (ci := 1) (v := .long (vE 0)) (C := "BlindMint$Candidate") (T := bt_C) (N := 7) hx hb hts bu_C hown hK hM k0 rfl 2 (by decide) (hts _ bw_46) (fun _ h9 => h9) rfl dO_init_125 ?_
  refine bm_last hx hb hK hM hS 1 hc6 rfl 1 (bm_ix_nI (k := 1) (by decide)) (by decide) dO_init_128 (fun H locs hz1 hM hS => ?_)
  replace hz := hz1.trans hz
  replace hM : bm_M D base (bm_up M17 (sz + 1) (.inl (ct 1, 12, .inr (.inl (vp_updL (vp_updL (fun _ => 0) 0 (vB 0)) 1 (vE 0)))))) H := hM
  obtain ⟨M19, eM19⟩ : ∃ X, X = bm_up M17 (sz + 1) (.inl (ct 1, 12, .inr (.inl (vp_updL (vp_updL (fun _ => 0) 0 (vB 0)) 1 (vE 0))))) := ⟨_, rfl⟩
  rw [← eM19] at hM
  replace h0 : M19 a = some (.inr (2, [.int dn, .long nu, .long sg, .int 0, .ref sz, .ref (sz + 1)])) := by rw [eM19, bm_up_ne (bm_ne_ao hc6 h0)]; exact h0
  replace h1 : M19 y = some (.inl (ct 5, 4, .inr (.inr (.inr (.inr pf))))) := by rw [eM19, bm_up_ne (bm_ne_aa hc6 h1 (by decide))]; exact h1
  replace k0 : M19 (cd 0) = some (.inr (1, [.long (vA 0), .long (vC 0), .long (vE 0), .long (vB 0), .long (vX 0), .long (vY 0), .long (vP 0)])) := by rw [eM19, bm_up_ne (bm_ne_ao hc6 k0)]; exact k0
  replace k1 : M19 (cd 1) = some (.inr (1, [.long (vA 1), .long (vC 1), .long (vE 1), .long (vB 1), .long (vX 1), .long (vY 1), .long (vP 1)])) := by rw [eM19, bm_up_ne (bm_ne_ao hc6 k1)]; exact k1
  replace k2 : M19 (cd 2) = some (.inr (1, [.long (vA 2), .long (vC 2), .long (vE 2), .long (vB 2), .long (vX 2), .long (vY 2), .long (vP 2)])) := by rw [eM19, bm_up_ne (bm_ne_ao hc6 k2)]; exact k2
  replace k3 : M19 (cd 3) = some (.inr (1, [.long (vA 3), .long (vC 3), .long (vE 3), .long (vB 3), .long (vX 3), .long (vY 3), .long (vP 3)])) := by rw [eM19, bm_up_ne (bm_ne_ao hc6 k3)]; exact k3
  replace hc3 : M19 sz = some (.inl (ct 1, 12, .inr (.inl (vp_updL (vp_updL (vp_updL (fun _ => 0) 0 (vA 0)) 1 (vC 0)) 2 (vY 0))))) := by rw [eM19, bm_up_ne (by omega)]; exact hc3
  replace hc6 : M19 (sz + 1) = some (.inl (ct 1, 12, .inr (.inl (vp_updL (vp_updL (fun _ => 0) 0 (vB 0)) 1 (vE 0))))) := by rw [eM19]; exact bm_up_self _ _ _
  replace hF : ∀ b, b ≠ a → b < sz → M19 b = M b := fun b q1 q2 => by rw [eM19]; exact (bm_up_ne (by omega)).trans (hF b q1 q2)
  clear eM19
  refine lv_aload_n hx hb dO_init_129 rfl (lv_at hl 3 rfl) ?_
  refine bm_get (ci := 2) (v := .ref (sz + 1)) (C := "BlindMint$Coin") (T := bt_O) (N := 6) hx hb hts bu_O hown hK hM h0 rfl 5 (by decide) (hts _ bw_425) (fun _ h9 => h9) rfl dO_init_130 ?_
  refine lv_iload hx hb dO_init_133 (lv_at hl 0 rfl) ?_
  refine lv_iconst (v := 2) hx hb dO_init_135 (by decide) ?_
  refine lv_iadd hx hb dO_init_136 ?_
  refine lv_topi (fun t20 e_t20 => ?_)
  have e_t20 : t20 = 2 := by rw [e_t20]; decide
  subst e_t20
  refine lv_aload hx hb dO_init_137 (lv_at hl 1 rfl) ?_
  refine bm_get (ci := 1) (v := .long (vX 0)) (C := "BlindMint$Candidate") (T := bt_C) (N := 7) hx hb hts bu_C hown hK hM k0 rfl 4 (by decide) (hts _ bw_50) (fun _ h9 => h9) rfl dO_init_139 ?_
  refine bm_last hx hb hK hM hS 1 hc6 rfl 2 (bm_ix_nI (k := 2) (by decide)) (by decide) dO_init_142 (fun H locs hz1 hM hS => ?_)
  replace hz := hz1.trans hz
  replace hM : bm_M D base (bm_up M19 (sz + 1) (.inl (ct 1, 12, .inr (.inl (vp_updL (vp_updL (vp_updL (fun _ => 0) 0 (vB 0)) 1 (vE 0)) 2 (vX 0)))))) H := hM
  obtain ⟨M21, eM21⟩ : ∃ X, X = bm_up M19 (sz + 1) (.inl (ct 1, 12, .inr (.inl (vp_updL (vp_updL (vp_updL (fun _ => 0) 0 (vB 0)) 1 (vE 0)) 2 (vX 0))))) := ⟨_, rfl⟩
  rw [← eM21] at hM
  replace h0 : M21 a = some (.inr (2, [.int dn, .long nu, .long sg, .int 0, .ref sz, .ref (sz + 1)])) := by rw [eM21, bm_up_ne (bm_ne_ao hc6 h0)]; exact h0
  replace h1 : M21 y = some (.inl (ct 5, 4, .inr (.inr (.inr (.inr pf))))) := by rw [eM21, bm_up_ne (bm_ne_aa hc6 h1 (by decide))]; exact h1
  replace k0 : M21 (cd 0) = some (.inr (1, [.long (vA 0), .long (vC 0), .long (vE 0), .long (vB 0), .long (vX 0), .long (vY 0), .long (vP 0)])) := by rw [eM21, bm_up_ne (bm_ne_ao hc6 k0)]; exact k0
  replace k1 : M21 (cd 1) = some (.inr (1, [.long (vA 1), .long (vC 1), .long (vE 1), .long (vB 1), .long (vX 1), .long (vY 1), .long (vP 1)])) := by rw [eM21, bm_up_ne (bm_ne_ao hc6 k1)]; exact k1
  replace k2 : M21 (cd 2) = some (.inr (1, [.long (vA 2), .long (vC 2), .long (vE 2), .long (vB 2), .long (vX 2), .long (vY 2), .long (vP 2)])) := by rw [eM21, bm_up_ne (bm_ne_ao hc6 k2)]; exact k2
  replace k3 : M21 (cd 3) = some (.inr (1, [.long (vA 3), .long (vC 3), .long (vE 3), .long (vB 3), .long (vX 3), .long (vY 3), .long (vP 3)])) := by rw [eM21, bm_up_ne (bm_ne_ao hc6 k3)]; exact k3
  replace hc3 : M21 sz = some (.inl (ct 1, 12, .inr (.inl (vp_updL (vp_updL (vp_updL (fun _ => 0) 0 (vA 0)) 1 (vC 0)) 2 (vY 0))))) := by rw [eM21, bm_up_ne (by omega)]; exact hc3
  replace hc6 : M21 (sz + 1) = some (.inl (ct 1, 12, .inr (.inl (vp_updL (vp_updL (vp_updL (fun _ => 0) 0 (vB 0)) 1 (vE 0)) 2 (vX 0))))) := by rw [eM21]; exact bm_up_self _ _ _
  replace hF : ∀ b, b ≠ a → b < sz → M21 b = M b := fun b q1 q2 => by rw [eM21]; exact (bm_up_ne (by omega)).trans (hF b q1 q2)
  clear eM21
  refine lv_iinc (v := 1) (k := 2) hx hb dO_init_143 hl rfl (by decide) (by decide) rfl (fun ls hl => ?_)
  have hl : lv_has ls 10 [(7, .int 1), (9, .int 0), (8, .ref (cd 0)), (0, .ref a), (1, .int dn), (2, .long nu), (4, .long sg), (6, .ref y)] := hl
  refine lv_goto (tgt := 44) hx hb dO_init_146 rfl ?_
  refine lv_iload hx hb dO_init_44 (lv_at hl 0 rfl) ?_
  refine lv_iconst (v := 4) hx hb dO_init_46 (by decide) ?_
  refine lv_icmp_ge (tgt := 149) hx hb dO_init_47 rfl (fun h => absurd h (by decide)) (fun _ => ?_)
  refine lv_aload hx hb dO_init_50 (lv_at hl 7 rfl) ?_
  refine lv_iload hx hb dO_init_52 (lv_at hl 0 rfl) ?_
  refine bm_aald (v := .ref (cd 1)) hx hb hK hM 5 h1 rfl 1 (bm_ix_nI (k := 1) (by decide)) (by decide) (by rw [hpf 1 (by decide)]; rfl) dO_init_54 ?_
  refine lv_astore hx hb dO_init_55 hl (by decide) rfl (fun ls hl => ?_)
  have hl : lv_has ls 10 [(8, .ref (cd 1)), (7, .int 1), (9, .int 0), (0, .ref a), (1, .int dn), (2, .long nu), (4, .long sg), (6, .ref y)] := hl
  refine lv_iload hx hb dO_init_57 (lv_at hl 1 rfl) ?_
  refine lv_iconst (v := 3) hx hb dO_init_59 (by decide) ?_
  refine lv_imul hx hb dO_init_60 ?_
  refine lv_topi (fun t22 e_t22 => ?_)
  have e_t22 : t22 = 3 := by rw [e_t22]; decide
  subst e_t22
  refine lv_istore hx hb dO_init_61 hl (by decide) rfl (fun ls hl => ?_)
  have hl : lv_has ls 10 [(9, .int 3), (8, .ref (cd 1)), (7, .int 1), (0, .ref a), (1, .int dn), (2, .long nu), (4, .long sg), (6, .ref y)] := hl
  refine lv_aload_n hx hb dO_init_63 rfl (lv_at hl 3 rfl) ?_
  refine bm_get (ci := 2) (v := .ref sz) (C := "BlindMint$Coin") (T := bt_O) (N := 6) hx hb hts bu_O hown hK hM h0 rfl 4 (by decide) (hts _ bw_423) (fun _ h9 => h9) rfl dO_init_64 ?_
  refine lv_iload hx hb dO_init_67 (lv_at hl 0 rfl) ?_
  refine lv_aload hx hb dO_init_69 (lv_at hl 1 rfl) ?_
  refine bm_get (ci := 1) (v := .long (vA 1)) (C := "BlindMint$Candidate") (T := bt_C) (N := 7) hx hb hts bu_C hown hK hM k1 rfl 0 (by decide) (hts _ bw_42) (fun _ h9 => h9) rfl dO_init_71 ?_
  refine bm_last hx hb hK hM hS 1 hc3 rfl 3 (bm_ix_nI (k := 3) (by decide)) (by decide) dO_init_74 (fun H locs hz1 hM hS => ?_)
  replace hz := hz1.trans hz
  replace hM : bm_M D base (bm_up M21 sz (.inl (ct 1, 12, .inr (.inl (vp_updL (vp_updL (vp_updL (vp_updL (fun _ => 0) 0 (vA 0)) 1 (vC 0)) 2 (vY 0)) 3 (vA 1)))))) H := hM
  obtain ⟨M23, eM23⟩ : ∃ X, X = bm_up M21 sz (.inl (ct 1, 12, .inr (.inl (vp_updL (vp_updL (vp_updL (vp_updL (fun _ => 0) 0 (vA 0)) 1 (vC 0)) 2 (vY 0)) 3 (vA 1))))) := ⟨_, rfl⟩
  rw [← eM23] at hM
  replace h0 : M23 a = some (.inr (2, [.int dn, .long nu, .long sg, .int 0, .ref sz, .ref (sz + 1)])) := by rw [eM23, bm_up_ne (bm_ne_ao hc3 h0)]; exact h0
  replace h1 : M23 y = some (.inl (ct 5, 4, .inr (.inr (.inr (.inr pf))))) := by rw [eM23, bm_up_ne (bm_ne_aa hc3 h1 (by decide))]; exact h1
  replace k0 : M23 (cd 0) = some (.inr (1, [.long (vA 0), .long (vC 0), .long (vE 0), .long (vB 0), .long (vX 0), .long (vY 0), .long (vP 0)])) := by rw [eM23, bm_up_ne (bm_ne_ao hc3 k0)]; exact k0
  replace k1 : M23 (cd 1) = some (.inr (1, [.long (vA 1), .long (vC 1), .long (vE 1), .long (vB 1), .long (vX 1), .long (vY 1), .long (vP 1)])) := by rw [eM23, bm_up_ne (bm_ne_ao hc3 k1)]; exact k1
  replace k2 : M23 (cd 2) = some (.inr (1, [.long (vA 2), .long (vC 2), .long (vE 2), .long (vB 2), .long (vX 2), .long (vY 2), .long (vP 2)])) := by rw [eM23, bm_up_ne (bm_ne_ao hc3 k2)]; exact k2
  replace k3 : M23 (cd 3) = some (.inr (1, [.long (vA 3), .long (vC 3), .long (vE 3), .long (vB 3), .long (vX 3), .long (vY 3), .long (vP 3)])) := by rw [eM23, bm_up_ne (bm_ne_ao hc3 k3)]; exact k3
  replace hc6 : M23 (sz + 1) = some (.inl (ct 1, 12, .inr (.inl (vp_updL (vp_updL (vp_updL (fun _ => 0) 0 (vB 0)) 1 (vE 0)) 2 (vX 0))))) := by rw [eM23, bm_up_ne (by omega)]; exact hc6
  replace hc3 : M23 sz = some (.inl (ct 1, 12, .inr (.inl (vp_updL (vp_updL (vp_updL (vp_updL (fun _ => 0) 0 (vA 0)) 1 (vC 0)) 2 (vY 0)) 3 (vA 1))))) := by rw [eM23]; exact bm_up_self _ _ _
  replace hF : ∀ b, b ≠ a → b < sz → M23 b = M b := fun b q1 q2 => by rw [eM23]; exact (bm_up_ne (by omega)).trans (hF b q1 q2)
  clear eM23
  refine lv_aload_n hx hb dO_init_75 rfl (lv_at hl 3 rfl) ?_
  refine bm_get (ci := 2) (v := .ref sz) (C := "BlindMint$Coin") (T := bt_O) (N := 6) hx hb hts bu_O hown hK hM h0 rfl 4 (by decide) (hts _ bw_423) (fun _ h9 => h9) rfl dO_init_76 ?_
  refine lv_iload hx hb dO_init_79 (lv_at hl 0 rfl) ?_
  refine lv_iconst (v := 1) hx hb dO_init_81 (by decide) ?_
  refine lv_iadd hx hb dO_init_82 ?_
  refine lv_topi (fun t24 e_t24 => ?_)
  have e_t24 : t24 = 4 := by rw [e_t24]; decide
  subst e_t24
  refine lv_aload hx hb dO_init_83 (lv_at hl 1 rfl) ?_
  refine bm_get (ci := 1) (v := .long (vC 1)) (C := "BlindMint$Candidate") (T := bt_C) (N := 7) hx hb hts bu_C hown hK hM k1 rfl 1 (by decide) (hts _ bw_44) (fun _ h9 => h9) rfl dO_init_85 ?_
  refine bm_last hx hb hK hM hS 1 hc3 rfl 4 (bm_ix_nI (k := 4) (by decide)) (by decide) dO_init_88 (fun H locs hz1 hM hS => ?_)
  replace hz := hz1.trans hz
  replace hM : bm_M D base (bm_up M23 sz (.inl (ct 1, 12, .inr (.inl (vp_updL (vp_updL (vp_updL (vp_updL (vp_updL (fun _ => 0) 0 (vA 0)) 1 (vC 0)) 2 (vY 0)) 3 (vA 1)) 4 (vC 1)))))) H := hM
  obtain ⟨M25, eM25⟩ : ∃ X, X = bm_up M23 sz (.inl (ct 1, 12, .inr (.inl (vp_updL (vp_updL (vp_updL (vp_updL (vp_updL (fun _ => 0) 0 (vA 0)) 1 (vC 0)) 2 (vY 0)) 3 (vA 1)) 4 (vC 1))))) := ⟨_, rfl⟩
  rw [← eM25] at hM
  replace h0 : M25 a = some (.inr (2, [.int dn, .long nu, .long sg, .int 0, .ref sz, .ref (sz + 1)])) := by rw [eM25, bm_up_ne (bm_ne_ao hc3 h0)]; exact h0
  replace h1 : M25 y = some (.inl (ct 5, 4, .inr (.inr (.inr (.inr pf))))) := by rw [eM25, bm_up_ne (bm_ne_aa hc3 h1 (by decide))]; exact h1
  replace k0 : M25 (cd 0) = some (.inr (1, [.long (vA 0), .long (vC 0), .long (vE 0), .long (vB 0), .long (vX 0), .long (vY 0), .long (vP 0)])) := by rw [eM25, bm_up_ne (bm_ne_ao hc3 k0)]; exact k0
  replace k1 : M25 (cd 1) = some (.inr (1, [.long (vA 1), .long (vC 1), .long (vE 1), .long (vB 1), .long (vX 1), .long (vY 1), .long (vP 1)])) := by rw [eM25, bm_up_ne (bm_ne_ao hc3 k1)]; exact k1
  replace k2 : M25 (cd 2) = some (.inr (1, [.long (vA 2), .long (vC 2), .long (vE 2), .long (vB 2), .long (vX 2), .long (vY 2), .long (vP 2)])) := by rw [eM25, bm_up_ne (bm_ne_ao hc3 k2)]; exact k2
  replace k3 : M25 (cd 3) = some (.inr (1, [.long (vA 3), .long (vC 3), .long (vE 3), .long (vB 3), .long (vX 3), .long (vY 3), .long (vP 3)])) := by rw [eM25, bm_up_ne (bm_ne_ao hc3 k3)]; exact k3
  replace hc6 : M25 (sz + 1) = some (.inl (ct 1, 12, .inr (.inl (vp_updL (vp_updL (vp_updL (fun _ => 0) 0 (vB 0)) 1 (vE 0)) 2 (vX 0))))) := by rw [eM25, bm_up_ne (by omega)]; exact hc6
  replace hc3 : M25 sz = some (.inl (ct 1, 12, .inr (.inl (vp_updL (vp_updL (vp_updL (vp_updL (vp_updL (fun _ => 0) 0 (vA 0)) 1 (vC 0)) 2 (vY 0)) 3 (vA 1)) 4 (vC 1))))) := by rw [eM25]; exact bm_up_self _ _ _
  replace hF : ∀ b, b ≠ a → b < sz → M25 b = M b := fun b q1 q2 => by rw [eM25]; exact (bm_up_ne (by omega)).trans (hF b q1 q2)
  clear eM25
  refine lv_aload_n hx hb dO_init_89 rfl (lv_at hl 3 rfl) ?_
  refine bm_get (ci := 2) (v := .ref sz) (C := "BlindMint$Coin") (T := bt_O) (N := 6) hx hb hts bu_O hown hK hM h0 rfl 4 (by decide) (hts _ bw_423) (fun _ h9 => h9) rfl dO_init_90 ?_
  refine lv_iload hx hb dO_init_93 (lv_at hl 0 rfl) ?_
  refine lv_iconst (v := 2) hx hb dO_init_95 (by decide) ?_
  refine lv_iadd hx hb dO_init_96 ?_
  refine lv_topi (fun t26 e_t26 => ?_)
  have e_t26 : t26 = 5 := by rw [e_t26]; decide
  subst e_t26
  refine lv_aload hx hb dO_init_97 (lv_at hl 1 rfl) ?_
  refine bm_get (ci := 1) (v := .long (vY 1)) (C := "BlindMint$Candidate") (T := bt_C) (N := 7) hx hb hts bu_C hown hK hM k1 rfl 5 (by decide) (hts _ bw_52) (fun _ h9 => h9) rfl dO_init_99 ?_
  refine bm_last hx hb hK hM hS 1 hc3 rfl 5 (bm_ix_nI (k := 5) (by decide)) (by decide) dO_init_102 (fun H locs hz1 hM hS => ?_)
  replace hz := hz1.trans hz
  replace hM : bm_M D base (bm_up M25 sz (.inl (ct 1, 12, .inr (.inl (vp_updL (vp_updL (vp_updL (vp_updL (vp_updL (vp_updL (fun _ => 0) 0 (vA 0)) 1 (vC 0)) 2 (vY 0)) 3 (vA 1)) 4 (vC 1)) 5 (vY 1)))))) H := hM
  obtain ⟨M27, eM27⟩ : ∃ X, X = bm_up M25 sz (.inl (ct 1, 12, .inr (.inl (vp_updL (vp_updL (vp_updL (vp_updL (vp_updL (vp_updL (fun _ => 0) 0 (vA 0)) 1 (vC 0)) 2 (vY 0)) 3 (vA 1)) 4 (vC 1)) 5 (vY 1))))) := ⟨_, rfl⟩
  rw [← eM27] at hM
  replace h0 : M27 a = some (.inr (2, [.int dn, .long nu, .long sg, .int 0, .ref sz, .ref (sz + 1)])) := by rw [eM27, bm_up_ne (bm_ne_ao hc3 h0)]; exact h0
  replace h1 : M27 y = some (.inl (ct 5, 4, .inr (.inr (.inr (.inr pf))))) := by rw [eM27, bm_up_ne (bm_ne_aa hc3 h1 (by decide))]; exact h1
  replace k0 : M27 (cd 0) = some (.inr (1, [.long (vA 0), .long (vC 0), .long (vE 0), .long (vB 0), .long (vX 0), .long (vY 0), .long (vP 0)])) := by rw [eM27, bm_up_ne (bm_ne_ao hc3 k0)]; exact k0
  replace k1 : M27 (cd 1) = some (.inr (1, [.long (vA 1), .long (vC 1), .long (vE 1), .long (vB 1), .long (vX 1), .long (vY 1), .long (vP 1)])) := by rw [eM27, bm_up_ne (bm_ne_ao hc3 k1)]; exact k1
  replace k2 : M27 (cd 2) = some (.inr (1, [.long (vA 2), .long (vC 2), .long (vE 2), .long (vB 2), .long (vX 2), .long (vY 2), .long (vP 2)])) := by rw [eM27, bm_up_ne (bm_ne_ao hc3 k2)]; exact k2
  replace k3 : M27 (cd 3) = some (.inr (1, [.long (vA 3), .long (vC 3), .long (vE 3), .long (vB 3), .long (vX 3), .long (vY 3), .long (vP 3)])) := by rw [eM27, bm_up_ne (bm_ne_ao hc3 k3)]; exact k3
  replace hc6 : M27 (sz + 1) = some (.inl (ct 1, 12, .inr (.inl (vp_updL (vp_updL (vp_updL (fun _ => 0) 0 (vB 0)) 1 (vE 0)) 2 (vX 0))))) := by rw [eM27, bm_up_ne (by omega)]; exact hc6
  replace hc3 : M27 sz = some (.inl (ct 1, 12, .inr (.inl (vp_updL (vp_updL (vp_updL (vp_updL (vp_updL (vp_updL (fun _ => 0) 0 (vA 0)) 1 (vC 0)) 2 (vY 0)) 3 (vA 1)) 4 (vC 1)) 5 (vY 1))))) := by rw [eM27]; exact bm_up_self _ _ _
  replace hF : ∀ b, b ≠ a → b < sz → M27 b = M b := fun b q1 q2 => by rw [eM27]; exact (bm_up_ne (by omega)).trans (hF b q1 q2)
  clear eM27
  refine lv_aload_n hx hb dO_init_103 rfl (lv_at hl 3 rfl) ?_
  refine bm_get (ci := 2) (v := .ref (sz + 1)) (C := "BlindMint$Coin") (T := bt_O) (N := 6) hx hb hts bu_O hown hK hM h0 rfl 5 (by decide) (hts _ bw_425) (fun _ h9 => h9) rfl dO_init_104 ?_
  refine lv_iload hx hb dO_init_107 (lv_at hl 0 rfl) ?_
  refine lv_aload hx hb dO_init_109 (lv_at hl 1 rfl) ?_
  refine bm_get (ci := 1) (v := .long (vB 1)) (C := "BlindMint$Candidate") (T := bt_C) (N := 7) hx hb hts bu_C hown hK hM k1 rfl 3 (by decide) (hts _ bw_48) (fun _ h9 => h9) rfl dO_init_111 ?_
  refine bm_last hx hb hK hM hS 1 hc6 rfl 3 (bm_ix_nI (k := 3) (by decide)) (by decide) dO_init_114 (fun H locs hz1 hM hS => ?_)
  replace hz := hz1.trans hz
  replace hM : bm_M D base (bm_up M27 (sz + 1) (.inl (ct 1, 12, .inr (.inl (vp_updL (vp_updL (vp_updL (vp_updL (fun _ => 0) 0 (vB 0)) 1 (vE 0)) 2 (vX 0)) 3 (vB 1)))))) H := hM
  obtain ⟨M28, eM28⟩ : ∃ X, X = bm_up M27 (sz + 1) (.inl (ct 1, 12, .inr (.inl (vp_updL (vp_updL (vp_updL (vp_updL (fun _ => 0) 0 (vB 0)) 1 (vE 0)) 2 (vX 0)) 3 (vB 1))))) := ⟨_, rfl⟩
  rw [← eM28] at hM
  replace h0 : M28 a = some (.inr (2, [.int dn, .long nu, .long sg, .int 0, .ref sz, .ref (sz + 1)])) := by rw [eM28, bm_up_ne (bm_ne_ao hc6 h0)]; exact h0
  replace h1 : M28 y = some (.inl (ct 5, 4, .inr (.inr (.inr (.inr pf))))) := by rw [eM28, bm_up_ne (bm_ne_aa hc6 h1 (by decide))]; exact h1
  replace k0 : M28 (cd 0) = some (.inr (1, [.long (vA 0), .long (vC 0), .long (vE 0), .long (vB 0), .long (vX 0), .long (vY 0), .long (vP 0)])) := by rw [eM28, bm_up_ne (bm_ne_ao hc6 k0)]; exact k0
  replace k1 : M28 (cd 1) = some (.inr (1, [.long (vA 1), .long (vC 1), .long (vE 1), .long (vB 1), .long (vX 1), .long (vY 1), .long (vP 1)])) := by rw [eM28, bm_up_ne (bm_ne_ao hc6 k1)]; exact k1
  replace k2 : M28 (cd 2) = some (.inr (1, [.long (vA 2), .long (vC 2), .long (vE 2), .long (vB 2), .long (vX 2), .long (vY 2), .long (vP 2)])) := by rw [eM28, bm_up_ne (bm_ne_ao hc6 k2)]; exact k2
  replace k3 : M28 (cd 3) = some (.inr (1, [.long (vA 3), .long (vC 3), .long (vE 3), .long (vB 3), .long (vX 3), .long (vY 3), .long (vP 3)])) := by rw [eM28, bm_up_ne (bm_ne_ao hc6 k3)]; exact k3
  replace hc3 : M28 sz = some (.inl (ct 1, 12, .inr (.inl (vp_updL (vp_updL (vp_updL (vp_updL (vp_updL (vp_updL (fun _ => 0) 0 (vA 0)) 1 (vC 0)) 2 (vY 0)) 3 (vA 1)) 4 (vC 1)) 5 (vY 1))))) := by rw [eM28, bm_up_ne (by omega)]; exact hc3
  replace hc6 : M28 (sz + 1) = some (.inl (ct 1, 12, .inr (.inl (vp_updL (vp_updL (vp_updL (vp_updL (fun _ => 0) 0 (vB 0)) 1 (vE 0)) 2 (vX 0)) 3 (vB 1))))) := by rw [eM28]; exact bm_up_self _ _ _
  replace hF : ∀ b, b ≠ a → b < sz → M28 b = M b := fun b q1 q2 => by rw [eM28]; exact (bm_up_ne (by omega)).trans (hF b q1 q2)
  clear eM28
  refine lv_aload_n hx hb dO_init_115 rfl (lv_at hl 3 rfl) ?_
  refine bm_get (ci := 2) (v := .ref (sz + 1)) (C := "BlindMint$Coin") (T := bt_O) (N := 6) hx hb hts bu_O hown hK hM h0 rfl 5 (by decide) (hts _ bw_425) (fun _ h9 => h9) rfl dO_init_116 ?_
  refine lv_iload hx hb dO_init_119 (lv_at hl 0 rfl) ?_
  refine lv_iconst (v := 1) hx hb dO_init_121 (by decide) ?_
  refine lv_iadd hx hb dO_init_122 ?_
  refine lv_topi (fun t29 e_t29 => ?_)
  have e_t29 : t29 = 4 := by rw [e_t29]; decide
  subst e_t29
  refine lv_aload hx hb dO_init_123 (lv_at hl 1 rfl) ?_
  refine bm_get (ci := 1) (v := .long (vE 1)) (C := "BlindMint$Candidate") (T := bt_C) (N := 7) hx hb hts bu_C hown hK hM k1 rfl 2 (by decide) (hts _ bw_46) (fun _ h9 => h9) rfl dO_init_125 ?_
  refine bm_last hx hb hK hM hS 1 hc6 rfl 4 (bm_ix_nI (k := 4) (by decide)) (by decide) dO_init_128 (fun H locs hz1 hM hS => ?_)
  replace hz := hz1.trans hz
  replace hM : bm_M D base (bm_up M28 (sz + 1) (.inl (ct 1, 12, .inr (.inl (vp_updL (vp_updL (vp_updL (vp_updL (vp_updL (fun _ => 0) 0 (vB 0)) 1 (vE 0)) 2 (vX 0)) 3 (vB 1)) 4 (vE 1)))))) H := hM
  obtain ⟨M30, eM30⟩ : ∃ X, X = bm_up M28 (sz + 1) (.inl (ct 1, 12, .inr (.inl (vp_updL (vp_updL (vp_updL (vp_updL (vp_updL (fun _ => 0) 0 (vB 0)) 1 (vE 0)) 2 (vX 0)) 3 (vB 1)) 4 (vE 1))))) := ⟨_, rfl⟩
  rw [← eM30] at hM
  replace h0 : M30 a = some (.inr (2, [.int dn, .long nu, .long sg, .int 0, .ref sz, .ref (sz + 1)])) := by rw [eM30, bm_up_ne (bm_ne_ao hc6 h0)]; exact h0
  replace h1 : M30 y = some (.inl (ct 5, 4, .inr (.inr (.inr (.inr pf))))) := by rw [eM30, bm_up_ne (bm_ne_aa hc6 h1 (by decide))]; exact h1
  replace k0 : M30 (cd 0) = some (.inr (1, [.long (vA 0), .long (vC 0), .long (vE 0), .long (vB 0), .long (vX 0), .long (vY 0), .long (vP 0)])) := by rw [eM30, bm_up_ne (bm_ne_ao hc6 k0)]; exact k0
  replace k1 : M30 (cd 1) = some (.inr (1, [.long (vA 1), .long (vC 1), .long (vE 1), .long (vB 1), .long (vX 1), .long (vY 1), .long (vP 1)])) := by rw [eM30, bm_up_ne (bm_ne_ao hc6 k1)]; exact k1
  replace k2 : M30 (cd 2) = some (.inr (1, [.long (vA 2), .long (vC 2), .long (vE 2), .long (vB 2), .long (vX 2), .long (vY 2), .long (vP 2)])) := by rw [eM30, bm_up_ne (bm_ne_ao hc6 k2)]; exact k2
  replace k3 : M30 (cd 3) = some (.inr (1, [.long (vA 3), .long (vC 3), .long (vE 3), .long (vB 3), .long (vX 3), .long (vY 3), .long (vP 3)])) := by rw [eM30, bm_up_ne (bm_ne_ao hc6 k3)]; exact k3
  replace hc3 : M30 sz = some (.inl (ct 1, 12, .inr (.inl (vp_updL (vp_updL (vp_updL (vp_updL (vp_updL (vp_updL (fun _ => 0) 0 (vA 0)) 1 (vC 0)) 2 (vY 0)) 3 (vA 1)) 4 (vC 1)) 5 (vY 1))))) := by rw [eM30, bm_up_ne (by omega)]; exact hc3
  replace hc6 : M30 (sz + 1) = some (.inl (ct 1, 12, .inr (.inl (vp_updL (vp_updL (vp_updL (vp_updL (vp_updL (fun _ => 0) 0 (vB 0)) 1 (vE 0)) 2 (vX 0)) 3 (vB 1)) 4 (vE 1))))) := by rw [eM30]; exact bm_up_self _ _ _
  replace hF : ∀ b, b ≠ a → b < sz → M30 b = M b := fun b q1 q2 => by rw [eM30]; exact (bm_up_ne (by omega)).trans (hF b q1 q2)
  clear eM30
  refine lv_aload_n hx hb dO_init_129 rfl (lv_at hl 3 rfl) ?_
  refine bm_get (ci := 2) (v := .ref (sz + 1)) (C := "BlindMint$Coin") (T := bt_O) (N := 6) hx hb hts bu_O hown hK hM h0 rfl 5 (by decide) (hts _ bw_425) (fun _ h9 => h9) rfl dO_init_130 ?_
  refine lv_iload hx hb dO_init_133 (lv_at hl 0 rfl) ?_
  refine lv_iconst (v := 2) hx hb dO_init_135 (by decide) ?_
  refine lv_iadd hx hb dO_init_136 ?_
  refine lv_topi (fun t31 e_t31 => ?_)
  have e_t31 : t31 = 5 := by rw [e_t31]; decide
  subst e_t31
  refine lv_aload hx hb dO_init_137 (lv_at hl 1 rfl) ?_
  refine bm_get (ci := 1) (v := .long (vX 1)) (C := "BlindMint$Candidate") (T := bt_C) (N := 7) hx hb hts bu_C hown hK hM k1 rfl 4 (by decide) (hts _ bw_50) (fun _ h9 => h9) rfl dO_init_139 ?_
  refine bm_last hx hb hK hM hS 1 hc6 rfl 5 (bm_ix_nI (k := 5) (by decide)) (by decide) dO_init_142 (fun H locs hz1 hM hS => ?_)
  replace hz := hz1.trans hz
  replace hM : bm_M D base (bm_up M30 (sz + 1) (.inl (ct 1, 12, .inr (.inl (vp_updL (vp_updL (vp_updL (vp_updL (vp_updL (vp_updL (fun _ => 0) 0 (vB 0)) 1 (vE 0)) 2 (vX 0)) 3 (vB 1)) 4 (vE 1)) 5 (vX 1)))))) H := hM
  obtain ⟨M32, eM32⟩ : ∃ X, X = bm_up M30 (sz + 1) (.inl (ct 1, 12, .inr (.inl (vp_updL (vp_updL (vp_updL (vp_updL (vp_updL (vp_updL (fun _ => 0) 0 (vB 0)) 1 (vE 0)) 2 (vX 0)) 3 (vB 1)) 4 (vE 1)) 5 (vX 1))))) := ⟨_, rfl⟩
  rw [← eM32] at hM
  replace h0 : M32 a = some (.inr (2, [.int dn, .long nu, .long sg, .int 0, .ref sz, .ref (sz + 1)])) := by rw [eM32, bm_up_ne (bm_ne_ao hc6 h0)]; exact h0
  replace h1 : M32 y = some (.inl (ct 5, 4, .inr (.inr (.inr (.inr pf))))) := by rw [eM32, bm_up_ne (bm_ne_aa hc6 h1 (by decide))]; exact h1
  replace k0 : M32 (cd 0) = some (.inr (1, [.long (vA 0), .long (vC 0), .long (vE 0), .long (vB 0), .long (vX 0), .long (vY 0), .long (vP 0)])) := by rw [eM32, bm_up_ne (bm_ne_ao hc6 k0)]; exact k0
  replace k1 : M32 (cd 1) = some (.inr (1, [.long (vA 1), .long (vC 1), .long (vE 1), .long (vB 1), .long (vX 1), .long (vY 1), .long (vP 1)])) := by rw [eM32, bm_up_ne (bm_ne_ao hc6 k1)]; exact k1
  replace k2 : M32 (cd 2) = some (.inr (1, [.long (vA 2), .long (vC 2), .long (vE 2), .long (vB 2), .long (vX 2), .long (vY 2), .long (vP 2)])) := by rw [eM32, bm_up_ne (bm_ne_ao hc6 k2)]; exact k2
  replace k3 : M32 (cd 3) = some (.inr (1, [.long (vA 3), .long (vC 3), .long (vE 3), .long (vB 3), .long (vX 3), .long (vY 3), .long (vP 3)])) := by rw [eM32, bm_up_ne (bm_ne_ao hc6 k3)]; exact k3
  replace hc3 : M32 sz = some (.inl (ct 1, 12, .inr (.inl (vp_updL (vp_updL (vp_updL (vp_updL (vp_updL (vp_updL (fun _ => 0) 0 (vA 0)) 1 (vC 0)) 2 (vY 0)) 3 (vA 1)) 4 (vC 1)) 5 (vY 1))))) := by rw [eM32, bm_up_ne (by omega)]; exact hc3
  replace hc6 : M32 (sz + 1) = some (.inl (ct 1, 12, .inr (.inl (vp_updL (vp_updL (vp_updL (vp_updL (vp_updL (vp_updL (fun _ => 0) 0 (vB 0)) 1 (vE 0)) 2 (vX 0)) 3 (vB 1)) 4 (vE 1)) 5 (vX 1))))) := by rw [eM32]; exact bm_up_self _ _ _
  replace hF : ∀ b, b ≠ a → b < sz → M32 b = M b := fun b q1 q2 => by rw [eM32]; exact (bm_up_ne (by omega)).trans (hF b q1 q2)
  clear eM32
  refine lv_iinc (v := 2) (k := 2) hx hb dO_init_143 hl rfl (by decide) (by decide) rfl (fun ls hl => ?_)
  have hl : lv_has ls 10 [(7, .int 2), (9, .int 3), (8, .ref (cd 1)), (0, .ref a), (1, .int dn), (2, .long nu), (4, .long sg), (6, .ref y)] := hl
  refine lv_goto (tgt := 44) hx hb dO_init_146 rfl ?_
  refine lv_iload hx hb dO_init_44 (lv_at hl 0 rfl) ?_
  refine lv_iconst (v := 4) hx hb dO_init_46 (by decide) ?_
  refine lv_icmp_ge (tgt := 149) hx hb dO_init_47 rfl (fun h => absurd h (by decide)) (fun _ => ?_)
  refine lv_aload hx hb dO_init_50 (lv_at hl 7 rfl) ?_
  refine lv_iload hx hb dO_init_52 (lv_at hl 0 rfl) ?_
  refine bm_aald (v := .ref (cd 2)) hx hb hK hM 5 h1 rfl 2 (bm_ix_nI (k := 2) (by decide)) (by decide) (by rw [hpf 2 (by decide)]; rfl) dO_init_54 ?_
  refine lv_astore hx hb dO_init_55 hl (by decide) rfl (fun ls hl => ?_)
  have hl : lv_has ls 10 [(8, .ref (cd 2)), (7, .int 2), (9, .int 3), (0, .ref a), (1, .int dn), (2, .long nu), (4, .long sg), (6, .ref y)] := hl
  refine lv_iload hx hb dO_init_57 (lv_at hl 1 rfl) ?_
  refine lv_iconst (v := 3) hx hb dO_init_59 (by decide) ?_
  refine lv_imul hx hb dO_init_60 ?_
  refine lv_topi (fun t33 e_t33 => ?_)
  have e_t33 : t33 = 6 := by rw [e_t33]; decide
  subst e_t33
  refine lv_istore hx hb dO_init_61 hl (by decide) rfl (fun ls hl => ?_)
  have hl : lv_has ls 10 [(9, .int 6), (8, .ref (cd 2)), (7, .int 2), (0, .ref a), (1, .int dn), (2, .long nu), (4, .long sg), (6, .ref y)] := hl
  refine lv_aload_n hx hb dO_init_63 rfl (lv_at hl 3 rfl) ?_
  refine bm_get (ci := 2) (v := .ref sz) (C := "BlindMint$Coin") (T := bt_O) (N := 6) hx hb hts bu_O hown hK hM h0 rfl 4 (by decide) (hts _ bw_423) (fun _ h9 => h9) rfl dO_init_64 ?_
  refine lv_iload hx hb dO_init_67 (lv_at hl 0 rfl) ?_
  refine lv_aload hx hb dO_init_69 (lv_at hl 1 rfl) ?_
  refine bm_get (ci := 1) (v := .long (vA 2)) (C := "BlindMint$Candidate") (T := bt_C) (N := 7) hx hb hts bu_C hown hK hM k2 rfl 0 (by decide) (hts _ bw_42) (fun _ h9 => h9) rfl dO_init_71 ?_
  refine bm_last hx hb hK hM hS 1 hc3 rfl 6 (bm_ix_nI (k := 6) (by decide)) (by decide) dO_init_74 (fun H locs hz1 hM hS => ?_)
  replace hz := hz1.trans hz
  replace hM : bm_M D base (bm_up M32 sz (.inl (ct 1, 12, .inr (.inl (vp_updL (vp_updL (vp_updL (vp_updL (vp_updL (vp_updL (vp_updL (fun _ => 0) 0 (vA 0)) 1 (vC 0)) 2 (vY 0)) 3 (vA 1)) 4 (vC 1)) 5 (vY 1)) 6 (vA 2)))))) H := hM
  obtain ⟨M34, eM34⟩ : ∃ X, X = bm_up M32 sz (.inl (ct 1, 12, .inr (.inl (vp_updL (vp_updL (vp_updL (vp_updL (vp_updL (vp_updL (vp_updL (fun _ => 0) 0 (vA 0)) 1 (vC 0)) 2 (vY 0)) 3 (vA 1)) 4 (vC 1)) 5 (vY 1)) 6 (vA 2))))) := ⟨_, rfl⟩
  rw [← eM34] at hM
  replace h0 : M34 a = some (.inr (2, [.int dn, .long nu, .long sg, .int 0, .ref sz, .ref (sz + 1)])) := by rw [eM34, bm_up_ne (bm_ne_ao hc3 h0)]; exact h0
  replace h1 : M34 y = some (.inl (ct 5, 4, .inr (.inr (.inr (.inr pf))))) := by rw [eM34, bm_up_ne (bm_ne_aa hc3 h1 (by decide))]; exact h1
  replace k0 : M34 (cd 0) = some (.inr (1, [.long (vA 0), .long (vC 0), .long (vE 0), .long (vB 0), .long (vX 0), .long (vY 0), .long (vP 0)])) := by rw [eM34, bm_up_ne (bm_ne_ao hc3 k0)]; exact k0
  replace k1 : M34 (cd 1) = some (.inr (1, [.long (vA 1), .long (vC 1), .long (vE 1), .long (vB 1), .long (vX 1), .long (vY 1), .long (vP 1)])) := by rw [eM34, bm_up_ne (bm_ne_ao hc3 k1)]; exact k1
  replace k2 : M34 (cd 2) = some (.inr (1, [.long (vA 2), .long (vC 2), .long (vE 2), .long (vB 2), .long (vX 2), .long (vY 2), .long (vP 2)])) := by rw [eM34, bm_up_ne (bm_ne_ao hc3 k2)]; exact k2
  replace k3 : M34 (cd 3) = some (.inr (1, [.long (vA 3), .long (vC 3), .long (vE 3), .long (vB 3), .long (vX 3), .long (vY 3), .long (vP 3)])) := by rw [eM34, bm_up_ne (bm_ne_ao hc3 k3)]; exact k3
  replace hc6 : M34 (sz + 1) = some (.inl (ct 1, 12, .inr (.inl (vp_updL (vp_updL (vp_updL (vp_updL (vp_updL (vp_updL (fun _ => 0) 0 (vB 0)) 1 (vE 0)) 2 (vX 0)) 3 (vB 1)) 4 (vE 1)) 5 (vX 1))))) := by rw [eM34, bm_up_ne (by omega)]; exact hc6
  replace hc3 : M34 sz = some (.inl (ct 1, 12, .inr (.inl (vp_updL (vp_updL (vp_updL (vp_updL (vp_updL (vp_updL (vp_updL (fun _ => 0) 0 (vA 0)) 1 (vC 0)) 2 (vY 0)) 3 (vA 1)) 4 (vC 1)) 5 (vY 1)) 6 (vA 2))))) := by rw [eM34]; exact bm_up_self _ _ _
  replace hF : ∀ b, b ≠ a → b < sz → M34 b = M b := fun b q1 q2 => by rw [eM34]; exact (bm_up_ne (by omega)).trans (hF b q1 q2)
  clear eM34
  refine lv_aload_n hx hb dO_init_75 rfl (lv_at hl 3 rfl) ?_
  refine bm_get (ci := 2) (v := .ref sz) (C := "BlindMint$Coin") (T := bt_O) (N := 6) hx hb hts bu_O hown hK hM h0 rfl 4 (by decide) (hts _ bw_423) (fun _ h9 => h9) rfl dO_init_76 ?_
  refine lv_iload hx hb dO_init_79 (lv_at hl 0 rfl) ?_
  refine lv_iconst (v := 1) hx hb dO_init_81 (by decide) ?_
  refine lv_iadd hx hb dO_init_82 ?_
  refine lv_topi (fun t35 e_t35 => ?_)
  have e_t35 : t35 = 7 := by rw [e_t35]; decide
  subst e_t35
  refine lv_aload hx hb dO_init_83 (lv_at hl 1 rfl) ?_
  refine bm_get (ci := 1) (v := .long (vC 2)) (C := "BlindMint$Candidate") (T := bt_C) (N := 7) hx hb hts bu_C hown hK hM k2 rfl 1 (by decide) (hts _ bw_44) (fun _ h9 => h9) rfl dO_init_85 ?_
  refine bm_last hx hb hK hM hS 1 hc3 rfl 7 (bm_ix_nI (k := 7) (by decide)) (by decide) dO_init_88 (fun H locs hz1 hM hS => ?_)
  replace hz := hz1.trans hz
  replace hM : bm_M D base (bm_up M34 sz (.inl (ct 1, 12, .inr (.inl (vp_updL (vp_updL (vp_updL (vp_updL (vp_updL (vp_updL (vp_updL (vp_updL (fun _ => 0) 0 (vA 0)) 1 (vC 0)) 2 (vY 0)) 3 (vA 1)) 4 (vC 1)) 5 (vY 1)) 6 (vA 2)) 7 (vC 2)))))) H := hM
  obtain ⟨M36, eM36⟩ : ∃ X, X = bm_up M34 sz (.inl (ct 1, 12, .inr (.inl (vp_updL (vp_updL (vp_updL (vp_updL (vp_updL (vp_updL (vp_updL (vp_updL (fun _ => 0) 0 (vA 0)) 1 (vC 0)) 2 (vY 0)) 3 (vA 1)) 4 (vC 1)) 5 (vY 1)) 6 (vA 2)) 7 (vC 2))))) := ⟨_, rfl⟩
  rw [← eM36] at hM
  replace h0 : M36 a = some (.inr (2, [.int dn, .long nu, .long sg, .int 0, .ref sz, .ref (sz + 1)])) := by rw [eM36, bm_up_ne (bm_ne_ao hc3 h0)]; exact h0
  replace h1 : M36 y = some (.inl (ct 5, 4, .inr (.inr (.inr (.inr pf))))) := by rw [eM36, bm_up_ne (bm_ne_aa hc3 h1 (by decide))]; exact h1
  replace k0 : M36 (cd 0) = some (.inr (1, [.long (vA 0), .long (vC 0), .long (vE 0), .long (vB 0), .long (vX 0), .long (vY 0), .long (vP 0)])) := by rw [eM36, bm_up_ne (bm_ne_ao hc3 k0)]; exact k0
  replace k1 : M36 (cd 1) = some (.inr (1, [.long (vA 1), .long (vC 1), .long (vE 1), .long (vB 1), .long (vX 1), .long (vY 1), .long (vP 1)])) := by rw [eM36, bm_up_ne (bm_ne_ao hc3 k1)]; exact k1
  replace k2 : M36 (cd 2) = some (.inr (1, [.long (vA 2), .long (vC 2), .long (vE 2), .long (vB 2), .long (vX 2), .long (vY 2), .long (vP 2)])) := by rw [eM36, bm_up_ne (bm_ne_ao hc3 k2)]; exact k2
  replace k3 : M36 (cd 3) = some (.inr (1, [.long (vA 3), .long (vC 3), .long (vE 3), .long (vB 3), .long (vX 3), .long (vY 3), .long (vP 3)])) := by rw [eM36, bm_up_ne (bm_ne_ao hc3 k3)]; exact k3
  replace hc6 : M36 (sz + 1) = some (.inl (ct 1, 12, .inr (.inl (vp_updL (vp_updL (vp_updL (vp_updL (vp_updL (vp_updL (fun _ => 0) 0 (vB 0)) 1 (vE 0)) 2 (vX 0)) 3 (vB 1)) 4 (vE 1)) 5 (vX 1))))) := by rw [eM36, bm_up_ne (by omega)]; exact hc6
  replace hc3 : M36 sz = some (.inl (ct 1, 12, .inr (.inl (vp_updL (vp_updL (vp_updL (vp_updL (vp_updL (vp_updL (vp_updL (vp_updL (fun _ => 0) 0 (vA 0)) 1 (vC 0)) 2 (vY 0)) 3 (vA 1)) 4 (vC 1)) 5 (vY 1)) 6 (vA 2)) 7 (vC 2))))) := by rw [eM36]; exact bm_up_self _ _ _
  replace hF : ∀ b, b ≠ a → b < sz → M36 b = M b := fun b q1 q2 => by rw [eM36]; exact (bm_up_ne (by omega)).trans (hF b q1 q2)
  clear eM36
  refine lv_aload_n hx hb dO_init_89 rfl (lv_at hl 3 rfl) ?_
  refine bm_get (ci := 2) (v := .ref sz) (C := "BlindMint$Coin") (T := bt_O) (N := 6) hx hb hts bu_O hown hK hM h0 rfl 4 (by decide) (hts _ bw_423) (fun _ h9 => h9) rfl dO_init_90 ?_
  refine lv_iload hx hb dO_init_93 (lv_at hl 0 rfl) ?_
  refine lv_iconst (v := 2) hx hb dO_init_95 (by decide) ?_
  refine lv_iadd hx hb dO_init_96 ?_
  refine lv_topi (fun t37 e_t37 => ?_)
  have e_t37 : t37 = 8 := by rw [e_t37]; decide
  subst e_t37
  refine lv_aload hx hb dO_init_97 (lv_at hl 1 rfl) ?_
  refine bm_get (ci := 1) (v := .long (vY 2)) (C := "BlindMint$Candidate") (T := bt_C) (N := 7) hx hb hts bu_C hown hK hM k2 rfl 5 (by decide) (hts _ bw_52) (fun _ h9 => h9) rfl dO_init_99 ?_
  refine bm_last hx hb hK hM hS 1 hc3 rfl 8 (bm_ix_nI (k := 8) (by decide)) (by decide) dO_init_102 (fun H locs hz1 hM hS => ?_)
  replace hz := hz1.trans hz
  replace hM : bm_M D base (bm_up M36 sz (.inl (ct 1, 12, .inr (.inl (vp_updL (vp_updL (vp_updL (vp_updL (vp_updL (vp_updL (vp_updL (vp_updL (vp_updL (fun _ => 0) 0 (vA 0)) 1 (vC 0)) 2 (vY 0)) 3 (vA 1)) 4 (vC 1)) 5 (vY 1)) 6 (vA 2)) 7 (vC 2)) 8 (vY 2)))))) H := hM
  obtain ⟨M38, eM38⟩ : ∃ X, X = bm_up M36 sz (.inl (ct 1, 12, .inr (.inl (vp_updL (vp_updL (vp_updL (vp_updL (vp_updL (vp_updL (vp_updL (vp_updL (vp_updL (fun _ => 0) 0 (vA 0)) 1 (vC 0)) 2 (vY 0)) 3 (vA 1)) 4 (vC 1)) 5 (vY 1)) 6 (vA 2)) 7 (vC 2)) 8 (vY 2))))) := ⟨_, rfl⟩
  rw [← eM38] at hM
  replace h0 : M38 a = some (.inr (2, [.int dn, .long nu, .long sg, .int 0, .ref sz, .ref (sz + 1)])) := by rw [eM38, bm_up_ne (bm_ne_ao hc3 h0)]; exact h0
  replace h1 : M38 y = some (.inl (ct 5, 4, .inr (.inr (.inr (.inr pf))))) := by rw [eM38, bm_up_ne (bm_ne_aa hc3 h1 (by decide))]; exact h1
  replace k0 : M38 (cd 0) = some (.inr (1, [.long (vA 0), .long (vC 0), .long (vE 0), .long (vB 0), .long (vX 0), .long (vY 0), .long (vP 0)])) := by rw [eM38, bm_up_ne (bm_ne_ao hc3 k0)]; exact k0
  replace k1 : M38 (cd 1) = some (.inr (1, [.long (vA 1), .long (vC 1), .long (vE 1), .long (vB 1), .long (vX 1), .long (vY 1), .long (vP 1)])) := by rw [eM38, bm_up_ne (bm_ne_ao hc3 k1)]; exact k1
  replace k2 : M38 (cd 2) = some (.inr (1, [.long (vA 2), .long (vC 2), .long (vE 2), .long (vB 2), .long (vX 2), .long (vY 2), .long (vP 2)])) := by rw [eM38, bm_up_ne (bm_ne_ao hc3 k2)]; exact k2
  replace k3 : M38 (cd 3) = some (.inr (1, [.long (vA 3), .long (vC 3), .long (vE 3), .long (vB 3), .long (vX 3), .long (vY 3), .long (vP 3)])) := by rw [eM38, bm_up_ne (bm_ne_ao hc3 k3)]; exact k3
  replace hc6 : M38 (sz + 1) = some (.inl (ct 1, 12, .inr (.inl (vp_updL (vp_updL (vp_updL (vp_updL (vp_updL (vp_updL (fun _ => 0) 0 (vB 0)) 1 (vE 0)) 2 (vX 0)) 3 (vB 1)) 4 (vE 1)) 5 (vX 1))))) := by rw [eM38, bm_up_ne (by omega)]; exact hc6
  replace hc3 : M38 sz = some (.inl (ct 1, 12, .inr (.inl (vp_updL (vp_updL (vp_updL (vp_updL (vp_updL (vp_updL (vp_updL (vp_updL (vp_updL (fun _ => 0) 0 (vA 0)) 1 (vC 0)) 2 (vY 0)) 3 (vA 1)) 4 (vC 1)) 5 (vY 1)) 6 (vA 2)) 7 (vC 2)) 8 (vY 2))))) := by rw [eM38]; exact bm_up_self _ _ _
  replace hF : ∀ b, b ≠ a → b < sz → M38 b = M b := fun b q1 q2 => by rw [eM38]; exact (bm_up_ne (by omega)).trans (hF b q1 q2)
  clear eM38
  refine lv_aload_n hx hb dO_init_103 rfl (lv_at hl 3 rfl) ?_
  refine bm_get (ci := 2) (v := .ref (sz + 1)) (C := "BlindMint$Coin") (T := bt_O) (N := 6) hx hb hts bu_O hown hK hM h0 rfl 5 (by decide) (hts _ bw_425) (fun _ h9 => h9) rfl dO_init_104 ?_
  refine lv_iload hx hb dO_init_107 (lv_at hl 0 rfl) ?_
  refine lv_aload hx hb dO_init_109 (lv_at hl 1 rfl) ?_
  refine bm_get (ci := 1) (v := .long (vB 2)) (C := "BlindMint$Candidate") (T := bt_C) (N := 7) hx hb hts bu_C hown hK hM k2 rfl 3 (by decide) (hts _ bw_48) (fun _ h9 => h9) rfl dO_init_111 ?_
  refine bm_last hx hb hK hM hS 1 hc6 rfl 6 (bm_ix_nI (k := 6) (by decide)) (by decide) dO_init_114 (fun H locs hz1 hM hS => ?_)
  replace hz := hz1.trans hz
  replace hM : bm_M D base (bm_up M38 (sz + 1) (.inl (ct 1, 12, .inr (.inl (vp_updL (vp_updL (vp_updL (vp_updL (vp_updL (vp_updL (vp_updL (fun _ => 0) 0 (vB 0)) 1 (vE 0)) 2 (vX 0)) 3 (vB 1)) 4 (vE 1)) 5 (vX 1)) 6 (vB 2)))))) H := hM
  obtain ⟨M39, eM39⟩ : ∃ X, X = bm_up M38 (sz + 1) (.inl (ct 1, 12, .inr (.inl (vp_updL (vp_updL (vp_updL (vp_updL (vp_updL (vp_updL (vp_updL (fun _ => 0) 0 (vB 0)) 1 (vE 0)) 2 (vX 0)) 3 (vB 1)) 4 (vE 1)) 5 (vX 1)) 6 (vB 2))))) := ⟨_, rfl⟩
  rw [← eM39] at hM
  replace h0 : M39 a = some (.inr (2, [.int dn, .long nu, .long sg, .int 0, .ref sz, .ref (sz + 1)])) := by rw [eM39, bm_up_ne (bm_ne_ao hc6 h0)]; exact h0
  replace h1 : M39 y = some (.inl (ct 5, 4, .inr (.inr (.inr (.inr pf))))) := by rw [eM39, bm_up_ne (bm_ne_aa hc6 h1 (by decide))]; exact h1
  replace k0 : M39 (cd 0) = some (.inr (1, [.long (vA 0), .long (vC 0), .long (vE 0), .long (vB 0), .long (vX 0), .long (vY 0), .long (vP 0)])) := by rw [eM39, bm_up_ne (bm_ne_ao hc6 k0)]; exact k0
  replace k1 : M39 (cd 1) = some (.inr (1, [.long (vA 1), .long (vC 1), .long (vE 1), .long (vB 1), .long (vX 1), .long (vY 1), .long (vP 1)])) := by rw [eM39, bm_up_ne (bm_ne_ao hc6 k1)]; exact k1
  replace k2 : M39 (cd 2) = some (.inr (1, [.long (vA 2), .long (vC 2), .long (vE 2), .long (vB 2), .long (vX 2), .long (vY 2), .long (vP 2)])) := by rw [eM39, bm_up_ne (bm_ne_ao hc6 k2)]; exact k2
  replace k3 : M39 (cd 3) = some (.inr (1, [.long (vA 3), .long (vC 3), .long (vE 3), .long (vB 3), .long (vX 3), .long (vY 3), .long (vP 3)])) := by rw [eM39, bm_up_ne (bm_ne_ao hc6 k3)]; exact k3
  replace hc3 : M39 sz = some (.inl (ct 1, 12, .inr (.inl (vp_updL (vp_updL (vp_updL (vp_updL (vp_updL (vp_updL (vp_updL (vp_updL (vp_updL (fun _ => 0) 0 (vA 0)) 1 (vC 0)) 2 (vY 0)) 3 (vA 1)) 4 (vC 1)) 5 (vY 1)) 6 (vA 2)) 7 (vC 2)) 8 (vY 2))))) := by rw [eM39, bm_up_ne (by omega)]; exact hc3
  replace hc6 : M39 (sz + 1) = some (.inl (ct 1, 12, .inr (.inl (vp_updL (vp_updL (vp_updL (vp_updL (vp_updL (vp_updL (vp_updL (fun _ => 0) 0 (vB 0)) 1 (vE 0)) 2 (vX 0)) 3 (vB 1)) 4 (vE 1)) 5 (vX 1)) 6 (vB 2))))) := by rw [eM39]; exact bm_up_self _ _ _
  replace hF : ∀ b, b ≠ a → b < sz → M39 b = M b := fun b q1 q2 => by rw [eM39]; exact (bm_up_ne (by omega)).trans (hF b q1 q2)
  clear eM39
  refine lv_aload_n hx hb dO_init_115 rfl (lv_at hl 3 rfl) ?_
  refine bm_get (ci := 2) (v := .ref (sz + 1)) (C := "BlindMint$Coin") (T := bt_O) (N := 6) hx hb hts bu_O hown hK hM h0 rfl 5 (by decide) (hts _ bw_425) (fun _ h9 => h9) rfl dO_init_116 ?_
  refine lv_iload hx hb dO_init_119 (lv_at hl 0 rfl) ?_
  refine lv_iconst (v := 1) hx hb dO_init_121 (by decide) ?_
  refine lv_iadd hx hb dO_init_122 ?_
  refine lv_topi (fun t40 e_t40 => ?_)
  have e_t40 : t40 = 7 := by rw [e_t40]; decide
  subst e_t40
  refine lv_aload hx hb dO_init_123 (lv_at hl 1 rfl) ?_
  refine bm_get (ci := 1) (v := .long (vE 2)) (C := "BlindMint$Candidate") (T := bt_C) (N := 7) hx hb hts bu_C hown hK hM k2 rfl 2 (by decide) (hts _ bw_46) (fun _ h9 => h9) rfl dO_init_125 ?_
  refine bm_last hx hb hK hM hS 1 hc6 rfl 7 (bm_ix_nI (k := 7) (by decide)) (by decide) dO_init_128 (fun H locs hz1 hM hS => ?_)
  replace hz := hz1.trans hz
  replace hM : bm_M D base (bm_up M39 (sz + 1) (.inl (ct 1, 12, .inr (.inl (vp_updL (vp_updL (vp_updL (vp_updL (vp_updL (vp_updL (vp_updL (vp_updL (fun _ => 0) 0 (vB 0)) 1 (vE 0)) 2 (vX 0)) 3 (vB 1)) 4 (vE 1)) 5 (vX 1)) 6 (vB 2)) 7 (vE 2)))))) H := hM
  obtain ⟨M41, eM41⟩ : ∃ X, X = bm_up M39 (sz + 1) (.inl (ct 1, 12, .inr (.inl (vp_updL (vp_updL (vp_updL (vp_updL (vp_updL (vp_updL (vp_updL (vp_updL (fun _ => 0) 0 (vB 0)) 1 (vE 0)) 2 (vX 0)) 3 (vB 1)) 4 (vE 1)) 5 (vX 1)) 6 (vB 2)) 7 (vE 2))))) := ⟨_, rfl⟩
  rw [← eM41] at hM
  replace h0 : M41 a = some (.inr (2, [.int dn, .long nu, .long sg, .int 0, .ref sz, .ref (sz + 1)])) := by rw [eM41, bm_up_ne (bm_ne_ao hc6 h0)]; exact h0
  replace h1 : M41 y = some (.inl (ct 5, 4, .inr (.inr (.inr (.inr pf))))) := by rw [eM41, bm_up_ne (bm_ne_aa hc6 h1 (by decide))]; exact h1
  replace k0 : M41 (cd 0) = some (.inr (1, [.long (vA 0), .long (vC 0), .long (vE 0), .long (vB 0), .long (vX 0), .long (vY 0), .long (vP 0)])) := by rw [eM41, bm_up_ne (bm_ne_ao hc6 k0)]; exact k0
  replace k1 : M41 (cd 1) = some (.inr (1, [.long (vA 1), .long (vC 1), .long (vE 1), .long (vB 1), .long (vX 1), .long (vY 1), .long (vP 1)])) := by rw [eM41, bm_up_ne (bm_ne_ao hc6 k1)]; exact k1
  replace k2 : M41 (cd 2) = some (.inr (1, [.long (vA 2), .long (vC 2), .long (vE 2), .long (vB 2), .long (vX 2), .long (vY 2), .long (vP 2)])) := by rw [eM41, bm_up_ne (bm_ne_ao hc6 k2)]; exact k2
  replace k3 : M41 (cd 3) = some (.inr (1, [.long (vA 3), .long (vC 3), .long (vE 3), .long (vB 3), .long (vX 3), .long (vY 3), .long (vP 3)])) := by rw [eM41, bm_up_ne (bm_ne_ao hc6 k3)]; exact k3
  replace hc3 : M41 sz = some (.inl (ct 1, 12, .inr (.inl (vp_updL (vp_updL (vp_updL (vp_updL (vp_updL (vp_updL (vp_updL (vp_updL (vp_updL (fun _ => 0) 0 (vA 0)) 1 (vC 0)) 2 (vY 0)) 3 (vA 1)) 4 (vC 1)) 5 (vY 1)) 6 (vA 2)) 7 (vC 2)) 8 (vY 2))))) := by rw [eM41, bm_up_ne (by omega)]; exact hc3
  replace hc6 : M41 (sz + 1) = some (.inl (ct 1, 12, .inr (.inl (vp_updL (vp_updL (vp_updL (vp_updL (vp_updL (vp_updL (vp_updL (vp_updL (fun _ => 0) 0 (vB 0)) 1 (vE 0)) 2 (vX 0)) 3 (vB 1)) 4 (vE 1)) 5 (vX 1)) 6 (vB 2)) 7 (vE 2))))) := by rw [eM41]; exact bm_up_self _ _ _
  replace hF : ∀ b, b ≠ a → b < sz → M41 b = M b := fun b q1 q2 => by rw [eM41]; exact (bm_up_ne (by omega)).trans (hF b q1 q2)
  clear eM41
  refine lv_aload_n hx hb dO_init_129 rfl (lv_at hl 3 rfl) ?_
  refine bm_get (ci := 2) (v := .ref (sz + 1)) (C := "BlindMint$Coin") (T := bt_O) (N := 6) hx hb hts bu_O hown hK hM h0 rfl 5 (by decide) (hts _ bw_425) (fun _ h9 => h9) rfl dO_init_130 ?_
  refine lv_iload hx hb dO_init_133 (lv_at hl 0 rfl) ?_
  refine lv_iconst (v := 2) hx hb dO_init_135 (by decide) ?_
  refine lv_iadd hx hb dO_init_136 ?_
  refine lv_topi (fun t42 e_t42 => ?_)
  have e_t42 : t42 = 8 := by rw [e_t42]; decide
  subst e_t42
  refine lv_aload hx hb dO_init_137 (lv_at hl 1 rfl) ?_
  refine bm_get (ci := 1) (v := .long (vX 2)) (C := "BlindMint$Candidate") (T := bt_C) (N := 7) hx hb hts bu_C hown hK hM k2 rfl 4 (by decide) (hts _ bw_50) (fun _ h9 => h9) rfl dO_init_139 ?_
  refine bm_last hx hb hK hM hS 1 hc6 rfl 8 (bm_ix_nI (k := 8) (by decide)) (by decide) dO_init_142 (fun H locs hz1 hM hS => ?_)
  replace hz := hz1.trans hz
  replace hM : bm_M D base (bm_up M41 (sz + 1) (.inl (ct 1, 12, .inr (.inl (vp_updL (vp_updL (vp_updL (vp_updL (vp_updL (vp_updL (vp_updL (vp_updL (vp_updL (fun _ => 0) 0 (vB 0)) 1 (vE 0)) 2 (vX 0)) 3 (vB 1)) 4 (vE 1)) 5 (vX 1)) 6 (vB 2)) 7 (vE 2)) 8 (vX 2)))))) H := hM
  obtain ⟨M43, eM43⟩ : ∃ X, X = bm_up M41 (sz + 1) (.inl (ct 1, 12, .inr (.inl (vp_updL (vp_updL (vp_updL (vp_updL (vp_updL (vp_updL (vp_updL (vp_updL (vp_updL (fun _ => 0) 0 (vB 0)) 1 (vE 0)) 2 (vX 0)) 3 (vB 1)) 4 (vE 1)) 5 (vX 1)) 6 (vB 2)) 7 (vE 2)) 8 (vX 2))))) := ⟨_, rfl⟩
  rw [← eM43] at hM
  replace h0 : M43 a = some (.inr (2, [.int dn, .long nu, .long sg, .int 0, .ref sz, .ref (sz + 1)])) := by rw [eM43, bm_up_ne (bm_ne_ao hc6 h0)]; exact h0
  replace h1 : M43 y = some (.inl (ct 5, 4, .inr (.inr (.inr (.inr pf))))) := by rw [eM43, bm_up_ne (bm_ne_aa hc6 h1 (by decide))]; exact h1
  replace k0 : M43 (cd 0) = some (.inr (1, [.long (vA 0), .long (vC 0), .long (vE 0), .long (vB 0), .long (vX 0), .long (vY 0), .long (vP 0)])) := by rw [eM43, bm_up_ne (bm_ne_ao hc6 k0)]; exact k0
  replace k1 : M43 (cd 1) = some (.inr (1, [.long (vA 1), .long (vC 1), .long (vE 1), .long (vB 1), .long (vX 1), .long (vY 1), .long (vP 1)])) := by rw [eM43, bm_up_ne (bm_ne_ao hc6 k1)]; exact k1
  replace k2 : M43 (cd 2) = some (.inr (1, [.long (vA 2), .long (vC 2), .long (vE 2), .long (vB 2), .long (vX 2), .long (vY 2), .long (vP 2)])) := by rw [eM43, bm_up_ne (bm_ne_ao hc6 k2)]; exact k2
  replace k3 : M43 (cd 3) = some (.inr (1, [.long (vA 3), .long (vC 3), .long (vE 3), .long (vB 3), .long (vX 3), .long (vY 3), .long (vP 3)])) := by rw [eM43, bm_up_ne (bm_ne_ao hc6 k3)]; exact k3
  replace hc3 : M43 sz = some (.inl (ct 1, 12, .inr (.inl (vp_updL (vp_updL (vp_updL (vp_updL (vp_updL (vp_updL (vp_updL (vp_updL (vp_updL (fun _ => 0) 0 (vA 0)) 1 (vC 0)) 2 (vY 0)) 3 (vA 1)) 4 (vC 1)) 5 (vY 1)) 6 (vA 2)) 7 (vC 2)) 8 (vY 2))))) := by rw [eM43, bm_up_ne (by omega)]; exact hc3
  replace hc6 : M43 (sz + 1) = some (.inl (ct 1, 12, .inr (.inl (vp_updL (vp_updL (vp_updL (vp_updL (vp_updL (vp_updL (vp_updL (vp_updL (vp_updL (fun _ => 0) 0 (vB 0)) 1 (vE 0)) 2 (vX 0)) 3 (vB 1)) 4 (vE 1)) 5 (vX 1)) 6 (vB 2)) 7 (vE 2)) 8 (vX 2))))) := by rw [eM43]; exact bm_up_self _ _ _
  replace hF : ∀ b, b ≠ a → b < sz → M43 b = M b := fun b q1 q2 => by rw [eM43]; exact (bm_up_ne (by omega)).trans (hF b q1 q2)
  clear eM43
  refine lv_iinc (v := 3) (k := 2) hx hb dO_init_143 hl rfl (by decide) (by decide) rfl (fun ls hl => ?_)
  have hl : lv_has ls 10 [(7, .int 3), (9, .int 6), (8, .ref (cd 2)), (0, .ref a), (1, .int dn), (2, .long nu), (4, .long sg), (6, .ref y)] := hl
  refine lv_goto (tgt := 44) hx hb dO_init_146 rfl ?_
  refine lv_iload hx hb dO_init_44 (lv_at hl 0 rfl) ?_
  refine lv_iconst (v := 4) hx hb dO_init_46 (by decide) ?_
  refine lv_icmp_ge (tgt := 149) hx hb dO_init_47 rfl (fun h => absurd h (by decide)) (fun _ => ?_)
  refine lv_aload hx hb dO_init_50 (lv_at hl 7 rfl) ?_
  refine lv_iload hx hb dO_init_52 (lv_at hl 0 rfl) ?_
  refine bm_aald (v := .ref (cd 3)) hx hb hK hM 5 h1 rfl 3 (bm_ix_nI (k := 3) (by decide)) (by decide) (by rw [hpf 3 (by decide)]; rfl) dO_init_54 ?_
  refine lv_astore hx hb dO_init_55 hl (by decide) rfl (fun ls hl => ?_)
  have hl : lv_has ls 10 [(8, .ref (cd 3)), (7, .int 3), (9, .int 6), (0, .ref a), (1, .int dn), (2, .long nu), (4, .long sg), (6, .ref y)] := hl
  refine lv_iload hx hb dO_init_57 (lv_at hl 1 rfl) ?_
  refine lv_iconst (v := 3) hx hb dO_init_59 (by decide) ?_
  refine lv_imul hx hb dO_init_60 ?_
  refine lv_topi (fun t44 e_t44 => ?_)
  have e_t44 : t44 = 9 := by rw [e_t44]; decide
  subst e_t44
  refine lv_istore hx hb dO_init_61 hl (by decide) rfl (fun ls hl => ?_)
  have hl : lv_has ls 10 [(9, .int 9), (8, .ref (cd 3)), (7, .int 3), (0, .ref a), (1, .int dn), (2, .long nu), (4, .long sg), (6, .ref y)] := hl
  refine lv_aload_n hx hb dO_init_63 rfl (lv_at hl 3 rfl) ?_
  refine bm_get (ci := 2) (v := .ref sz) (C := "BlindMint$Coin") (T := bt_O) (N := 6) hx hb hts bu_O hown hK hM h0 rfl 4 (by decide) (hts _ bw_423) (fun _ h9 => h9) rfl dO_init_64 ?_
  refine lv_iload hx hb dO_init_67 (lv_at hl 0 rfl) ?_
  refine lv_aload hx hb dO_init_69 (lv_at hl 1 rfl) ?_
  refine bm_get (ci := 1) (v := .long (vA 3)) (C := "BlindMint$Candidate") (T := bt_C) (N := 7) hx hb hts bu_C hown hK hM k3 rfl 0 (by decide) (hts _ bw_42) (fun _ h9 => h9) rfl dO_init_71 ?_
  refine bm_last hx hb hK hM hS 1 hc3 rfl 9 (bm_ix_nI (k := 9) (by decide)) (by decide) dO_init_74 (fun H locs hz1 hM hS => ?_)
  replace hz := hz1.trans hz
  replace hM : bm_M D base (bm_up M43 sz (.inl (ct 1, 12, .inr (.inl (vp_updL (vp_updL (vp_updL (vp_updL (vp_updL (vp_updL (vp_updL (vp_updL (vp_updL (vp_updL (fun _ => 0) 0 (vA 0)) 1 (vC 0)) 2 (vY 0)) 3 (vA 1)) 4 (vC 1)) 5 (vY 1)) 6 (vA 2)) 7 (vC 2)) 8 (vY 2)) 9 (vA 3)))))) H := hM
  obtain ⟨M45, eM45⟩ : ∃ X, X = bm_up M43 sz (.inl (ct 1, 12, .inr (.inl (vp_updL (vp_updL (vp_updL (vp_updL (vp_updL (vp_updL (vp_updL (vp_updL (vp_updL (vp_updL (fun _ => 0) 0 (vA 0)) 1 (vC 0)) 2 (vY 0)) 3 (vA 1)) 4 (vC 1)) 5 (vY 1)) 6 (vA 2)) 7 (vC 2)) 8 (vY 2)) 9 (vA 3))))) := ⟨_, rfl⟩
  rw [← eM45] at hM
  replace h0 : M45 a = some (.inr (2, [.int dn, .long nu, .long sg, .int 0, .ref sz, .ref (sz + 1)])) := by rw [eM45, bm_up_ne (bm_ne_ao hc3 h0)]; exact h0
  replace h1 : M45 y = some (.inl (ct 5, 4, .inr (.inr (.inr (.inr pf))))) := by rw [eM45, bm_up_ne (bm_ne_aa hc3 h1 (by decide))]; exact h1
  replace k0 : M45 (cd 0) = some (.inr (1, [.long (vA 0), .long (vC 0), .long (vE 0), .long (vB 0), .long (vX 0), .long (vY 0), .long (vP 0)])) := by rw [eM45, bm_up_ne (bm_ne_ao hc3 k0)]; exact k0
  replace k1 : M45 (cd 1) = some (.inr (1, [.long (vA 1), .long (vC 1), .long (vE 1), .long (vB 1), .long (vX 1), .long (vY 1), .long (vP 1)])) := by rw [eM45, bm_up_ne (bm_ne_ao hc3 k1)]; exact k1
  replace k2 : M45 (cd 2) = some (.inr (1, [.long (vA 2), .long (vC 2), .long (vE 2), .long (vB 2), .long (vX 2), .long (vY 2), .long (vP 2)])) := by rw [eM45, bm_up_ne (bm_ne_ao hc3 k2)]; exact k2
  replace k3 : M45 (cd 3) = some (.inr (1, [.long (vA 3), .long (vC 3), .long (vE 3), .long (vB 3), .long (vX 3), .long (vY 3), .long (vP 3)])) := by rw [eM45, bm_up_ne (bm_ne_ao hc3 k3)]; exact k3
  replace hc6 : M45 (sz + 1) = some (.inl (ct 1, 12, .inr (.inl (vp_updL (vp_updL (vp_updL (vp_updL (vp_updL (vp_updL (vp_updL (vp_updL (vp_updL (fun _ => 0) 0 (vB 0)) 1 (vE 0)) 2 (vX 0)) 3 (vB 1)) 4 (vE 1)) 5 (vX 1)) 6 (vB 2)) 7 (vE 2)) 8 (vX 2))))) := by rw [eM45, bm_up_ne (by omega)]; exact hc6
  replace hc3 : M45 sz = some (.inl (ct 1, 12, .inr (.inl (vp_updL (vp_updL (vp_updL (vp_updL (vp_updL (vp_updL (vp_updL (vp_updL (vp_updL (vp_updL (fun _ => 0) 0 (vA 0)) 1 (vC 0)) 2 (vY 0)) 3 (vA 1)) 4 (vC 1)) 5 (vY 1)) 6 (vA 2)) 7 (vC 2)) 8 (vY 2)) 9 (vA 3))))) := by rw [eM45]; exact bm_up_self _ _ _
  replace hF : ∀ b, b ≠ a → b < sz → M45 b = M b := fun b q1 q2 => by rw [eM45]; exact (bm_up_ne (by omega)).trans (hF b q1 q2)
  clear eM45
  refine lv_aload_n hx hb dO_init_75 rfl (lv_at hl 3 rfl) ?_
  refine bm_get (ci := 2) (v := .ref sz) (C := "BlindMint$Coin") (T := bt_O) (N := 6) hx hb hts bu_O hown hK hM h0 rfl 4 (by decide) (hts _ bw_423) (fun _ h9 => h9) rfl dO_init_76 ?_
  refine lv_iload hx hb dO_init_79 (lv_at hl 0 rfl) ?_
  refine lv_iconst (v := 1) hx hb dO_init_81 (by decide) ?_
  refine lv_iadd hx hb dO_init_82 ?_
  refine lv_topi (fun t46 e_t46 => ?_)
  have e_t46 : t46 = 10 := by rw [e_t46]; decide
  subst e_t46
  refine lv_aload hx hb dO_init_83 (lv_at hl 1 rfl) ?_
  refine bm_get (ci := 1) (v := .long (vC 3)) (C := "BlindMint$Candidate") (T := bt_C) (N := 7) hx hb hts bu_C hown hK hM k3 rfl 1 (by decide) (hts _ bw_44) (fun _ h9 => h9) rfl dO_init_85 ?_
  refine bm_last hx hb hK hM hS 1 hc3 rfl 10 (bm_ix_nI (k := 10) (by decide)) (by decide) dO_init_88 (fun H locs hz1 hM hS => ?_)
  replace hz := hz1.trans hz
  replace hM : bm_M D base (bm_up M45 sz (.inl (ct 1, 12, .inr (.inl (vp_updL (vp_updL (vp_updL (vp_updL (vp_updL (vp_updL (vp_updL (vp_updL (vp_updL (vp_updL (vp_updL (fun _ => 0) 0 (vA 0)) 1 (vC 0)) 2 (vY 0)) 3 (vA 1)) 4 (vC 1)) 5 (vY 1)) 6 (vA 2)) 7 (vC 2)) 8 (vY 2)) 9 (vA 3)) 10 (vC 3)))))) H := hM
  obtain ⟨M47, eM47⟩ : ∃ X, X = bm_up M45 sz (.inl (ct 1, 12, .inr (.inl (vp_updL (vp_updL (vp_updL (vp_updL (vp_updL (vp_updL (vp_updL (vp_updL (vp_updL (vp_updL (vp_updL (fun _ => 0) 0 (vA 0)) 1 (vC 0)) 2 (vY 0)) 3 (vA 1)) 4 (vC 1)) 5 (vY 1)) 6 (vA 2)) 7 (vC 2)) 8 (vY 2)) 9 (vA 3)) 10 (vC 3))))) := ⟨_, rfl⟩
  rw [← eM47] at hM
  replace h0 : M47 a = some (.inr (2, [.int dn, .long nu, .long sg, .int 0, .ref sz, .ref (sz + 1)])) := by rw [eM47, bm_up_ne (bm_ne_ao hc3 h0)]; exact h0
  replace h1 : M47 y = some (.inl (ct 5, 4, .inr (.inr (.inr (.inr pf))))) := by rw [eM47, bm_up_ne (bm_ne_aa hc3 h1 (by decide))]; exact h1
  replace k0 : M47 (cd 0) = some (.inr (1, [.long (vA 0), .long (vC 0), .long (vE 0), .long (vB 0), .long (vX 0), .long (vY 0), .long (vP 0)])) := by rw [eM47, bm_up_ne (bm_ne_ao hc3 k0)]; exact k0
  replace k1 : M47 (cd 1) = some (.inr (1, [.long (vA 1), .long (vC 1), .long (vE 1), .long (vB 1), .long (vX 1), .long (vY 1), .long (vP 1)])) := by rw [eM47, bm_up_ne (bm_ne_ao hc3 k1)]; exact k1
  replace k2 : M47 (cd 2) = some (.inr (1, [.long (vA 2), .long (vC 2), .long (vE 2), .long (vB 2), .long (vX 2), .long (vY 2), .long (vP 2)])) := by rw [eM47, bm_up_ne (bm_ne_ao hc3 k2)]; exact k2
  replace k3 : M47 (cd 3) = some (.inr (1, [.long (vA 3), .long (vC 3), .long (vE 3), .long (vB 3), .long (vX 3), .long (vY 3), .long (vP 3)])) := by rw [eM47, bm_up_ne (bm_ne_ao hc3 k3)]; exact k3
  replace hc6 : M47 (sz + 1) = some (.inl (ct 1, 12, .inr (.inl (vp_updL (vp_updL (vp_updL (vp_updL (vp_updL (vp_updL (vp_updL (vp_updL (vp_updL (fun _ => 0) 0 (vB 0)) 1 (vE 0)) 2 (vX 0)) 3 (vB 1)) 4 (vE 1)) 5 (vX 1)) 6 (vB 2)) 7 (vE 2)) 8 (vX 2))))) := by rw [eM47, bm_up_ne (by omega)]; exact hc6
  replace hc3 : M47 sz = some (.inl (ct 1, 12, .inr (.inl (vp_updL (vp_updL (vp_updL (vp_updL (vp_updL (vp_updL (vp_updL (vp_updL (vp_updL (vp_updL (vp_updL (fun _ => 0) 0 (vA 0)) 1 (vC 0)) 2 (vY 0)) 3 (vA 1)) 4 (vC 1)) 5 (vY 1)) 6 (vA 2)) 7 (vC 2)) 8 (vY 2)) 9 (vA 3)) 10 (vC 3))))) := by rw [eM47]; exact bm_up_self _ _ _
  replace hF : ∀ b, b ≠ a → b < sz → M47 b = M b := fun b q1 q2 => by rw [eM47]; exact (bm_up_ne (by omega)).trans (hF b q1 q2)
  clear eM47
  refine lv_aload_n hx hb dO_init_89 rfl (lv_at hl 3 rfl) ?_
  refine bm_get (ci := 2) (v := .ref sz) (C := "BlindMint$Coin") (T := bt_O) (N := 6) hx hb hts bu_O hown hK hM h0 rfl 4 (by decide) (hts _ bw_423) (fun _ h9 => h9) rfl dO_init_90 ?_
  refine lv_iload hx hb dO_init_93 (lv_at hl 0 rfl) ?_
  refine lv_iconst (v := 2) hx hb dO_init_95 (by decide) ?_
  refine lv_iadd hx hb dO_init_96 ?_
  refine lv_topi (fun t48 e_t48 => ?_)
  have e_t48 : t48 = 11 := by rw [e_t48]; decide
  subst e_t48
  refine lv_aload hx hb dO_init_97 (lv_at hl 1 rfl) ?_
  refine bm_get (ci := 1) (v := .long (vY 3)) (C := "BlindMint$Candidate") (T := bt_C) (N := 7) hx hb hts bu_C hown hK hM k3 rfl 5 (by decide) (hts _ bw_52) (fun _ h9 => h9) rfl dO_init_99 ?_
  refine bm_last hx hb hK hM hS 1 hc3 rfl 11 (bm_ix_nI (k := 11) (by decide)) (by decide) dO_init_102 (fun H locs hz1 hM hS => ?_)
  replace hz := hz1.trans hz
  replace hM : bm_M D base (bm_up M47 sz (.inl (ct 1, 12, .inr (.inl (vp_updL (vp_updL (vp_updL (vp_updL (vp_updL (vp_updL (vp_updL (vp_updL (vp_updL (vp_updL (vp_updL (vp_updL (fun _ => 0) 0 (vA 0)) 1 (vC 0)) 2 (vY 0)) 3 (vA 1)) 4 (vC 1)) 5 (vY 1)) 6 (vA 2)) 7 (vC 2)) 8 (vY 2)) 9 (vA 3)) 10 (vC 3)) 11 (vY 3)))))) H := hM
  obtain ⟨M49, eM49⟩ : ∃ X, X = bm_up M47 sz (.inl (ct 1, 12, .inr (.inl (vp_updL (vp_updL (vp_updL (vp_updL (vp_updL (vp_updL (vp_updL (vp_updL (vp_updL (vp_updL (vp_updL (vp_updL (fun _ => 0) 0 (vA 0)) 1 (vC 0)) 2 (vY 0)) 3 (vA 1)) 4 (vC 1)) 5 (vY 1)) 6 (vA 2)) 7 (vC 2)) 8 (vY 2)) 9 (vA 3)) 10 (vC 3)) 11 (vY 3))))) := ⟨_, rfl⟩
  rw [← eM49] at hM
  replace h0 : M49 a = some (.inr (2, [.int dn, .long nu, .long sg, .int 0, .ref sz, .ref (sz + 1)])) := by rw [eM49, bm_up_ne (bm_ne_ao hc3 h0)]; exact h0
  replace h1 : M49 y = some (.inl (ct 5, 4, .inr (.inr (.inr (.inr pf))))) := by rw [eM49, bm_up_ne (bm_ne_aa hc3 h1 (by decide))]; exact h1
  replace k0 : M49 (cd 0) = some (.inr (1, [.long (vA 0), .long (vC 0), .long (vE 0), .long (vB 0), .long (vX 0), .long (vY 0), .long (vP 0)])) := by rw [eM49, bm_up_ne (bm_ne_ao hc3 k0)]; exact k0
  replace k1 : M49 (cd 1) = some (.inr (1, [.long (vA 1), .long (vC 1), .long (vE 1), .long (vB 1), .long (vX 1), .long (vY 1), .long (vP 1)])) := by rw [eM49, bm_up_ne (bm_ne_ao hc3 k1)]; exact k1
  replace k2 : M49 (cd 2) = some (.inr (1, [.long (vA 2), .long (vC 2), .long (vE 2), .long (vB 2), .long (vX 2), .long (vY 2), .long (vP 2)])) := by rw [eM49, bm_up_ne (bm_ne_ao hc3 k2)]; exact k2
  replace k3 : M49 (cd 3) = some (.inr (1, [.long (vA 3), .long (vC 3), .long (vE 3), .long (vB 3), .long (vX 3), .long (vY 3), .long (vP 3)])) := by rw [eM49, bm_up_ne (bm_ne_ao hc3 k3)]; exact k3
  replace hc6 : M49 (sz + 1) = some (.inl (ct 1, 12, .inr (.inl (vp_updL (vp_updL (vp_updL (vp_updL (vp_updL (vp_updL (vp_updL (vp_updL (vp_updL (fun _ => 0) 0 (vB 0)) 1 (vE 0)) 2 (vX 0)) 3 (vB 1)) 4 (vE 1)) 5 (vX 1)) 6 (vB 2)) 7 (vE 2)) 8 (vX 2))))) := by rw [eM49, bm_up_ne (by omega)]; exact hc6
  replace hc3 : M49 sz = some (.inl (ct 1, 12, .inr (.inl (vp_updL (vp_updL (vp_updL (vp_updL (vp_updL (vp_updL (vp_updL (vp_updL (vp_updL (vp_updL (vp_updL (vp_updL (fun _ => 0) 0 (vA 0)) 1 (vC 0)) 2 (vY 0)) 3 (vA 1)) 4 (vC 1)) 5 (vY 1)) 6 (vA 2)) 7 (vC 2)) 8 (vY 2)) 9 (vA 3)) 10 (vC 3)) 11 (vY 3))))) := by rw [eM49]; exact bm_up_self _ _ _
  replace hF : ∀ b, b ≠ a → b < sz → M49 b = M b := fun b q1 q2 => by rw [eM49]; exact (bm_up_ne (by omega)).trans (hF b q1 q2)
  clear eM49
  refine lv_aload_n hx hb dO_init_103 rfl (lv_at hl 3 rfl) ?_
  refine bm_get (ci := 2) (v := .ref (sz + 1)) (C := "BlindMint$Coin") (T := bt_O) (N := 6) hx hb hts bu_O hown hK hM h0 rfl 5 (by decide) (hts _ bw_425) (fun _ h9 => h9) rfl dO_init_104 ?_
  refine lv_iload hx hb dO_init_107 (lv_at hl 0 rfl) ?_
  refine lv_aload hx hb dO_init_109 (lv_at hl 1 rfl) ?_
  refine bm_get (ci := 1) (v := .long (vB 3)) (C := "BlindMint$Candidate") (T := bt_C) (N := 7) hx hb hts bu_C hown hK hM k3 rfl 3 (by decide) (hts _ bw_48) (fun _ h9 => h9) rfl dO_init_111 ?_
  refine bm_last hx hb hK hM hS 1 hc6 rfl 9 (bm_ix_nI (k := 9) (by decide)) (by decide) dO_init_114 (fun H locs hz1 hM hS => ?_)
  replace hz := hz1.trans hz
  replace hM : bm_M D base (bm_up M49 (sz + 1) (.inl (ct 1, 12, .inr (.inl (vp_updL (vp_updL (vp_updL (vp_updL (vp_updL (vp_updL (vp_updL (vp_updL (vp_updL (vp_updL (fun _ => 0) 0 (vB 0)) 1 (vE 0)) 2 (vX 0)) 3 (vB 1)) 4 (vE 1)) 5 (vX 1)) 6 (vB 2)) 7 (vE 2)) 8 (vX 2)) 9 (vB 3)))))) H := hM
  obtain ⟨M50, eM50⟩ : ∃ X, X = bm_up M49 (sz + 1) (.inl (ct 1, 12, .inr (.inl (vp_updL (vp_updL (vp_updL (vp_updL (vp_updL (vp_updL (vp_updL (vp_updL (vp_updL (vp_updL (fun _ => 0) 0 (vB 0)) 1 (vE 0)) 2 (vX 0)) 3 (vB 1)) 4 (vE 1)) 5 (vX 1)) 6 (vB 2)) 7 (vE 2)) 8 (vX 2)) 9 (vB 3))))) := ⟨_, rfl⟩
  rw [← eM50] at hM
  replace h0 : M50 a = some (.inr (2, [.int dn, .long nu, .long sg, .int 0, .ref sz, .ref (sz + 1)])) := by rw [eM50, bm_up_ne (bm_ne_ao hc6 h0)]; exact h0
  replace h1 : M50 y = some (.inl (ct 5, 4, .inr (.inr (.inr (.inr pf))))) := by rw [eM50, bm_up_ne (bm_ne_aa hc6 h1 (by decide))]; exact h1
  replace k0 : M50 (cd 0) = some (.inr (1, [.long (vA 0), .long (vC 0), .long (vE 0), .long (vB 0), .long (vX 0), .long (vY 0), .long (vP 0)])) := by rw [eM50, bm_up_ne (bm_ne_ao hc6 k0)]; exact k0
  replace k1 : M50 (cd 1) = some (.inr (1, [.long (vA 1), .long (vC 1), .long (vE 1), .long (vB 1), .long (vX 1), .long (vY 1), .long (vP 1)])) := by rw [eM50, bm_up_ne (bm_ne_ao hc6 k1)]; exact k1
  replace k2 : M50 (cd 2) = some (.inr (1, [.long (vA 2), .long (vC 2), .long (vE 2), .long (vB 2), .long (vX 2), .long (vY 2), .long (vP 2)])) := by rw [eM50, bm_up_ne (bm_ne_ao hc6 k2)]; exact k2
  replace k3 : M50 (cd 3) = some (.inr (1, [.long (vA 3), .long (vC 3), .long (vE 3), .long (vB 3), .long (vX 3), .long (vY 3), .long (vP 3)])) := by rw [eM50, bm_up_ne (bm_ne_ao hc6 k3)]; exact k3
  replace hc3 : M50 sz = some (.inl (ct 1, 12, .inr (.inl (vp_updL (vp_updL (vp_updL (vp_updL (vp_updL (vp_updL (vp_updL (vp_updL (vp_updL (vp_updL (vp_updL (vp_updL (fun _ => 0) 0 (vA 0)) 1 (vC 0)) 2 (vY 0)) 3 (vA 1)) 4 (vC 1)) 5 (vY 1)) 6 (vA 2)) 7 (vC 2)) 8 (vY 2)) 9 (vA 3)) 10 (vC 3)) 11 (vY 3))))) := by rw [eM50, bm_up_ne (by omega)]; exact hc3
  replace hc6 : M50 (sz + 1) = some (.inl (ct 1, 12, .inr (.inl (vp_updL (vp_updL (vp_updL (vp_updL (vp_updL (vp_updL (vp_updL (vp_updL (vp_updL (vp_updL (fun _ => 0) 0 (vB 0)) 1 (vE 0)) 2 (vX 0)) 3 (vB 1)) 4 (vE 1)) 5 (vX 1)) 6 (vB 2)) 7 (vE 2)) 8 (vX 2)) 9 (vB 3))))) := by rw [eM50]; exact bm_up_self _ _ _
  replace hF : ∀ b, b ≠ a → b < sz → M50 b = M b := fun b q1 q2 => by rw [eM50]; exact (bm_up_ne (by omega)).trans (hF b q1 q2)
  clear eM50
  refine lv_aload_n hx hb dO_init_115 rfl (lv_at hl 3 rfl) ?_
  refine bm_get (ci := 2) (v := .ref (sz + 1)) (C := "BlindMint$Coin") (T := bt_O) (N := 6) hx hb hts bu_O hown hK hM h0 rfl 5 (by decide) (hts _ bw_425) (fun _ h9 => h9) rfl dO_init_116 ?_
  refine lv_iload hx hb dO_init_119 (lv_at hl 0 rfl) ?_
  refine lv_iconst (v := 1) hx hb dO_init_121 (by decide) ?_
  refine lv_iadd hx hb dO_init_122 ?_
  refine lv_topi (fun t51 e_t51 => ?_)
  have e_t51 : t51 = 10 := by rw [e_t51]; decide
  subst e_t51
  refine lv_aload hx hb dO_init_123 (lv_at hl 1 rfl) ?_
  refine bm_get (ci := 1) (v := .long (vE 3)) (C := "BlindMint$Candidate") (T := bt_C) (N := 7) hx hb hts bu_C hown hK hM k3 rfl 2 (by decide) (hts _ bw_46) (fun _ h9 => h9) rfl dO_init_125 ?_
  refine bm_last hx hb hK hM hS 1 hc6 rfl 10 (bm_ix_nI (k := 10) (by decide)) (by decide) dO_init_128 (fun H locs hz1 hM hS => ?_)
  replace hz := hz1.trans hz
  replace hM : bm_M D base (bm_up M50 (sz + 1) (.inl (ct 1, 12, .inr (.inl (vp_updL (vp_updL (vp_updL (vp_updL (vp_updL (vp_updL (vp_updL (vp_updL (vp_updL (vp_updL (vp_updL (fun _ => 0) 0 (vB 0)) 1 (vE 0)) 2 (vX 0)) 3 (vB 1)) 4 (vE 1)) 5 (vX 1)) 6 (vB 2)) 7 (vE 2)) 8 (vX 2)) 9 (vB 3)) 10 (vE 3)))))) H := hM
  obtain ⟨M52, eM52⟩ : ∃ X, X = bm_up M50 (sz + 1) (.inl (ct 1, 12, .inr (.inl (vp_updL (vp_updL (vp_updL (vp_updL (vp_updL (vp_updL (vp_updL (vp_updL (vp_updL (vp_updL (vp_updL (fun _ => 0) 0 (vB 0)) 1 (vE 0)) 2 (vX 0)) 3 (vB 1)) 4 (vE 1)) 5 (vX 1)) 6 (vB 2)) 7 (vE 2)) 8 (vX 2)) 9 (vB 3)) 10 (vE 3))))) := ⟨_, rfl⟩
  rw [← eM52] at hM
  replace h0 : M52 a = some (.inr (2, [.int dn, .long nu, .long sg, .int 0, .ref sz, .ref (sz + 1)])) := by rw [eM52, bm_up_ne (bm_ne_ao hc6 h0)]; exact h0
  replace h1 : M52 y = some (.inl (ct 5, 4, .inr (.inr (.inr (.inr pf))))) := by rw [eM52, bm_up_ne (bm_ne_aa hc6 h1 (by decide))]; exact h1
  replace k0 : M52 (cd 0) = some (.inr (1, [.long (vA 0), .long (vC 0), .long (vE 0), .long (vB 0), .long (vX 0), .long (vY 0), .long (vP 0)])) := by rw [eM52, bm_up_ne (bm_ne_ao hc6 k0)]; exact k0
  replace k1 : M52 (cd 1) = some (.inr (1, [.long (vA 1), .long (vC 1), .long (vE 1), .long (vB 1), .long (vX 1), .long (vY 1), .long (vP 1)])) := by rw [eM52, bm_up_ne (bm_ne_ao hc6 k1)]; exact k1
  replace k2 : M52 (cd 2) = some (.inr (1, [.long (vA 2), .long (vC 2), .long (vE 2), .long (vB 2), .long (vX 2), .long (vY 2), .long (vP 2)])) := by rw [eM52, bm_up_ne (bm_ne_ao hc6 k2)]; exact k2
  replace k3 : M52 (cd 3) = some (.inr (1, [.long (vA 3), .long (vC 3), .long (vE 3), .long (vB 3), .long (vX 3), .long (vY 3), .long (vP 3)])) := by rw [eM52, bm_up_ne (bm_ne_ao hc6 k3)]; exact k3
  replace hc3 : M52 sz = some (.inl (ct 1, 12, .inr (.inl (vp_updL (vp_updL (vp_updL (vp_updL (vp_updL (vp_updL (vp_updL (vp_updL (vp_updL (vp_updL (vp_updL (vp_updL (fun _ => 0) 0 (vA 0)) 1 (vC 0)) 2 (vY 0)) 3 (vA 1)) 4 (vC 1)) 5 (vY 1)) 6 (vA 2)) 7 (vC 2)) 8 (vY 2)) 9 (vA 3)) 10 (vC 3)) 11 (vY 3))))) := by rw [eM52, bm_up_ne (by omega)]; exact hc3
  replace hc6 : M52 (sz + 1) = some (.inl (ct 1, 12, .inr (.inl (vp_updL (vp_updL (vp_updL (vp_updL (vp_updL (vp_updL (vp_updL (vp_updL (vp_updL (vp_updL (vp_updL (fun _ => 0) 0 (vB 0)) 1 (vE 0)) 2 (vX 0)) 3 (vB 1)) 4 (vE 1)) 5 (vX 1)) 6 (vB 2)) 7 (vE 2)) 8 (vX 2)) 9 (vB 3)) 10 (vE 3))))) := by rw [eM52]; exact bm_up_self _ _ _
  replace hF : ∀ b, b ≠ a → b < sz → M52 b = M b := fun b q1 q2 => by rw [eM52]; exact (bm_up_ne (by omega)).trans (hF b q1 q2)
  clear eM52
  refine lv_aload_n hx hb dO_init_129 rfl (lv_at hl 3 rfl) ?_
  refine bm_get (ci := 2) (v := .ref (sz + 1)) (C := "BlindMint$Coin") (T := bt_O) (N := 6) hx hb hts bu_O hown hK hM h0 rfl 5 (by decide) (hts _ bw_425) (fun _ h9 => h9) rfl dO_init_130 ?_
  refine lv_iload hx hb dO_init_133 (lv_at hl 0 rfl) ?_
  refine lv_iconst (v := 2) hx hb dO_init_135 (by decide) ?_
  refine lv_iadd hx hb dO_init_136 ?_
  refine lv_topi (fun t53 e_t53 => ?_)
  have e_t53 : t53 = 11 := by rw [e_t53]; decide
  subst e_t53
  refine lv_aload hx hb dO_init_137 (lv_at hl 1 rfl) ?_
  refine bm_get (ci := 1) (v := .long (vX 3)) (C := "BlindMint$Candidate") (T := bt_C) (N := 7) hx hb hts bu_C hown hK hM k3 rfl 4 (by decide) (hts _ bw_50) (fun _ h9 => h9) rfl dO_init_139 ?_
  refine bm_last hx hb hK hM hS 1 hc6 rfl 11 (bm_ix_nI (k := 11) (by decide)) (by decide) dO_init_142 (fun H locs hz1 hM hS => ?_)
  replace hz := hz1.trans hz
  replace hM : bm_M D base (bm_up M52 (sz + 1) (.inl (ct 1, 12, .inr (.inl (vp_updL (vp_updL (vp_updL (vp_updL (vp_updL (vp_updL (vp_updL (vp_updL (vp_updL (vp_updL (vp_updL (vp_updL (fun _ => 0) 0 (vB 0)) 1 (vE 0)) 2 (vX 0)) 3 (vB 1)) 4 (vE 1)) 5 (vX 1)) 6 (vB 2)) 7 (vE 2)) 8 (vX 2)) 9 (vB 3)) 10 (vE 3)) 11 (vX 3)))))) H := hM
  obtain ⟨M54, eM54⟩ : ∃ X, X = bm_up M52 (sz + 1) (.inl (ct 1, 12, .inr (.inl (vp_updL (vp_updL (vp_updL (vp_updL (vp_updL (vp_updL (vp_updL (vp_updL (vp_updL (vp_updL (vp_updL (vp_updL (fun _ => 0) 0 (vB 0)) 1 (vE 0)) 2 (vX 0)) 3 (vB 1)) 4 (vE 1)) 5 (vX 1)) 6 (vB 2)) 7 (vE 2)) 8 (vX 2)) 9 (vB 3)) 10 (vE 3)) 11 (vX 3))))) := ⟨_, rfl⟩
  rw [← eM54] at hM
  replace h0 : M54 a = some (.inr (2, [.int dn, .long nu, .long sg, .int 0, .ref sz, .ref (sz + 1)])) := by rw [eM54, bm_up_ne (bm_ne_ao hc6 h0)]; exact h0
  replace h1 : M54 y = some (.inl (ct 5, 4, .inr (.inr (.inr (.inr pf))))) := by rw [eM54, bm_up_ne (bm_ne_aa hc6 h1 (by decide))]; exact h1
  replace k0 : M54 (cd 0) = some (.inr (1, [.long (vA 0), .long (vC 0), .long (vE 0), .long (vB 0), .long (vX 0), .long (vY 0), .long (vP 0)])) := by rw [eM54, bm_up_ne (bm_ne_ao hc6 k0)]; exact k0
  replace k1 : M54 (cd 1) = some (.inr (1, [.long (vA 1), .long (vC 1), .long (vE 1), .long (vB 1), .long (vX 1), .long (vY 1), .long (vP 1)])) := by rw [eM54, bm_up_ne (bm_ne_ao hc6 k1)]; exact k1
  replace k2 : M54 (cd 2) = some (.inr (1, [.long (vA 2), .long (vC 2), .long (vE 2), .long (vB 2), .long (vX 2), .long (vY 2), .long (vP 2)])) := by rw [eM54, bm_up_ne (bm_ne_ao hc6 k2)]; exact k2
  replace k3 : M54 (cd 3) = some (.inr (1, [.long (vA 3), .long (vC 3), .long (vE 3), .long (vB 3), .long (vX 3), .long (vY 3), .long (vP 3)])) := by rw [eM54, bm_up_ne (bm_ne_ao hc6 k3)]; exact k3
  replace hc3 : M54 sz = some (.inl (ct 1, 12, .inr (.inl (vp_updL (vp_updL (vp_updL (vp_updL (vp_updL (vp_updL (vp_updL (vp_updL (vp_updL (vp_updL (vp_updL (vp_updL (fun _ => 0) 0 (vA 0)) 1 (vC 0)) 2 (vY 0)) 3 (vA 1)) 4 (vC 1)) 5 (vY 1)) 6 (vA 2)) 7 (vC 2)) 8 (vY 2)) 9 (vA 3)) 10 (vC 3)) 11 (vY 3))))) := by rw [eM54, bm_up_ne (by omega)]; exact hc3
  replace hc6 : M54 (sz + 1) = some (.inl (ct 1, 12, .inr (.inl (vp_updL (vp_updL (vp_updL (vp_updL (vp_updL (vp_updL (vp_updL (vp_updL (vp_updL (vp_updL (vp_updL (vp_updL (fun _ => 0) 0 (vB 0)) 1 (vE 0)) 2 (vX 0)) 3 (vB 1)) 4 (vE 1)) 5 (vX 1)) 6 (vB 2)) 7 (vE 2)) 8 (vX 2)) 9 (vB 3)) 10 (vE 3)) 11 (vX 3))))) := by rw [eM54]; exact bm_up_self _ _ _
  replace hF : ∀ b, b ≠ a → b < sz → M54 b = M b := fun b q1 q2 => by rw [eM54]; exact (bm_up_ne (by omega)).trans (hF b q1 q2)
  clear eM54
  refine lv_iinc (v := 4) (k := 2) hx hb dO_init_143 hl rfl (by decide) (by decide) rfl (fun ls hl => ?_)
  have hl : lv_has ls 10 [(7, .int 4), (9, .int 9), (8, .ref (cd 3)), (0, .ref a), (1, .int dn), (2, .long nu), (4, .long sg), (6, .ref y)] := hl
  refine lv_goto (tgt := 44) hx hb dO_init_146 rfl ?_
  refine lv_iload hx hb dO_init_44 (lv_at hl 0 rfl) ?_
  refine lv_iconst (v := 4) hx hb dO_init_46 (by decide) ?_
  refine lv_icmp_ge (tgt := 149) hx hb dO_init_47 rfl (fun _ => ?_) (fun h => absurd h (by decide))
  exact bm_vret hQ hx hb hr hlk hM hS ⟨rfl, hz, h0, ⟨_, hc3, bm_u12⟩, ⟨_, hc6, bm_u12⟩, hF⟩ (Nat.le_of_ble_eq_true rfl) (Nat.le_of_ble_eq_true rfl) dO_init_149
set_option maxHeartbeats 4000000 in
set_option maxRecDepth 100000 in
theorem bc_R_init_n (l : Launch) (D : va_G) (ct : Nat → ClassId) (base : Nat) (ad : Nat → Nat) (M : bm_Map) (sz : Nat) (a e b y : Nat) (f h : Nat → Int64) (h0 : M a = some (.inr (3, [.long 0, .null, .long 0, .null, .null]))) (h1 : M e = some (.inr (4, [.ref b]))) (h2 : M b = some (.inl (ct 1, 16, .inr (.inl f)))) (h3 : M y = some (.inl (ct 1, 4, .inr (.inl h)))) : Met l yR_init (bm_ws yR_init cR_init 5 none) { frames := 2, cells := 1, slots := 4, locals := 47 } (bm_Pre D ct base ad M sz [.ref a, .ref e, .ref y, .null]) (bm_Post D base (fun v M1 n => v = none ∧ n = sz + 1 ∧ M1 a = some (.inr (3, [.long (f 0), .ref y, .long (bm_h3 (f 2) (f 3) (f 1)), .ref sz, .null])) ∧ (∃ hv, M1 sz = some (.inl (ct 1, 4, .inr (.inl hv))) ∧ ∀ t, t < 4 → hv t = f (4 + 3 * t)) ∧ ∀ b, b ≠ a → b < sz → M1 b = M b)) 1 4 (bm_A base) := by
  refine bm_ofB (cc := cR_init) (maxL := 5) (ret := none) (by decide +kernel) (Nat.le_of_ble_eq_true rfl) ?_
  intro vp ve s vm args below meth vc hx hb hr hlk hts hown hml hnm ls hl hz hM hG R Q hR hQ
  have hown : s.vm.findClass "BlindMint$Credit" = some vm.cls := hown
  have hK := hG.K
  have hS : va_S (bm_A base) s.heap s.heap [] := va_S.rf
  have hl : lv_has ls 5 [(0, .ref a), (1, .ref e), (2, .ref y), (3, .null)] := hl
  have lt_0 : a < sz := hz ▸ hM.lt h0
  have lt_1 : e < sz := hz ▸ hM.lt h1
  have lt_2 : b < sz := hz ▸ hM.lt h2
  have lt_3 : y < sz := hz ▸ hM.lt h3
  have hF : ∀ b, b ≠ a → b < sz → M b = M b := fun _ _ _ => rfl
  refine lv_aload_n hx hb dR_init_0 rfl (lv_at hl 0 rfl) ?_
  refine W.objInit hx hb hown (hts _ bw_555) (hts _ bw_25) (hts _ bw_26) rfl (by rw [hml]; exact hl.1) rfl dR_init_1 (by rw [← hR]; exact Nat.le_of_ble_eq_true rfl) (by rw [← hR]; exact Nat.le_of_ble_eq_true rfl) ?_
  refine W.eq (g2 := F0 vm 4 ls []) rfl ?_
  refine lv_aload_n hx hb dR_init_4 rfl (lv_at hl 0 rfl) ?_
  refine lv_iconst (v := 4) hx hb dR_init_5 (by decide) ?_
  refine bm_newaz (atype := .long) (a0 := (4, .inr (.inl (fun _ => 0)))) hz hx hb (hts _ bw_108) (ty := .long) rfl hK hM hS (Nat.le_trans hG.2.1 hS.1) 1 rfl (fun C h => by cases h) (bm_aL 4) (by decide) (by decide) (Nat.le_of_ble_eq_true rfl) (by rw [← hR]; exact Nat.le_of_ble_eq_true rfl) (by rw [← hR]; exact Nat.le_of_ble_eq_true rfl) dR_init_6 (fun H hz1 hM hS => ?_)
  replace hz : H.size = sz + 1 := hz1
  obtain ⟨M1, eM1⟩ : ∃ X, X = bm_up M sz (.inl (ct 1, 4, .inr (.inl (fun _ => 0)))) := ⟨_, rfl⟩
  replace hM : bm_M D base M1 H := by rw [eM1]; exact hM
  replace h0 : M1 a = some (.inr (3, [.long 0, .null, .long 0, .null, .null])) := by rw [eM1, bm_up_ne (by omega)]; exact h0
  replace h1 : M1 e = some (.inr (4, [.ref b])) := by rw [eM1, bm_up_ne (by omega)]; exact h1
  replace h2 : M1 b = some (.inl (ct 1, 16, .inr (.inl f))) := by rw [eM1, bm_up_ne (by omega)]; exact h2
  replace h3 : M1 y = some (.inl (ct 1, 4, .inr (.inl h))) := by rw [eM1, bm_up_ne (by omega)]; exact h3
  have hc2 : M1 sz = some (.inl (ct 1, 4, .inr (.inl (fun _ => 0)))) := by rw [eM1]; exact bm_up_self _ _ _
  replace hF : ∀ b, b ≠ a → b < sz → M1 b = M b := fun b q1 q2 => by rw [eM1]; exact (bm_up_ne (by omega)).trans (hF b q1 q2)
  clear eM1 hz1
  refine bm_putF (ci := 3) (v := .ref sz) (ty := (.array .long)) (C := "BlindMint$Credit") (T := bt_R) (N := 5) hx hb hts bu_R by_R bo_R bn_R hown hK hM hS h0 rfl 3 (by decide) (hts _ bw_560) (fun _ h9 => h9) rfl hnm rfl (by decide +kernel) rfl rfl (Nat.le_of_ble_eq_true rfl) dR_init_8 (fun H locs hz1 hM hS => ?_)
  replace hz := hz1.trans hz
  replace hM : bm_M D base (bm_up M1 a (.inr (3, [.long 0, .null, .long 0, .ref sz, .null]))) H := hM
  obtain ⟨M3, eM3⟩ : ∃ X, X = bm_up M1 a (.inr (3, [.long 0, .null, .long 0, .ref sz, .null])) := ⟨_, rfl⟩
  rw [← eM3] at hM
  replace h1 : M3 e = some (.inr (4, [.ref b])) := by rw [eM3, bm_up_ne (bm_ne_oo h0 h1 (by decide))]; exact h1
  replace h2 : M3 b = some (.inl (ct 1, 16, .inr (.inl f))) := by rw [eM3, bm_up_ne (bm_ne_oa h0 h2)]; exact h2
  replace h3 : M3 y = some (.inl (ct 1, 4, .inr (.inl h))) := by rw [eM3, bm_up_ne (bm_ne_oa h0 h3)]; exact h3
  replace hc2 : M3 sz = some (.inl (ct 1, 4, .inr (.inl (fun _ => 0)))) := by rw [eM3, bm_up_ne (bm_ne_oa h0 hc2)]; exact hc2
  replace h0 : M3 a = some (.inr (3, [.long 0, .null, .long 0, .ref sz, .null])) := by rw [eM3]; exact bm_up_self _ _ _
  replace hF : ∀ b, b ≠ a → b < sz → M3 b = M b := fun b q1 q2 => by rw [eM3]; exact (bm_up_ne q1).trans (hF b q1 q2)
  clear eM3
  refine lv_aload_n hx hb dR_init_11 rfl (lv_at hl 0 rfl) ?_
  refine lv_aload_n hx hb dR_init_12 rfl (lv_at hl 1 rfl) ?_
  refine bm_callE (va_runV (As := []) (rest := [.ref a]) ⟨hx, hb, hml, hown, hts⟩ (bc_P_denomination l D ct base ad M3 (sz + 1) e b f h1 h2) (cwV 0 hts (bm_goodV bw_556 bw_159 bw_160 bw_16 bw_161) rfl rfl rfl (by decide +kernel) (by rw [← hR]; exact ⟨Nat.le_of_ble_eq_true rfl, Nat.le_of_ble_eq_true rfl⟩)) (bm_preV hM hG hS hz h1 rfl) rfl rfl hl.1 rfl (lv_room (Nat.le_of_ble_eq_true rfl)) dR_init_13 (by rw [← hR]; exact ⟨Nat.le_of_ble_eq_true rfl, Nat.le_of_ble_eq_true rfl⟩)) hS (fun H locs hz hM hS => ?_)
  refine bm_putF (ci := 3) (v := .long (f 0)) (ty := .long) (C := "BlindMint$Credit") (T := bt_R) (N := 5) hx hb hts bu_R by_R bo_R bn_R hown hK hM hS h0 rfl 0 (by decide) (hts _ bw_557) (fun _ h9 => h9) rfl hnm rfl (by decide +kernel) rfl rfl (Nat.le_of_ble_eq_true rfl) dR_init_16 (fun H locs hz1 hM hS => ?_)
  replace hz := hz1.trans hz
  replace hM : bm_M D base (bm_up M3 a (.inr (3, [.long (f 0), .null, .long 0, .ref sz, .null]))) H := hM
  obtain ⟨M4, eM4⟩ : ∃ X, X = bm_up M3 a (.inr (3, [.long (f 0), .null, .long 0, .ref sz, .null])) := ⟨_, rfl⟩
  rw [← eM4] at hM
  replace h1 : M4 e = some (.inr (4, [.ref b])) := by rw [eM4, bm_up_ne (bm_ne_oo h0 h1 (by decide))]; exact h1
  replace h2 : M4 b = some (.inl (ct 1, 16, .inr (.inl f))) := by rw [eM4, bm_up_ne (bm_ne_oa h0 h2)]; exact h2
  replace h3 : M4 y = some (.inl (ct 1, 4, .inr (.inl h))) := by rw [eM4, bm_up_ne (bm_ne_oa h0 h3)]; exact h3
  replace hc2 : M4 sz = some (.inl (ct 1, 4, .inr (.inl (fun _ => 0)))) := by rw [eM4, bm_up_ne (bm_ne_oa h0 hc2)]; exact hc2
  replace h0 : M4 a = some (.inr (3, [.long (f 0), .null, .long 0, .ref sz, .null])) := by rw [eM4]; exact bm_up_self _ _ _
  replace hF : ∀ b, b ≠ a → b < sz → M4 b = M b := fun b q1 q2 => by rw [eM4]; exact (bm_up_ne q1).trans (hF b q1 q2)
  clear eM4
  refine lv_aload_n hx hb dR_init_19 rfl (lv_at hl 0 rfl) ?_
  refine lv_aload_n hx hb dR_init_20 rfl (lv_at hl 2 rfl) ?_
  refine bm_putF (ci := 3) (v := .ref y) (ty := (.array .long)) (C := "BlindMint$Credit") (T := bt_R) (N := 5) hx hb hts bu_R by_R bo_R bn_R hown hK hM hS h0 rfl 1 (by decide) (hts _ bw_558) (fun _ h9 => h9) rfl hnm rfl (by decide +kernel) rfl rfl (Nat.le_of_ble_eq_true rfl) dR_init_21 (fun H locs hz1 hM hS => ?_)
  replace hz := hz1.trans hz
  replace hM : bm_M D base (bm_up M4 a (.inr (3, [.long (f 0), .ref y, .long 0, .ref sz, .null]))) H := hM
  obtain ⟨M5, eM5⟩ : ∃ X, X = bm_up M4 a (.inr (3, [.long (f 0), .ref y, .long 0, .ref sz, .null])) := ⟨_, rfl⟩
  rw [← eM5] at hM
  replace h1 : M5 e = some (.inr (4, [.ref b])) := by rw [eM5, bm_up_ne (bm_ne_oo h0 h1 (by decide))]; exact h1
  replace h2 : M5 b = some (.inl (ct 1, 16, .inr (.inl f))) := by rw [eM5, bm_up_ne (bm_ne_oa h0 h2)]; exact h2
  replace h3 : M5 y = some (.inl (ct 1, 4, .inr (.inl h))) := by rw [eM5, bm_up_ne (bm_ne_oa h0 h3)]; exact h3
  replace hc2 : M5 sz = some (.inl (ct 1, 4, .inr (.inl (fun _ => 0)))) := by rw [eM5, bm_up_ne (bm_ne_oa h0 hc2)]; exact hc2
  replace h0 : M5 a = some (.inr (3, [.long (f 0), .ref y, .long 0, .ref sz, .null])) := by rw [eM5]; exact bm_up_self _ _ _
  replace hF : ∀ b, b ≠ a → b < sz → M5 b = M b := fun b q1 q2 => by rw [eM5]; exact (bm_up_ne q1).trans (hF b q1 q2)
  clear eM5
  refine lv_aload_n hx hb dR_init_24 rfl (lv_at hl 0 rfl) ?_
  refine lv_aload_n hx hb dR_init_25 rfl (lv_at hl 1 rfl) ?_
  refine bm_callE (va_runV (As := []) (rest := [.ref a]) ⟨hx, hb, hml, hown, hts⟩ (bc_P_challenge l D ct base ad M5 (sz + 1) e b f h1 h2) (cwV 0 hts (bm_goodV bw_531 bw_172 bw_173 bw_16 bw_174) rfl rfl rfl (by decide +kernel) (by rw [← hR]; exact ⟨Nat.le_of_ble_eq_true rfl, Nat.le_of_ble_eq_true rfl⟩)) (bm_preV hM hG hS hz h1 rfl) rfl rfl hl.1 rfl (lv_room (Nat.le_of_ble_eq_true rfl)) dR_init_26 (by rw [← hR]; exact ⟨Nat.le_of_ble_eq_true rfl, Nat.le_of_ble_eq_true rfl⟩)) hS (fun H locs hz hM hS => ?_)
  refine bm_putF (ci := 3) (v := .long (bm_h3 (f 2) (f 3) (f 1))) (ty := .long) (C := "BlindMint$Credit") (T := bt_R) (N := 5) hx hb hts bu_R by_R bo_R bn_R hown hK hM hS h0 rfl 2 (by decide) (hts _ bw_559) (fun _ h9 => h9) rfl hnm rfl (by decide +kernel) rfl rfl (Nat.le_of_ble_eq_true rfl) dR_init_29 (fun H locs hz1 hM hS => ?_)
  replace hz := hz1.trans hz
  replace hM : bm_M D base (bm_up M5 a (.inr (3, [.long (f 0), .ref y, .long (bm_h3 (f 2) (f 3) (f 1)), .ref sz, .null]))) H := hM
  obtain ⟨M6, eM6⟩ : ∃ X, X = bm_up M5 a (.inr (3, [.long (f 0), .ref y, .long (bm_h3 (f 2) (f 3) (f 1)), .ref sz, .null])) := ⟨_, rfl⟩
  rw [← eM6] at hM
  replace h1 : M6 e = some (.inr (4, [.ref b])) := by rw [eM6, bm_up_ne (bm_ne_oo h0 h1 (by decide))]; exact h1
  replace h2 : M6 b = some (.inl (ct 1, 16, .inr (.inl f))) := by rw [eM6, bm_up_ne (bm_ne_oa h0 h2)]; exact h2
  replace h3 : M6 y = some (.inl (ct 1, 4, .inr (.inl h))) := by rw [eM6, bm_up_ne (bm_ne_oa h0 h3)]; exact h3
  replace hc2 : M6 sz = some (.inl (ct 1, 4, .inr (.inl (fun _ => 0)))) := by rw [eM6, bm_up_ne (bm_ne_oa h0 hc2)]; exact hc2
  replace h0 : M6 a = some (.inr (3, [.long (f 0), .ref y, .long (bm_h3 (f 2) (f 3) (f 1)), .ref sz, .null])) := by rw [eM6]; exact bm_up_self _ _ _
  replace hF : ∀ b, b ≠ a → b < sz → M6 b = M b := fun b q1 q2 => by rw [eM6]; exact (bm_up_ne q1).trans (hF b q1 q2)
  clear eM6
  refine lv_iconst (v := 0) hx hb dR_init_32 (by decide) ?_
  refine lv_istore hx hb dR_init_33 hl (by decide) rfl (fun ls hl => ?_)
  have hl : lv_has ls 5 [(4, .int 0), (0, .ref a), (1, .ref e), (2, .ref y), (3, .null)] := hl
  refine lv_iload hx hb dR_init_35 (lv_at hl 0 rfl) ?_
  refine lv_iconst (v := 4) hx hb dR_init_37 (by decide) ?_
  refine lv_icmp_ge (tgt := 60) hx hb dR_init_38 rfl (fun h => absurd h (by decide)) (fun _ => ?_)
  refine lv_aload_n hx hb dR_init_41 rfl (lv_at hl 1 rfl) ?_
  refine bm_get (ci := 3) (v := .ref sz) (C := "BlindMint$Credit") (T := bt_R) (N := 5) hx hb hts bu_R hown hK hM h0 rfl 3 (by decide) (hts _ bw_560) (fun _ h9 => h9) rfl dR_init_42 ?_
  refine lv_iload hx hb dR_init_45 (lv_at hl 0 rfl) ?_
  refine lv_aload_n hx hb dR_init_47 rfl (lv_at hl 2 rfl) ?_
  refine lv_iload hx hb dR_init_48 (lv_at hl 0 rfl) ?_
  refine bm_callE (va_runV (As := [.int 0]) (rest := [.int 0, .ref sz]) ⟨hx, hb, hml, hown, hts⟩ (bc_P_half l D ct base ad M6 (sz + 1) e b f 0 h1 h2 (by decide)) (cwV 1 hts (bm_goodV bw_533 bw_534 bw_535 bw_16 bw_536) rfl rfl rfl (by decide +kernel) (by rw [← hR]; exact ⟨Nat.le_of_ble_eq_true rfl, Nat.le_of_ble_eq_true rfl⟩)) (bm_preV hM hG hS hz h1 rfl) rfl rfl hl.1 rfl (lv_room (Nat.le_of_ble_eq_true rfl)) dR_init_50 (by rw [← hR]; exact ⟨Nat.le_of_ble_eq_true rfl, Nat.le_of_ble_eq_true rfl⟩)) hS (fun H locs hz hM hS => ?_)
  refine bm_last hx hb hK hM hS 1 hc2 rfl 0 (bm_ix_nI (k := 0) (by decide)) (by decide) dR_init_53 (fun H locs hz1 hM hS => ?_)
  replace hz := hz1.trans hz
  replace hM : bm_M D base (bm_up M6 sz (.inl (ct 1, 4, .inr (.inl (vp_updL (fun _ => 0) 0 (f (4 + 3 * 0))))))) H := hM
  obtain ⟨M7, eM7⟩ : ∃ X, X = bm_up M6 sz (.inl (ct 1, 4, .inr (.inl (vp_updL (fun _ => 0) 0 (f (4 + 3 * 0)))))) := ⟨_, rfl⟩
  rw [← eM7] at hM
  replace h0 : M7 a = some (.inr (3, [.long (f 0), .ref y, .long (bm_h3 (f 2) (f 3) (f 1)), .ref sz, .null])) := by rw [eM7, bm_up_ne (bm_ne_ao hc2 h0)]; exact h0
  replace h1 : M7 e = some (.inr (4, [.ref b])) := by rw [eM7, bm_up_ne (bm_ne_ao hc2 h1)]; exact h1
  replace h2 : M7 b = some (.inl (ct 1, 16, .inr (.inl f))) := by rw [eM7, bm_up_ne (bm_ne_aa hc2 h2 (by decide))]; exact h2
  replace h3 : M7 y = some (.inl (ct 1, 4, .inr (.inl h))) := by rw [eM7, bm_up_ne (by omega)]; exact h3
  replace hc2 : M7 sz = some (.inl (ct 1, 4, .inr (.inl (vp_updL (fun _ => 0) 0 (f (4 + 3 * 0)))))) := by rw [eM7]; exact bm_up_self _ _ _
  replace hF : ∀ b, b ≠ a → b < sz → M7 b = M b := fun b q1 q2 => by rw [eM7]; exact (bm_up_ne (by omega)).trans (hF b q1 q2)
  clear eM7
  refine lv_iinc (v := 1) (k := 0) hx hb dR_init_54 hl rfl (by decide) (by decide) rfl (fun ls hl => ?_)
  have hl : lv_has ls 5 [(4, .int 1), (0, .ref a), (1, .ref e), (2, .ref y), (3, .null)] := hl
  refine lv_goto (tgt := 35) hx hb dR_init_57 rfl ?_
  refine lv_iload hx hb dR_init_35 (lv_at hl 0 rfl) ?_
  refine lv_iconst (v := 4) hx hb dR_init_37 (by decide) ?_
  refine lv_icmp_ge (tgt := 60) hx hb dR_init_38 rfl (fun h => absurd h (by decide)) (fun _ => ?_)
  refine lv_aload_n hx hb dR_init_41 rfl (lv_at hl 1 rfl) ?_
  refine bm_get (ci := 3) (v := .ref sz) (C := "BlindMint$Credit") (T := bt_R) (N := 5) hx hb hts bu_R hown hK hM h0 rfl 3 (by decide) (hts _ bw_560) (fun _ h9 => h9) rfl dR_init_42 ?_
  refine lv_iload hx hb dR_init_45 (lv_at hl 0 rfl) ?_
  refine lv_aload_n hx hb dR_init_47 rfl (lv_at hl 2 rfl) ?_
  refine lv_iload hx hb dR_init_48 (lv_at hl 0 rfl) ?_
  refine bm_callE (va_runV (As := [.int 1]) (rest := [.int 1, .ref sz]) ⟨hx, hb, hml, hown, hts⟩ (bc_P_half l D ct base ad M7 (sz + 1) e b f 1 h1 h2 (by decide)) (cwV 1 hts (bm_goodV bw_533 bw_534 bw_535 bw_16 bw_536) rfl rfl rfl (by decide +kernel) (by rw [← hR]; exact ⟨Nat.le_of_ble_eq_true rfl, Nat.le_of_ble_eq_true rfl⟩)) (bm_preV hM hG hS hz h1 rfl) rfl rfl hl.1 rfl (lv_room (Nat.le_of_ble_eq_true rfl)) dR_init_50 (by rw [← hR]; exact ⟨Nat.le_of_ble_eq_true rfl, Nat.le_of_ble_eq_true rfl⟩)) hS (fun H locs hz hM hS => ?_)
  refine bm_last hx hb hK hM hS 1 hc2 rfl 1 (bm_ix_nI (k := 1) (by decide)) (by decide) dR_init_53 (fun H locs hz1 hM hS => ?_)
  replace hz := hz1.trans hz
  replace hM : bm_M D base (bm_up M7 sz (.inl (ct 1, 4, .inr (.inl (vp_updL (vp_updL (fun _ => 0) 0 (f (4 + 3 * 0))) 1 (f (4 + 3 * 1))))))) H := hM
  obtain ⟨M8, eM8⟩ : ∃ X, X = bm_up M7 sz (.inl (ct 1, 4, .inr (.inl (vp_updL (vp_updL (fun _ => 0) 0 (f (4 + 3 * 0))) 1 (f (4 + 3 * 1)))))) := ⟨_, rfl⟩
  rw [← eM8] at hM
  replace h0 : M8 a = some (.inr (3, [.long (f 0), .ref y, .long (bm_h3 (f 2) (f 3) (f 1)), .ref sz, .null])) := by rw [eM8, bm_up_ne (bm_ne_ao hc2 h0)]; exact h0
  replace h1 : M8 e = some (.inr (4, [.ref b])) := by rw [eM8, bm_up_ne (bm_ne_ao hc2 h1)]; exact h1
  replace h2 : M8 b = some (.inl (ct 1, 16, .inr (.inl f))) := by rw [eM8, bm_up_ne (bm_ne_aa hc2 h2 (by decide))]; exact h2
  replace h3 : M8 y = some (.inl (ct 1, 4, .inr (.inl h))) := by rw [eM8, bm_up_ne (by omega)]; exact h3
  replace hc2 : M8 sz = some (.inl (ct 1, 4, .inr (.inl (vp_updL (vp_updL (fun _ => 0) 0 (f (4 + 3 * 0))) 1 (f (4 + 3 * 1)))))) := by rw [eM8]; exact bm_up_self _ _ _
  replace hF : ∀ b, b ≠ a → b < sz → M8 b = M b := fun b q1 q2 => by rw [eM8]; exact (bm_up_ne (by omega)).trans (hF b q1 q2)
  clear eM8
  refine lv_iinc (v := 2) (k := 0) hx hb dR_init_54 hl rfl (by decide) (by decide) rfl (fun ls hl => ?_)
  have hl : lv_has ls 5 [(4, .int 2), (0, .ref a), (1, .ref e), (2, .ref y), (3, .null)] := hl
  refine lv_goto (tgt := 35) hx hb dR_init_57 rfl ?_
  refine lv_iload hx hb dR_init_35 (lv_at hl 0 rfl) ?_
  refine lv_iconst (v := 4) hx hb dR_init_37 (by decide) ?_
  refine lv_icmp_ge (tgt := 60) hx hb dR_init_38 rfl (fun h => absurd h (by decide)) (fun _ => ?_)
  refine lv_aload_n hx hb dR_init_41 rfl (lv_at hl 1 rfl) ?_
  refine bm_get (ci := 3) (v := .ref sz) (C := "BlindMint$Credit") (T := bt_R) (N := 5) hx hb hts bu_R hown hK hM h0 rfl 3 (by decide) (hts _ bw_560) (fun _ h9 => h9) rfl dR_init_42 ?_
  refine lv_iload hx hb dR_init_45 (lv_at hl 0 rfl) ?_
  refine lv_aload_n hx hb dR_init_47 rfl (lv_at hl 2 rfl) ?_
  refine lv_iload hx hb dR_init_48 (lv_at hl 0 rfl) ?_
  refine bm_callE (va_runV (As := [.int 2]) (rest := [.int 2, .ref sz]) ⟨hx, hb, hml, hown, hts⟩ (bc_P_half l D ct base ad M8 (sz + 1) e b f 2 h1 h2 (by decide)) (cwV 1 hts (bm_goodV bw_533 bw_534 bw_535 bw_16 bw_536) rfl rfl rfl (by decide +kernel) (by rw [← hR]; exact ⟨Nat.le_of_ble_eq_true rfl, Nat.le_of_ble_eq_true rfl⟩)) (bm_preV hM hG hS hz h1 rfl) rfl rfl hl.1 rfl (lv_room (Nat.le_of_ble_eq_true rfl)) dR_init_50 (by rw [← hR]; exact ⟨Nat.le_of_ble_eq_true rfl, Nat.le_of_ble_eq_true rfl⟩)) hS (fun H locs hz hM hS => ?_)
  refine bm_last hx hb hK hM hS 1 hc2 rfl 2 (bm_ix_nI (k := 2) (by decide)) (by decide) dR_init_53 (fun H locs hz1 hM hS => ?_)
  replace hz := hz1.trans hz
  replace hM : bm_M D base (bm_up M8 sz (.inl (ct 1, 4, .inr (.inl (vp_updL (vp_updL (vp_updL (fun _ => 0) 0 (f (4 + 3 * 0))) 1 (f (4 + 3 * 1))) 2 (f (4 + 3 * 2))))))) H := hM
  obtain ⟨M9, eM9⟩ : ∃ X, X = bm_up M8 sz (.inl (ct 1, 4, .inr (.inl (vp_updL (vp_updL (vp_updL (fun _ => 0) 0 (f (4 + 3 * 0))) 1 (f (4 + 3 * 1))) 2 (f (4 + 3 * 2)))))) := ⟨_, rfl⟩
  rw [← eM9] at hM
  replace h0 : M9 a = some (.inr (3, [.long (f 0), .ref y, .long (bm_h3 (f 2) (f 3) (f 1)), .ref sz, .null])) := by rw [eM9, bm_up_ne (bm_ne_ao hc2 h0)]; exact h0
  replace h1 : M9 e = some (.inr (4, [.ref b])) := by rw [eM9, bm_up_ne (bm_ne_ao hc2 h1)]; exact h1
  replace h2 : M9 b = some (.inl (ct 1, 16, .inr (.inl f))) := by rw [eM9, bm_up_ne (bm_ne_aa hc2 h2 (by decide))]; exact h2
  replace h3 : M9 y = some (.inl (ct 1, 4, .inr (.inl h))) := by rw [eM9, bm_up_ne (by omega)]; exact h3
  replace hc2 : M9 sz = some (.inl (ct 1, 4, .inr (.inl (vp_updL (vp_updL (vp_updL (fun _ => 0) 0 (f (4 + 3 * 0))) 1 (f (4 + 3 * 1))) 2 (f (4 + 3 * 2)))))) := by rw [eM9]; exact bm_up_self _ _ _
  replace hF : ∀ b, b ≠ a → b < sz → M9 b = M b := fun b q1 q2 => by rw [eM9]; exact (bm_up_ne (by omega)).trans (hF b q1 q2)
  clear eM9
  refine lv_iinc (v := 3) (k := 0) hx hb dR_init_54 hl rfl (by decide) (by decide) rfl (fun ls hl => ?_)
  have hl : lv_has ls 5 [(4, .int 3), (0, .ref a), (1, .ref e), (2, .ref y), (3, .null)] := hl
  refine lv_goto (tgt := 35) hx hb dR_init_57 rfl ?_
  refine lv_iload hx hb dR_init_35 (lv_at hl 0 rfl) ?_
  refine lv_iconst (v := 4) hx hb dR_init_37 (by decide) ?_
  refine lv_icmp_ge (tgt := 60) hx hb dR_init_38 rfl (fun h => absurd h (by decide)) (fun _ => ?_)
  refine lv_aload_n hx hb dR_init_41 rfl (lv_at hl 1 rfl) ?_
  refine bm_get (ci := 3) (v := .ref sz) (C := "BlindMint$Credit") (T := bt_R) (N := 5) hx hb hts bu_R hown hK hM h0 rfl 3 (by decide) (hts _ bw_560) (fun _ h9 => h9) rfl dR_init_42 ?_
  refine lv_iload hx hb dR_init_45 (lv_at hl 0 rfl) ?_
  refine lv_aload_n hx hb dR_init_47 rfl (lv_at hl 2 rfl) ?_
  refine lv_iload hx hb dR_init_48 (lv_at hl 0 rfl) ?_
  refine bm_callE (va_runV (As := [.int 3]) (rest := [.int 3, .ref sz]) ⟨hx, hb, hml, hown, hts⟩ (bc_P_half l D ct base ad M9 (sz + 1) e b f 3 h1 h2 (by decide)) (cwV 1 hts (bm_goodV bw_533 bw_534 bw_535 bw_16 bw_536) rfl rfl rfl (by decide +kernel) (by rw [← hR]; exact ⟨Nat.le_of_ble_eq_true rfl, Nat.le_of_ble_eq_true rfl⟩)) (bm_preV hM hG hS hz h1 rfl) rfl rfl hl.1 rfl (lv_room (Nat.le_of_ble_eq_true rfl)) dR_init_50 (by rw [← hR]; exact ⟨Nat.le_of_ble_eq_true rfl, Nat.le_of_ble_eq_true rfl⟩)) hS (fun H locs hz hM hS => ?_)
  refine bm_last hx hb hK hM hS 1 hc2 rfl 3 (bm_ix_nI (k := 3) (by decide)) (by decide) dR_init_53 (fun H locs hz1 hM hS => ?_)
  replace hz := hz1.trans hz
  replace hM : bm_M D base (bm_up M9 sz (.inl (ct 1, 4, .inr (.inl (vp_updL (vp_updL (vp_updL (vp_updL (fun _ => 0) 0 (f (4 + 3 * 0))) 1 (f (4 + 3 * 1))) 2 (f (4 + 3 * 2))) 3 (f (4 + 3 * 3))))))) H := hM
  obtain ⟨M10, eM10⟩ : ∃ X, X = bm_up M9 sz (.inl (ct 1, 4, .inr (.inl (vp_updL (vp_updL (vp_updL (vp_updL (fun _ => 0) 0 (f (4 + 3 * 0))) 1 (f (4 + 3 * 1))) 2 (f (4 + 3 * 2))) 3 (f (4 + 3 * 3)))))) := ⟨_, rfl⟩
  rw [← eM10] at hM
  replace h0 : M10 a = some (.inr (3, [.long (f 0), .ref y, .long (bm_h3 (f 2) (f 3) (f 1)), .ref sz, .null])) := by rw [eM10, bm_up_ne (bm_ne_ao hc2 h0)]; exact h0
  replace h1 : M10 e = some (.inr (4, [.ref b])) := by rw [eM10, bm_up_ne (bm_ne_ao hc2 h1)]; exact h1
  replace h2 : M10 b = some (.inl (ct 1, 16, .inr (.inl f))) := by rw [eM10, bm_up_ne (bm_ne_aa hc2 h2 (by decide))]; exact h2
  replace h3 : M10 y = some (.inl (ct 1, 4, .inr (.inl h))) := by rw [eM10, bm_up_ne (by omega)]; exact h3
  replace hc2 : M10 sz = some (.inl (ct 1, 4, .inr (.inl (vp_updL (vp_updL (vp_updL (vp_updL (fun _ => 0) 0 (f (4 + 3 * 0))) 1 (f (4 + 3 * 1))) 2 (f (4 + 3 * 2))) 3 (f (4 + 3 * 3)))))) := by rw [eM10]; exact bm_up_self _ _ _
  replace hF : ∀ b, b ≠ a → b < sz → M10 b = M b := fun b q1 q2 => by rw [eM10]; exact (bm_up_ne (by omega)).trans (hF b q1 q2)
  clear eM10
  refine lv_iinc (v := 4) (k := 0) hx hb dR_init_54 hl rfl (by decide) (by decide) rfl (fun ls hl => ?_)
  have hl : lv_has ls 5 [(4, .int 4), (0, .ref a), (1, .ref e), (2, .ref y), (3, .null)] := hl
  refine lv_goto (tgt := 35) hx hb dR_init_57 rfl ?_
  refine lv_iload hx hb dR_init_35 (lv_at hl 0 rfl) ?_
  refine lv_iconst (v := 4) hx hb dR_init_37 (by decide) ?_
  refine lv_icmp_ge (tgt := 60) hx hb dR_init_38 rfl (fun _ => ?_) (fun h => absurd h (by decide))
  refine lv_aload_n hx hb dR_init_60 rfl (lv_at hl 1 rfl) ?_
  refine lv_aload_nN hx hb dR_init_61 rfl (lv_at hl 4 rfl) ?_
  refine bm_putF (ci := 3) (v := .null) (ty := (.object "BlindMint$Credit")) (C := "BlindMint$Credit") (T := bt_R) (N := 5) hx hb hts bu_R by_R bo_R bn_R hown hK hM hS h0 rfl 4 (by decide) (hts _ bw_561) (fun _ h9 => h9) rfl hnm rfl (by decide +kernel) rfl rfl (Nat.le_of_ble_eq_true rfl) dR_init_62 (fun H locs hz1 hM hS => ?_)
  replace hz := hz1.trans hz
  replace hM : bm_M D base (bm_up M10 a (.inr (3, [.long (f 0), .ref y, .long (bm_h3 (f 2) (f 3) (f 1)), .ref sz, .null]))) H := hM
  obtain ⟨M11, eM11⟩ : ∃ X, X = bm_up M10 a (.inr (3, [.long (f 0), .ref y, .long (bm_h3 (f 2) (f 3) (f 1)), .ref sz, .null])) := ⟨_, rfl⟩
  rw [← eM11] at hM
  replace h1 : M11 e = some (.inr (4, [.ref b])) := by rw [eM11, bm_up_ne (bm_ne_oo h0 h1 (by decide))]; exact h1
  replace h2 : M11 b = some (.inl (ct 1, 16, .inr (.inl f))) := by rw [eM11, bm_up_ne (bm_ne_oa h0 h2)]; exact h2
  replace h3 : M11 y = some (.inl (ct 1, 4, .inr (.inl h))) := by rw [eM11, bm_up_ne (bm_ne_oa h0 h3)]; exact h3
  replace hc2 : M11 sz = some (.inl (ct 1, 4, .inr (.inl (vp_updL (vp_updL (vp_updL (vp_updL (fun _ => 0) 0 (f (4 + 3 * 0))) 1 (f (4 + 3 * 1))) 2 (f (4 + 3 * 2))) 3 (f (4 + 3 * 3)))))) := by rw [eM11, bm_up_ne (bm_ne_oa h0 hc2)]; exact hc2
  replace h0 : M11 a = some (.inr (3, [.long (f 0), .ref y, .long (bm_h3 (f 2) (f 3) (f 1)), .ref sz, .null])) := by rw [eM11]; exact bm_up_self _ _ _
  replace hF : ∀ b, b ≠ a → b < sz → M11 b = M b := fun b q1 q2 => by rw [eM11]; exact (bm_up_ne q1).trans (hF b q1 q2)
  clear eM11
  exact bm_vret hQ hx hb hr hlk hM hS ⟨rfl, hz, h0, ⟨_, hc2, bm_u4 (v := fun t => f (4 + 3 * t))⟩, hF⟩ (Nat.le_of_ble_eq_true rfl) (Nat.le_of_ble_eq_true rfl) dR_init_65
set_option maxHeartbeats 4000000 in
set_option maxRecDepth 100000 in
theorem bc_R_init_r (l : Launch) (D : va_G) (ct : Nat → ClassId) (base : Nat) (ad : Nat → Nat) (M : bm_Map) (sz : Nat) (a e b y : Nat) (bf : Nat) (f h : Nat → Int64) (h0 : M a = some (.inr (3, [.long 0, .null, .long 0, .null, .null]))) (h1 : M e = some (.inr (4, [.ref b]))) (h2 : M b = some (.inl (ct 1, 16, .inr (.inl f)))) (h3 : M y = some (.inl (ct 1, 4, .inr (.inl h)))) : Met l yR_init (bm_ws yR_init cR_init 5 none) { frames := 2, cells := 1, slots := 4, locals := 47 } (bm_Pre D ct base ad M sz [.ref a, .ref e, .ref y, .ref bf]) (bm_Post D base (fun v M1 n => v = none ∧ n = sz + 1 ∧ M1 a = some (.inr (3, [.long (f 0), .ref y, .long (bm_h3 (f 2) (f 3) (f 1)), .ref sz, .ref bf])) ∧ (∃ hv, M1 sz = some (.inl (ct 1, 4, .inr (.inl hv))) ∧ ∀ t, t < 4 → hv t = f (4 + 3 * t)) ∧ ∀ b, b ≠ a → b < sz → M1 b = M b)) 1 4 (bm_A base) := by
  refine bm_ofB (cc := cR_init) (maxL := 5) (ret := none) (by decide +kernel) (Nat.le_of_ble_eq_true rfl) ?_
  intro vp ve s vm args below meth vc hx hb hr hlk hts hown hml hnm ls hl hz hM hG R Q hR hQ
  have hown : s.vm.findClass "BlindMint$Credit" = some vm.cls := hown
  have hK := hG.K
  have hS : va_S (bm_A base) s.heap s.heap [] := va_S.rf
  have hl : lv_has ls 5 [(0, .ref a), (1, .ref e), (2, .ref y), (3, .ref bf)] := hl
  have lt_0 : a < sz := hz ▸ hM.lt h0
  have lt_1 : e < sz := hz ▸ hM.lt h1
  have lt_2 : b < sz := hz ▸ hM.lt h2
  have lt_3 : y < sz := hz ▸ hM.lt h3
  have hF : ∀ b, b ≠ a → b < sz → M b = M b := fun _ _ _ => rfl
  refine lv_aload_n hx hb dR_init_0 rfl (lv_at hl 0 rfl) ?_
  refine W.objInit hx hb hown (hts _ bw_555) (hts _ bw_25) (hts _ bw_26) rfl (by rw [hml]; exact hl.1) rfl dR_init_1 (by rw [← hR]; exact Nat.le_of_ble_eq_true rfl) (by rw [← hR]; exact Nat.le_of_ble_eq_true rfl) ?_
  refine W.eq (g2 := F0 vm 4 ls []) rfl ?_
  refine lv_aload_n hx hb dR_init_4 rfl (lv_at hl 0 rfl) ?_
  refine lv_iconst (v := 4) hx hb dR_init_5 (by decide) ?_
  refine bm_newaz (atype := .long) (a0 := (4, .inr (.inl (fun _ => 0)))) hz hx hb (hts _ bw_108) (ty := .long) rfl hK hM hS (Nat.le_trans hG.2.1 hS.1) 1 rfl (fun C h => by cases h) (bm_aL 4) (by decide) (by decide) (Nat.le_of_ble_eq_true rfl) (by rw [← hR]; exact Nat.le_of_ble_eq_true rfl) (by rw [← hR]; exact Nat.le_of_ble_eq_true rfl) dR_init_6 (fun H hz1 hM hS => ?_)
  replace hz : H.size = sz + 1 := hz1
  obtain ⟨M1, eM1⟩ : ∃ X, X = bm_up M sz (.inl (ct 1, 4, .inr (.inl (fun _ => 0)))) := ⟨_, rfl⟩
  replace hM : bm_M D base M1 H := by rw [eM1]; exact hM
  replace h0 : M1 a = some (.inr (3, [.long 0, .null, .long 0, .null, .null])) := by rw [eM1, bm_up_ne (by omega)]; exact h0
  replace h1 : M1 e = some (.inr (4, [.ref b])) := by rw [eM1, bm_up_ne (by omega)]; exact h1
  replace h2 : M1 b = some (.inl (ct 1, 16, .inr (.inl f))) := by rw [eM1, bm_up_ne (by omega)]; exact h2
  replace h3 : M1 y = some (.inl (ct 1, 4, .inr (.inl h))) := by rw [eM1, bm_up_ne (by omega)]; exact h3
  have hc2 : M1 sz = some (.inl (ct 1, 4, .inr (.inl (fun _ => 0)))) := by rw [eM1]; exact bm_up_self _ _ _
  replace hF : ∀ b, b ≠ a → b < sz → M1 b = M b := fun b q1 q2 => by rw [eM1]; exact (bm_up_ne (by omega)).trans (hF b q1 q2)
  clear eM1 hz1
  refine bm_putF (ci := 3) (v := .ref sz) (ty := (.array .long)) (C := "BlindMint$Credit") (T := bt_R) (N := 5) hx hb hts bu_R by_R bo_R bn_R hown hK hM hS h0 rfl 3 (by decide) (hts _ bw_560) (fun _ h9 => h9) rfl hnm rfl (by decide +kernel) rfl rfl (Nat.le_of_ble_eq_true rfl) dR_init_8 (fun H locs hz1 hM hS => ?_)
  replace hz := hz1.trans hz
  replace hM : bm_M D base (bm_up M1 a (.inr (3, [.long 0, .null, .long 0, .ref sz, .null]))) H := hM
  obtain ⟨M3, eM3⟩ : ∃ X, X = bm_up M1 a (.inr (3, [.long 0, .null, .long 0, .ref sz, .null])) := ⟨_, rfl⟩
  rw [← eM3] at hM
  replace h1 : M3 e = some (.inr (4, [.ref b])) := by rw [eM3, bm_up_ne (bm_ne_oo h0 h1 (by decide))]; exact h1
  replace h2 : M3 b = some (.inl (ct 1, 16, .inr (.inl f))) := by rw [eM3, bm_up_ne (bm_ne_oa h0 h2)]; exact h2
  replace h3 : M3 y = some (.inl (ct 1, 4, .inr (.inl h))) := by rw [eM3, bm_up_ne (bm_ne_oa h0 h3)]; exact h3
  replace hc2 : M3 sz = some (.inl (ct 1, 4, .inr (.inl (fun _ => 0)))) := by rw [eM3, bm_up_ne (bm_ne_oa h0 hc2)]; exact hc2
  replace h0 : M3 a = some (.inr (3, [.long 0, .null, .long 0, .ref sz, .null])) := by rw [eM3]; exact bm_up_self _ _ _
  replace hF : ∀ b, b ≠ a → b < sz → M3 b = M b := fun b q1 q2 => by rw [eM3]; exact (bm_up_ne q1).trans (hF b q1 q2)
  clear eM3
  refine lv_aload_n hx hb dR_init_11 rfl (lv_at hl 0 rfl) ?_
  refine lv_aload_n hx hb dR_init_12 rfl (lv_at hl 1 rfl) ?_
  refine bm_callE (va_runV (As := []) (rest := [.ref a]) ⟨hx, hb, hml, hown, hts⟩ (bc_P_denomination l D ct base ad M3 (sz + 1) e b f h1 h2) (cwV 0 hts (bm_goodV bw_556 bw_159 bw_160 bw_16 bw_161) rfl rfl rfl (by decide +kernel) (by rw [← hR]; exact ⟨Nat.le_of_ble_eq_true rfl, Nat.le_of_ble_eq_true rfl⟩)) (bm_preV hM hG hS hz h1 rfl) rfl rfl hl.1 rfl (lv_room (Nat.le_of_ble_eq_true rfl)) dR_init_13 (by rw [← hR]; exact ⟨Nat.le_of_ble_eq_true rfl, Nat.le_of_ble_eq_true rfl⟩)) hS (fun H locs hz hM hS => ?_)
  refine bm_putF (ci := 3) (v := .long (f 0)) (ty := .long) (C := "BlindMint$Credit") (T := bt_R) (N := 5) hx hb hts bu_R by_R bo_R bn_R hown hK hM hS h0 rfl 0 (by decide) (hts _ bw_557) (fun _ h9 => h9) rfl hnm rfl (by decide +kernel) rfl rfl (Nat.le_of_ble_eq_true rfl) dR_init_16 (fun H locs hz1 hM hS => ?_)
  replace hz := hz1.trans hz
  replace hM : bm_M D base (bm_up M3 a (.inr (3, [.long (f 0), .null, .long 0, .ref sz, .null]))) H := hM
  obtain ⟨M4, eM4⟩ : ∃ X, X = bm_up M3 a (.inr (3, [.long (f 0), .null, .long 0, .ref sz, .null])) := ⟨_, rfl⟩
  rw [← eM4] at hM
  replace h1 : M4 e = some (.inr (4, [.ref b])) := by rw [eM4, bm_up_ne (bm_ne_oo h0 h1 (by decide))]; exact h1
  replace h2 : M4 b = some (.inl (ct 1, 16, .inr (.inl f))) := by rw [eM4, bm_up_ne (bm_ne_oa h0 h2)]; exact h2
  replace h3 : M4 y = some (.inl (ct 1, 4, .inr (.inl h))) := by rw [eM4, bm_up_ne (bm_ne_oa h0 h3)]; exact h3
  replace hc2 : M4 sz = some (.inl (ct 1, 4, .inr (.inl (fun _ => 0)))) := by rw [eM4, bm_up_ne (bm_ne_oa h0 hc2)]; exact hc2
  replace h0 : M4 a = some (.inr (3, [.long (f 0), .null, .long 0, .ref sz, .null])) := by rw [eM4]; exact bm_up_self _ _ _
  replace hF : ∀ b, b ≠ a → b < sz → M4 b = M b := fun b q1 q2 => by rw [eM4]; exact (bm_up_ne q1).trans (hF b q1 q2)
  clear eM4
  refine lv_aload_n hx hb dR_init_19 rfl (lv_at hl 0 rfl) ?_
  refine lv_aload_n hx hb dR_init_20 rfl (lv_at hl 2 rfl) ?_
  refine bm_putF (ci := 3) (v := .ref y) (ty := (.array .long)) (C := "BlindMint$Credit") (T := bt_R) (N := 5) hx hb hts bu_R by_R bo_R bn_R hown hK hM hS h0 rfl 1 (by decide) (hts _ bw_558) (fun _ h9 => h9) rfl hnm rfl (by decide +kernel) rfl rfl (Nat.le_of_ble_eq_true rfl) dR_init_21 (fun H locs hz1 hM hS => ?_)
  replace hz := hz1.trans hz
  replace hM : bm_M D base (bm_up M4 a (.inr (3, [.long (f 0), .ref y, .long 0, .ref sz, .null]))) H := hM
  obtain ⟨M5, eM5⟩ : ∃ X, X = bm_up M4 a (.inr (3, [.long (f 0), .ref y, .long 0, .ref sz, .null])) := ⟨_, rfl⟩
  rw [← eM5] at hM
  replace h1 : M5 e = some (.inr (4, [.ref b])) := by rw [eM5, bm_up_ne (bm_ne_oo h0 h1 (by decide))]; exact h1
  replace h2 : M5 b = some (.inl (ct 1, 16, .inr (.inl f))) := by rw [eM5, bm_up_ne (bm_ne_oa h0 h2)]; exact h2
  replace h3 : M5 y = some (.inl (ct 1, 4, .inr (.inl h))) := by rw [eM5, bm_up_ne (bm_ne_oa h0 h3)]; exact h3
  replace hc2 : M5 sz = some (.inl (ct 1, 4, .inr (.inl (fun _ => 0)))) := by rw [eM5, bm_up_ne (bm_ne_oa h0 hc2)]; exact hc2
  replace h0 : M5 a = some (.inr (3, [.long (f 0), .ref y, .long 0, .ref sz, .null])) := by rw [eM5]; exact bm_up_self _ _ _
  replace hF : ∀ b, b ≠ a → b < sz → M5 b = M b := fun b q1 q2 => by rw [eM5]; exact (bm_up_ne q1).trans (hF b q1 q2)
  clear eM5
  refine lv_aload_n hx hb dR_init_24 rfl (lv_at hl 0 rfl) ?_
  refine lv_aload_n hx hb dR_init_25 rfl (lv_at hl 1 rfl) ?_
  refine bm_callE (va_runV (As := []) (rest := [.ref a]) ⟨hx, hb, hml, hown, hts⟩ (bc_P_challenge l D ct base ad M5 (sz + 1) e b f h1 h2) (cwV 0 hts (bm_goodV bw_531 bw_172 bw_173 bw_16 bw_174) rfl rfl rfl (by decide +kernel) (by rw [← hR]; exact ⟨Nat.le_of_ble_eq_true rfl, Nat.le_of_ble_eq_true rfl⟩)) (bm_preV hM hG hS hz h1 rfl) rfl rfl hl.1 rfl (lv_room (Nat.le_of_ble_eq_true rfl)) dR_init_26 (by rw [← hR]; exact ⟨Nat.le_of_ble_eq_true rfl, Nat.le_of_ble_eq_true rfl⟩)) hS (fun H locs hz hM hS => ?_)
  refine bm_putF (ci := 3) (v := .long (bm_h3 (f 2) (f 3) (f 1))) (ty := .long) (C := "BlindMint$Credit") (T := bt_R) (N := 5) hx hb hts bu_R by_R bo_R bn_R hown hK hM hS h0 rfl 2 (by decide) (hts _ bw_559) (fun _ h9 => h9) rfl hnm rfl (by decide +kernel) rfl rfl (Nat.le_of_ble_eq_true rfl) dR_init_29 (fun H locs hz1 hM hS => ?_)
  replace hz := hz1.trans hz
  replace hM : bm_M D base (bm_up M5 a (.inr (3, [.long (f 0), .ref y, .long (bm_h3 (f 2) (f 3) (f 1)), .ref sz, .null]))) H := hM
  obtain ⟨M6, eM6⟩ : ∃ X, X = bm_up M5 a (.inr (3, [.long (f 0), .ref y, .long (bm_h3 (f 2) (f 3) (f 1)), .ref sz, .null])) := ⟨_, rfl⟩
  rw [← eM6] at hM
  replace h1 : M6 e = some (.inr (4, [.ref b])) := by rw [eM6, bm_up_ne (bm_ne_oo h0 h1 (by decide))]; exact h1
  replace h2 : M6 b = some (.inl (ct 1, 16, .inr (.inl f))) := by rw [eM6, bm_up_ne (bm_ne_oa h0 h2)]; exact h2
  replace h3 : M6 y = some (.inl (ct 1, 4, .inr (.inl h))) := by rw [eM6, bm_up_ne (bm_ne_oa h0 h3)]; exact h3
  replace hc2 : M6 sz = some (.inl (ct 1, 4, .inr (.inl (fun _ => 0)))) := by rw [eM6, bm_up_ne (bm_ne_oa h0 hc2)]; exact hc2
  replace h0 : M6 a = some (.inr (3, [.long (f 0), .ref y, .long (bm_h3 (f 2) (f 3) (f 1)), .ref sz, .null])) := by rw [eM6]; exact bm_up_self _ _ _
  replace hF : ∀ b, b ≠ a → b < sz → M6 b = M b := fun b q1 q2 => by rw [eM6]; exact (bm_up_ne q1).trans (hF b q1 q2)
  clear eM6
  refine lv_iconst (v := 0) hx hb dR_init_32 (by decide) ?_
  refine lv_istore hx hb dR_init_33 hl (by decide) rfl (fun ls hl => ?_)
  have hl : lv_has ls 5 [(4, .int 0), (0, .ref a), (1, .ref e), (2, .ref y), (3, .ref bf)] := hl
  refine lv_iload hx hb dR_init_35 (lv_at hl 0 rfl) ?_
  refine lv_iconst (v := 4) hx hb dR_init_37 (by decide) ?_
  refine lv_icmp_ge (tgt := 60) hx hb dR_init_38 rfl (fun h => absurd h (by decide)) (fun _ => ?_)
  refine lv_aload_n hx hb dR_init_41 rfl (lv_at hl 1 rfl) ?_
  refine bm_get (ci := 3) (v := .ref sz) (C := "BlindMint$Credit") (T := bt_R) (N := 5) hx hb hts bu_R hown hK hM h0 rfl 3 (by decide) (hts _ bw_560) (fun _ h9 => h9) rfl dR_init_42 ?_
  refine lv_iload hx hb dR_init_45 (lv_at hl 0 rfl) ?_
  refine lv_aload_n hx hb dR_init_47 rfl (lv_at hl 2 rfl) ?_
  refine lv_iload hx hb dR_init_48 (lv_at hl 0 rfl) ?_
  refine bm_callE (va_runV (As := [.int 0]) (rest := [.int 0, .ref sz]) ⟨hx, hb, hml, hown, hts⟩ (bc_P_half l D ct base ad M6 (sz + 1) e b f 0 h1 h2 (by decide)) (cwV 1 hts (bm_goodV bw_533 bw_534 bw_535 bw_16 bw_536) rfl rfl rfl (by decide +kernel) (by rw [← hR]; exact ⟨Nat.le_of_ble_eq_true rfl, Nat.le_of_ble_eq_true rfl⟩)) (bm_preV hM hG hS hz h1 rfl) rfl rfl hl.1 rfl (lv_room (Nat.le_of_ble_eq_true rfl)) dR_init_50 (by rw [← hR]; exact ⟨Nat.le_of_ble_eq_true rfl, Nat.le_of_ble_eq_true rfl⟩)) hS (fun H locs hz hM hS => ?_)
  refine bm_last hx hb hK hM hS 1 hc2 rfl 0 (bm_ix_nI (k := 0) (by decide)) (by decide) dR_init_53 (fun H locs hz1 hM hS => ?_)
  replace hz := hz1.trans hz
  replace hM : bm_M D base (bm_up M6 sz (.inl (ct 1, 4, .inr (.inl (vp_updL (fun _ => 0) 0 (f (4 + 3 * 0))))))) H := hM
  obtain ⟨M7, eM7⟩ : ∃ X, X = bm_up M6 sz (.inl (ct 1, 4, .inr (.inl (vp_updL (fun _ => 0) 0 (f (4 + 3 * 0)))))) := ⟨_, rfl⟩
  rw [← eM7] at hM
  replace h0 : M7 a = some (.inr (3, [.long (f 0), .ref y, .long (bm_h3 (f 2) (f 3) (f 1)), .ref sz, .null])) := by rw [eM7, bm_up_ne (bm_ne_ao hc2 h0)]; exact h0
  replace h1 : M7 e = some (.inr (4, [.ref b])) := by rw [eM7, bm_up_ne (bm_ne_ao hc2 h1)]; exact h1
  replace h2 : M7 b = some (.inl (ct 1, 16, .inr (.inl f))) := by rw [eM7, bm_up_ne (bm_ne_aa hc2 h2 (by decide))]; exact h2
  replace h3 : M7 y = some (.inl (ct 1, 4, .inr (.inl h))) := by rw [eM7, bm_up_ne (by omega)]; exact h3
  replace hc2 : M7 sz = some (.inl (ct 1, 4, .inr (.inl (vp_updL (fun _ => 0) 0 (f (4 + 3 * 0)))))) := by rw [eM7]; exact bm_up_self _ _ _
  replace hF : ∀ b, b ≠ a → b < sz → M7 b = M b := fun b q1 q2 => by rw [eM7]; exact (bm_up_ne (by omega)).trans (hF b q1 q2)
  clear eM7
  refine lv_iinc (v := 1) (k := 0) hx hb dR_init_54 hl rfl (by decide) (by decide) rfl (fun ls hl => ?_)
  have hl : lv_has ls 5 [(4, .int 1), (0, .ref a), (1, .ref e), (2, .ref y), (3, .ref bf)] := hl
  refine lv_goto (tgt := 35) hx hb dR_init_57 rfl ?_
  refine lv_iload hx hb dR_init_35 (lv_at hl 0 rfl) ?_
  refine lv_iconst (v := 4) hx hb dR_init_37 (by decide) ?_
  refine lv_icmp_ge (tgt := 60) hx hb dR_init_38 rfl (fun h => absurd h (by decide)) (fun _ => ?_)
  refine lv_aload_n hx hb dR_init_41 rfl (lv_at hl 1 rfl) ?_
  refine bm_get (ci := 3) (v := .ref sz) (C := "BlindMint$Credit") (T := bt_R) (N := 5) hx hb hts bu_R hown hK hM h0 rfl 3 (by decide) (hts _ bw_560) (fun _ h9 => h9) rfl dR_init_42 ?_
  refine lv_iload hx hb dR_init_45 (lv_at hl 0 rfl) ?_
  refine lv_aload_n hx hb dR_init_47 rfl (lv_at hl 2 rfl) ?_
  refine lv_iload hx hb dR_init_48 (lv_at hl 0 rfl) ?_
  refine bm_callE (va_runV (As := [.int 1]) (rest := [.int 1, .ref sz]) ⟨hx, hb, hml, hown, hts⟩ (bc_P_half l D ct base ad M7 (sz + 1) e b f 1 h1 h2 (by decide)) (cwV 1 hts (bm_goodV bw_533 bw_534 bw_535 bw_16 bw_536) rfl rfl rfl (by decide +kernel) (by rw [← hR]; exact ⟨Nat.le_of_ble_eq_true rfl, Nat.le_of_ble_eq_true rfl⟩)) (bm_preV hM hG hS hz h1 rfl) rfl rfl hl.1 rfl (lv_room (Nat.le_of_ble_eq_true rfl)) dR_init_50 (by rw [← hR]; exact ⟨Nat.le_of_ble_eq_true rfl, Nat.le_of_ble_eq_true rfl⟩)) hS (fun H locs hz hM hS => ?_)
  refine bm_last hx hb hK hM hS 1 hc2 rfl 1 (bm_ix_nI (k := 1) (by decide)) (by decide) dR_init_53 (fun H locs hz1 hM hS => ?_)
  replace hz := hz1.trans hz
  replace hM : bm_M D base (bm_up M7 sz (.inl (ct 1, 4, .inr (.inl (vp_updL (vp_updL (fun _ => 0) 0 (f (4 + 3 * 0))) 1 (f (4 + 3 * 1))))))) H := hM
  obtain ⟨M8, eM8⟩ : ∃ X, X = bm_up M7 sz (.inl (ct 1, 4, .inr (.inl (vp_updL (vp_updL (fun _ => 0) 0 (f (4 + 3 * 0))) 1 (f (4 + 3 * 1)))))) := ⟨_, rfl⟩
  rw [← eM8] at hM
  replace h0 : M8 a = some (.inr (3, [.long (f 0), .ref y, .long (bm_h3 (f 2) (f 3) (f 1)), .ref sz, .null])) := by rw [eM8, bm_up_ne (bm_ne_ao hc2 h0)]; exact h0
  replace h1 : M8 e = some (.inr (4, [.ref b])) := by rw [eM8, bm_up_ne (bm_ne_ao hc2 h1)]; exact h1
  replace h2 : M8 b = some (.inl (ct 1, 16, .inr (.inl f))) := by rw [eM8, bm_up_ne (bm_ne_aa hc2 h2 (by decide))]; exact h2
  replace h3 : M8 y = some (.inl (ct 1, 4, .inr (.inl h))) := by rw [eM8, bm_up_ne (by omega)]; exact h3
  replace hc2 : M8 sz = some (.inl (ct 1, 4, .inr (.inl (vp_updL (vp_updL (fun _ => 0) 0 (f (4 + 3 * 0))) 1 (f (4 + 3 * 1)))))) := by rw [eM8]; exact bm_up_self _ _ _
  replace hF : ∀ b, b ≠ a → b < sz → M8 b = M b := fun b q1 q2 => by rw [eM8]; exact (bm_up_ne (by omega)).trans (hF b q1 q2)
  clear eM8
  refine lv_iinc (v := 2) (k := 0) hx hb dR_init_54 hl rfl (by decide) (by decide) rfl (fun ls hl => ?_)
  have hl : lv_has ls 5 [(4, .int 2), (0, .ref a), (1, .ref e), (2, .ref y), (3, .ref bf)] := hl
  refine lv_goto (tgt := 35) hx hb dR_init_57 rfl ?_
  refine lv_iload hx hb dR_init_35 (lv_at hl 0 rfl) ?_
  refine lv_iconst (v := 4) hx hb dR_init_37 (by decide) ?_
  refine lv_icmp_ge (tgt := 60) hx hb dR_init_38 rfl (fun h => absurd h (by decide)) (fun _ => ?_)
  refine lv_aload_n hx hb dR_init_41 rfl (lv_at hl 1 rfl) ?_
  refine bm_get (ci := 3) (v := .ref sz) (C := "BlindMint$Credit") (T := bt_R) (N := 5) hx hb hts bu_R hown hK hM h0 rfl 3 (by decide) (hts _ bw_560) (fun _ h9 => h9) rfl dR_init_42 ?_
  refine lv_iload hx hb dR_init_45 (lv_at hl 0 rfl) ?_
  refine lv_aload_n hx hb dR_init_47 rfl (lv_at hl 2 rfl) ?_
  refine lv_iload hx hb dR_init_48 (lv_at hl 0 rfl) ?_
  refine bm_callE (va_runV (As := [.int 2]) (rest := [.int 2, .ref sz]) ⟨hx, hb, hml, hown, hts⟩ (bc_P_half l D ct base ad M8 (sz + 1) e b f 2 h1 h2 (by decide)) (cwV 1 hts (bm_goodV bw_533 bw_534 bw_535 bw_16 bw_536) rfl rfl rfl (by decide +kernel) (by rw [← hR]; exact ⟨Nat.le_of_ble_eq_true rfl, Nat.le_of_ble_eq_true rfl⟩)) (bm_preV hM hG hS hz h1 rfl) rfl rfl hl.1 rfl (lv_room (Nat.le_of_ble_eq_true rfl)) dR_init_50 (by rw [← hR]; exact ⟨Nat.le_of_ble_eq_true rfl, Nat.le_of_ble_eq_true rfl⟩)) hS (fun H locs hz hM hS => ?_)
  refine bm_last hx hb hK hM hS 1 hc2 rfl 2 (bm_ix_nI (k := 2) (by decide)) (by decide) dR_init_53 (fun H locs hz1 hM hS => ?_)
  replace hz := hz1.trans hz
  replace hM : bm_M D base (bm_up M8 sz (.inl (ct 1, 4, .inr (.inl (vp_updL (vp_updL (vp_updL (fun _ => 0) 0 (f (4 + 3 * 0))) 1 (f (4 + 3 * 1))) 2 (f (4 + 3 * 2))))))) H := hM
  obtain ⟨M9, eM9⟩ : ∃ X, X = bm_up M8 sz (.inl (ct 1, 4, .inr (.inl (vp_updL (vp_updL (vp_updL (fun _ => 0) 0 (f (4 + 3 * 0))) 1 (f (4 + 3 * 1))) 2 (f (4 + 3 * 2)))))) := ⟨_, rfl⟩
  rw [← eM9] at hM
  replace h0 : M9 a = some (.inr (3, [.long (f 0), .ref y, .long (bm_h3 (f 2) (f 3) (f 1)), .ref sz, .null])) := by rw [eM9, bm_up_ne (bm_ne_ao hc2 h0)]; exact h0
  replace h1 : M9 e = some (.inr (4, [.ref b])) := by rw [eM9, bm_up_ne (bm_ne_ao hc2 h1)]; exact h1
  replace h2 : M9 b = some (.inl (ct 1, 16, .inr (.inl f))) := by rw [eM9, bm_up_ne (bm_ne_aa hc2 h2 (by decide))]; exact h2
  replace h3 : M9 y = some (.inl (ct 1, 4, .inr (.inl h))) := by rw [eM9, bm_up_ne (by omega)]; exact h3
  replace hc2 : M9 sz = some (.inl (ct 1, 4, .inr (.inl (vp_updL (vp_updL (vp_updL (fun _ => 0) 0 (f (4 + 3 * 0))) 1 (f (4 + 3 * 1))) 2 (f (4 + 3 * 2)))))) := by rw [eM9]; exact bm_up_self _ _ _
  replace hF : ∀ b, b ≠ a → b < sz → M9 b = M b := fun b q1 q2 => by rw [eM9]; exact (bm_up_ne (by omega)).trans (hF b q1 q2)
  clear eM9
  refine lv_iinc (v := 3) (k := 0) hx hb dR_init_54 hl rfl (by decide) (by decide) rfl (fun ls hl => ?_)
  have hl : lv_has ls 5 [(4, .int 3), (0, .ref a), (1, .ref e), (2, .ref y), (3, .ref bf)] := hl
  refine lv_goto (tgt := 35) hx hb dR_init_57 rfl ?_
  refine lv_iload hx hb dR_init_35 (lv_at hl 0 rfl) ?_
  refine lv_iconst (v := 4) hx hb dR_init_37 (by decide) ?_
  refine lv_icmp_ge (tgt := 60) hx hb dR_init_38 rfl (fun h => absurd h (by decide)) (fun _ => ?_)
  refine lv_aload_n hx hb dR_init_41 rfl (lv_at hl 1 rfl) ?_
  refine bm_get (ci := 3) (v := .ref sz) (C := "BlindMint$Credit") (T := bt_R) (N := 5) hx hb hts bu_R hown hK hM h0 rfl 3 (by decide) (hts _ bw_560) (fun _ h9 => h9) rfl dR_init_42 ?_
  refine lv_iload hx hb dR_init_45 (lv_at hl 0 rfl) ?_
  refine lv_aload_n hx hb dR_init_47 rfl (lv_at hl 2 rfl) ?_
  refine lv_iload hx hb dR_init_48 (lv_at hl 0 rfl) ?_
  refine bm_callE (va_runV (As := [.int 3]) (rest := [.int 3, .ref sz]) ⟨hx, hb, hml, hown, hts⟩ (bc_P_half l D ct base ad M9 (sz + 1) e b f 3 h1 h2 (by decide)) (cwV 1 hts (bm_goodV bw_533 bw_534 bw_535 bw_16 bw_536) rfl rfl rfl (by decide +kernel) (by rw [← hR]; exact ⟨Nat.le_of_ble_eq_true rfl, Nat.le_of_ble_eq_true rfl⟩)) (bm_preV hM hG hS hz h1 rfl) rfl rfl hl.1 rfl (lv_room (Nat.le_of_ble_eq_true rfl)) dR_init_50 (by rw [← hR]; exact ⟨Nat.le_of_ble_eq_true rfl, Nat.le_of_ble_eq_true rfl⟩)) hS (fun H locs hz hM hS => ?_)
  refine bm_last hx hb hK hM hS 1 hc2 rfl 3 (bm_ix_nI (k := 3) (by decide)) (by decide) dR_init_53 (fun H locs hz1 hM hS => ?_)
  replace hz := hz1.trans hz
  replace hM : bm_M D base (bm_up M9 sz (.inl (ct 1, 4, .inr (.inl (vp_updL (vp_updL (vp_updL (vp_updL (fun _ => 0) 0 (f (4 + 3 * 0))) 1 (f (4 + 3 * 1))) 2 (f (4 + 3 * 2))) 3 (f (4 + 3 * 3))))))) H := hM
  obtain ⟨M10, eM10⟩ : ∃ X, X = bm_up M9 sz (.inl (ct 1, 4, .inr (.inl (vp_updL (vp_updL (vp_updL (vp_updL (fun _ => 0) 0 (f (4 + 3 * 0))) 1 (f (4 + 3 * 1))) 2 (f (4 + 3 * 2))) 3 (f (4 + 3 * 3)))))) := ⟨_, rfl⟩
  rw [← eM10] at hM
  replace h0 : M10 a = some (.inr (3, [.long (f 0), .ref y, .long (bm_h3 (f 2) (f 3) (f 1)), .ref sz, .null])) := by rw [eM10, bm_up_ne (bm_ne_ao hc2 h0)]; exact h0
  replace h1 : M10 e = some (.inr (4, [.ref b])) := by rw [eM10, bm_up_ne (bm_ne_ao hc2 h1)]; exact h1
  replace h2 : M10 b = some (.inl (ct 1, 16, .inr (.inl f))) := by rw [eM10, bm_up_ne (bm_ne_aa hc2 h2 (by decide))]; exact h2
  replace h3 : M10 y = some (.inl (ct 1, 4, .inr (.inl h))) := by rw [eM10, bm_up_ne (by omega)]; exact h3
  replace hc2 : M10 sz = some (.inl (ct 1, 4, .inr (.inl (vp_updL (vp_updL (vp_updL (vp_updL (fun _ => 0) 0 (f (4 + 3 * 0))) 1 (f (4 + 3 * 1))) 2 (f (4 + 3 * 2))) 3 (f (4 + 3 * 3)))))) := by rw [eM10]; exact bm_up_self _ _ _
  replace hF : ∀ b, b ≠ a → b < sz → M10 b = M b := fun b q1 q2 => by rw [eM10]; exact (bm_up_ne (by omega)).trans (hF b q1 q2)
  clear eM10
  refine lv_iinc (v := 4) (k := 0) hx hb dR_init_54 hl rfl (by decide) (by decide) rfl (fun ls hl => ?_)
  have hl : lv_has ls 5 [(4, .int 4), (0, .ref a), (1, .ref e), (2, .ref y), (3, .ref bf)] := hl
  refine lv_goto (tgt := 35) hx hb dR_init_57 rfl ?_
  refine lv_iload hx hb dR_init_35 (lv_at hl 0 rfl) ?_
  refine lv_iconst (v := 4) hx hb dR_init_37 (by decide) ?_
  refine lv_icmp_ge (tgt := 60) hx hb dR_init_38 rfl (fun _ => ?_) (fun h => absurd h (by decide))
  refine lv_aload_n hx hb dR_init_60 rfl (lv_at hl 1 rfl) ?_
  refine lv_aload_n hx hb dR_init_61 rfl (lv_at hl 4 rfl) ?_
  refine bm_putF (ci := 3) (v := .ref bf) (ty := (.object "BlindMint$Credit")) (C := "BlindMint$Credit") (T := bt_R) (N := 5) hx hb hts bu_R by_R bo_R bn_R hown hK hM hS h0 rfl 4 (by decide) (hts _ bw_561) (fun _ h9 => h9) rfl hnm rfl (by decide +kernel) rfl rfl (Nat.le_of_ble_eq_true rfl) dR_init_62 (fun H locs hz1 hM hS => ?_)
  replace hz := hz1.trans hz
  replace hM : bm_M D base (bm_up M10 a (.inr (3, [.long (f 0), .ref y, .long (bm_h3 (f 2) (f 3) (f 1)), .ref sz, .ref bf]))) H := hM
  obtain ⟨M11, eM11⟩ : ∃ X, X = bm_up M10 a (.inr (3, [.long (f 0), .ref y, .long (bm_h3 (f 2) (f 3) (f 1)), .ref sz, .ref bf])) := ⟨_, rfl⟩
  rw [← eM11] at hM
  replace h1 : M11 e = some (.inr (4, [.ref b])) := by rw [eM11, bm_up_ne (bm_ne_oo h0 h1 (by decide))]; exact h1
  replace h2 : M11 b = some (.inl (ct 1, 16, .inr (.inl f))) := by rw [eM11, bm_up_ne (bm_ne_oa h0 h2)]; exact h2
  replace h3 : M11 y = some (.inl (ct 1, 4, .inr (.inl h))) := by rw [eM11, bm_up_ne (bm_ne_oa h0 h3)]; exact h3
  replace hc2 : M11 sz = some (.inl (ct 1, 4, .inr (.inl (vp_updL (vp_updL (vp_updL (vp_updL (fun _ => 0) 0 (f (4 + 3 * 0))) 1 (f (4 + 3 * 1))) 2 (f (4 + 3 * 2))) 3 (f (4 + 3 * 3)))))) := by rw [eM11, bm_up_ne (bm_ne_oa h0 hc2)]; exact hc2
  replace h0 : M11 a = some (.inr (3, [.long (f 0), .ref y, .long (bm_h3 (f 2) (f 3) (f 1)), .ref sz, .ref bf])) := by rw [eM11]; exact bm_up_self _ _ _
  replace hF : ∀ b, b ≠ a → b < sz → M11 b = M b := fun b q1 q2 => by rw [eM11]; exact (bm_up_ne q1).trans (hF b q1 q2)
  clear eM11
  exact bm_vret hQ hx hb hr hlk hM hS ⟨rfl, hz, h0, ⟨_, hc2, bm_u4 (v := fun t => f (4 + 3 * t))⟩, hF⟩ (Nat.le_of_ble_eq_true rfl) (Nat.le_of_ble_eq_true rfl) dR_init_65
