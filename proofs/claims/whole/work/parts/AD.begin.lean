set_option maxHeartbeats 4000000 in
set_option maxRecDepth 100000 in
theorem bl_begin {vp : Program} {ve : Env} {s : State} {vm : MethodId} {below : List Frame} {meth : Method} {vc : Code} (l : Launch) {b L : Nat} {xs : Nat → Int32} {Q : State → Prop} {D : va_G} {ct : Nat → ClassId} {ad : Nat → Nat} (hlt : l.stackTraces = false) (hx : vp.tables.exec = Jvm.exec) (hb : vc.code = cL_law) (hml : vc.maxLocals = 8) (hown : s.vm.findClass "BlindMintLaw" = some vm.cls) (hts : ∀ w ∈ bm_big, w.before #[Value.ref b] s = true) (hX : va_X b L xs s s.heap) (hbl : b < s.heap.size) (hG : bm_G D ct s.heap.size ad s) (hL : L ≤ 3072) (hend : ∀ (H : Heap) (locs : List Loc) (ls : Array Slot) (j : Nat), j ≤ 512 → va_S (bm_A s.heap.size) s.heap H locs → W vp l ve room_1 s vm #[Value.ref b] below meth vc H locs (60 + 3 * j) (7000 + 30 * j) Q (F0 vm 941 ls [.int 1])) {ls : Array Slot} (hl : lv_has ls 8 [(0, .ref b)]) : W vp l ve room_1 s vm #[Value.ref b] below meth vc s.heap [] 0 0 Q (F0 vm 0 ls []) := by
  obtain ⟨base, hz⟩ : ∃ n, s.heap.size = n := ⟨_, rfl⟩
  rw [hz] at hG hend
  have hbA : ¬ bm_A base b := fun z => by have z1 : base ≤ b := z; omega
  have hR : room_1 = room_1 := rfl
  have hK := hG.K
  have hS : va_S (bm_A base) s.heap s.heap [] := va_S.rf
  have hM : bm_M D base (fun _ => none) s.heap := ⟨[], (fun k q hq => by cases hq), ⟨(fun i j p q hp => by cases hp), (fun k q hq => by cases hq)⟩, fun a e => ⟨(fun h => by cases h), (fun h => by cases h)⟩⟩
  refine bm_newz (ci := 6) (fs := [.null, .null, .null, .int 0, .null, .null, .int 0, .long 0, .int 0, .int 0, .int 0, .int 0]) (C := "BlindMint") (T := bt_B) (N := 12) hz hx hb hts bu_B by_B bo_B hown (hts _ bw_19) (hts _ bw_20) (hts _ bw_1) hK hM hS (Nat.le_trans hG.2.1 hS.1) rfl (fun j hj => by rcases (show j = 0 ∨ j = 1 ∨ j = 2 ∨ j = 3 ∨ j = 4 ∨ j = 5 ∨ j = 6 ∨ j = 7 ∨ j = 8 ∨ j = 9 ∨ j = 10 ∨ j = 11 by omega) with rfl | rfl | rfl | rfl | rfl | rfl | rfl | rfl | rfl | rfl | rfl | rfl <;> rfl) (by rw [← hR]; exact Nat.le_of_ble_eq_true rfl) (by rw [← hR]; exact Nat.le_of_ble_eq_true rfl) dL_law_0 (fun H hz1 hM hS => ?_)
  replace hz : H.size = base + 1 := hz1
  obtain ⟨M1, eM1⟩ : ∃ X, X = bm_up (fun _ => none) base (.inr (6, [.null, .null, .null, .int 0, .null, .null, .int 0, .long 0, .int 0, .int 0, .int 0, .int 0])) := ⟨_, rfl⟩
  replace hM : bm_M D base M1 H := by rw [eM1]; exact hM
  have hc2 : M1 base = some (.inr (6, [.null, .null, .null, .int 0, .null, .null, .int 0, .long 0, .int 0, .int 0, .int 0, .int 0])) := by rw [eM1]; exact bm_up_self _ _ _
  refine lv_dup hx hb dL_law_3 rfl ?_
  refine bm_call (va_runI (b := base) (As := []) (rest := [.ref base]) ⟨hx, hb, hml, hown, hts⟩ (bc_B_init l D ct base ad M1 (base + 1) base hc2) (cwI 0 hts (bm_goodW bw_23) rfl rfl rfl (hts _ bw_1) (hts _ bw_21) (hts _ bw_22) rfl (by decide +kernel) (by rw [← hR]; exact ⟨Nat.le_of_ble_eq_true rfl, Nat.le_of_ble_eq_true rfl⟩)) (bm_preS hM hG hS hz) rfl rfl hl.1 rfl (lv_room (Nat.le_of_ble_eq_true rfl)) dL_law_4 (by rw [← hR]; exact ⟨Nat.le_of_ble_eq_true rfl, Nat.le_of_ble_eq_true rfl⟩)) hS (fun v9 M9 H locs hq hM hS _ => ?_)
  obtain ⟨rfl, hz, cf, ac, b1, b2, b3, b4, b5, b6, b7, b8, b9, b10, b11, b12, -⟩ := hq
  have hB : bm_BD ct base 0 (-1) (-1) 0 (upd (upd (upd (upd (fun _ => 0) 0 100) 1 100) 2 100) 3 100) (fun _ => 0) (fun _ => 0) (fun _ => 0) (fun _ => 0) (fun _ => 0) (fun _ => 0) (fun _ => 0) (fun _ => 0) (fun _ => 0) M9 := bm_BD_init ⟨cf, ac, b1, b2, b3, b4, b5, b6, b7, b8, b9, b10, b11, b12⟩
  clear b1 b2 b3 b4 b5 b6 b7 b8 b9 b10 b11 b12
  refine lv_astore_n hx hb dL_law_7 rfl hl (by decide) rfl (fun ls hl => ?_)
  have hl : lv_has ls 8 [(1, .ref base), (0, .ref b)] := hl
  refine bm_newz (ci := 7) (fs := [.int 0, .null, .null, .int 0, .long 0, .null, .null, .null, .null, .null, .null, .int 0, .null, .int 0, .null, .null, .null, .null, .null, .null, .null, .null]) (C := "BlindMintModel") (T := bt_M) (N := 22) hz hx hb hts bu_M by_M bo_M hown (hts _ bw_595) (hts _ bw_596) (hts _ bw_5) hK hM hS (Nat.le_trans hG.2.1 hS.1) rfl (fun j hj => by rcases (show j = 0 ∨ j = 1 ∨ j = 2 ∨ j = 3 ∨ j = 4 ∨ j = 5 ∨ j = 6 ∨ j = 7 ∨ j = 8 ∨ j = 9 ∨ j = 10 ∨ j = 11 ∨ j = 12 ∨ j = 13 ∨ j = 14 ∨ j = 15 ∨ j = 16 ∨ j = 17 ∨ j = 18 ∨ j = 19 ∨ j = 20 ∨ j = 21 by omega) with rfl | rfl | rfl | rfl | rfl | rfl | rfl | rfl | rfl | rfl | rfl | rfl | rfl | rfl | rfl | rfl | rfl | rfl | rfl | rfl | rfl | rfl <;> rfl) (by rw [← hR]; exact Nat.le_of_ble_eq_true rfl) (by rw [← hR]; exact Nat.le_of_ble_eq_true rfl) dL_law_8 (fun H hz1 hM hS => ?_)
  replace hz : H.size = base + 22 := hz1
  obtain ⟨M3, eM3⟩ : ∃ X, X = bm_up M9 (base + 21) (.inr (7, [.int 0, .null, .null, .int 0, .long 0, .null, .null, .null, .null, .null, .null, .int 0, .null, .int 0, .null, .null, .null, .null, .null, .null, .null, .null])) := ⟨_, rfl⟩
  replace hM : bm_M D base M3 H := by rw [eM3]; exact hM
  have hc4 : M3 (base + 21) = some (.inr (7, [.int 0, .null, .null, .int 0, .long 0, .null, .null, .null, .null, .null, .null, .int 0, .null, .int 0, .null, .null, .null, .null, .null, .null, .null, .null])) := by rw [eM3]; exact bm_up_self _ _ _
  replace hB : bm_BD ct base 0 (-1) (-1) 0 (upd (upd (upd (upd (fun _ => 0) 0 100) 1 100) 2 100) 3 100) (fun _ => 0) (fun _ => 0) (fun _ => 0) (fun _ => 0) (fun _ => 0) (fun _ => 0) (fun _ => 0) (fun _ => 0) (fun _ => 0) M3 := bm_BD.kept hB (fun c hc => by rw [eM3]; exact bm_up_ne (by omega))
  refine lv_dup hx hb dL_law_11 rfl ?_
  obtain ⟨Ho, hMo, hzo⟩ : ∃ H0 : Heap, bm_M D base M3 H0 ∧ H0.size = base + 22 := ⟨_, hM, hz⟩
  refine bm_call (va_runI (b := base + 21) (As := []) (rest := [.ref (base + 21)]) ⟨hx, hb, hml, hown, hts⟩ (bc_M_init l D ct base ad M3 (base + 22) (base + 21) hc4) (cwI 0 hts (bm_goodW bw_599) rfl rfl rfl (hts _ bw_5) (hts _ bw_597) (hts _ bw_598) rfl (by decide +kernel) (by rw [← hR]; exact ⟨Nat.le_of_ble_eq_true rfl, Nat.le_of_ble_eq_true rfl⟩)) (bm_preS hM hG hS hz) rfl rfl hl.1 rfl (lv_room (Nat.le_of_ble_eq_true rfl)) dL_law_12 (by rw [← hR]; exact ⟨Nat.le_of_ble_eq_true rfl, Nat.le_of_ble_eq_true rfl⟩)) hS (fun v9 M8 H locs hq hM hS _ => ?_)
  obtain ⟨rfl, hz, hMD, hfr⟩ := hq
  replace hz : H.size = base + 39 := hz
  replace hB : bm_BD ct base 0 (-1) (-1) 0 (upd (upd (upd (upd (fun _ => 0) 0 100) 1 100) 2 100) 3 100) (fun _ => 0) (fun _ => 0) (fun _ => 0) (fun _ => 0) (fun _ => 0) (fun _ => 0) (fun _ => 0) (fun _ => 0) (fun _ => 0) M8 := bm_BD.kept hB (fun c hc => by
    rcases hc with hc | hc
    · exact hfr c (by omega)
    · rw [hM.new (by omega), hMo.new (by omega)])
  have hMS : bm_MS ct (base + 21) 0 ((-1), (-1), 0, 0, (upd (upd (upd (upd (fun _ => 0) 0 100) 1 100) 2 100) 3 100), (fun _ => 0), (fun _ => 0), (fun _ => 0), (fun _ => 0), (fun _ => 0), (fun _ => 0), (fun _ => 0), (fun _ => 0), (fun _ => 0)) M8 := ⟨_, _, _, _, _, _, _, hMD⟩
  refine lv_astore_n hx hb dL_law_15 rfl hl (by decide) rfl (fun ls hl => ?_)
  have hl : lv_has ls 8 [(2, .ref (base + 21)), (1, .ref base), (0, .ref b)] := hl
  refine lv_iconst (v := 1) hx hb dL_law_16 (by decide) ?_
  refine bm_newaz (atype := .long) (a0 := (1, .inr (.inl (fun _ => 0)))) hz hx hb (hts _ bw_108) (ty := .long) rfl hK hM hS (Nat.le_trans hG.2.1 hS.1) 1 rfl (fun C h => by cases h) (bm_aL 1) (by decide) (by decide) (Nat.le_of_ble_eq_true rfl) (by rw [← hR]; exact Nat.le_of_ble_eq_true rfl) (by rw [← hR]; exact Nat.le_of_ble_eq_true rfl) dL_law_17 (fun H hz1 hM hS => ?_)
  replace hz : H.size = base + 40 := hz1
  obtain ⟨M5, eM5⟩ : ∃ X, X = bm_up M8 (base + 39) (.inl (ct 1, 1, .inr (.inl (fun _ => 0)))) := ⟨_, rfl⟩
  replace hM : bm_M D base M5 H := by rw [eM5]; exact hM
  have hc6 : M5 (base + 39) = some (.inl (ct 1, 1, .inr (.inl (fun _ => 0)))) := by rw [eM5]; exact bm_up_self _ _ _
  replace hB : bm_BD ct base 0 (-1) (-1) 0 (upd (upd (upd (upd (fun _ => 0) 0 100) 1 100) 2 100) 3 100) (fun _ => 0) (fun _ => 0) (fun _ => 0) (fun _ => 0) (fun _ => 0) (fun _ => 0) (fun _ => 0) (fun _ => 0) (fun _ => 0) M5 := bm_BD.kept hB (fun c hc => by rw [eM5]; exact bm_up_ne (by omega))
  replace hMS : bm_MS ct (base + 21) 0 ((-1), (-1), 0, 0, (upd (upd (upd (upd (fun _ => 0) 0 100) 1 100) 2 100) 3 100), (fun _ => 0), (fun _ => 0), (fun _ => 0), (fun _ => 0), (fun _ => 0), (fun _ => 0), (fun _ => 0), (fun _ => 0), (fun _ => 0)) M5 := bm_MS.kept hMS (fun c a9 b9 => by rw [eM5]; exact bm_up_ne (by omega))
  refine lv_astore_n hx hb dL_law_19 rfl hl (by decide) rfl (fun ls hl => ?_)
  have hl : lv_has ls 8 [(3, .ref (base + 39)), (2, .ref (base + 21)), (1, .ref base), (0, .ref b)] := hl
  refine lv_iconst (v := 0) hx hb dL_law_20 (by decide) ?_
  refine lv_istore hx hb dL_law_21 hl (by decide) rfl (fun ls hl => ?_)
  have hl : lv_has ls 8 [(4, .int 0), (3, .ref (base + 39)), (2, .ref (base + 21)), (1, .ref base), (0, .ref b)] := hl
  have hl : lv_has ls 8 [(0, .ref b), (1, .ref base), (2, .ref (base + 21)), (3, .ref (base + 39)), (4, .int 0)] := lv_sub hl [4, 3, 2, 1, 0] rfl
  have hl : lv_has ls 8 [(0, .ref b), (1, .ref base), (2, .ref (base + 21)), (3, .ref (base + 39)), (4, .int (nI (6 * 0)))] := hl
  refine W.widen (k := 60 + 3 * 0) (n := 7000 + 30 * 0) (Nat.le_of_ble_eq_true rfl) (Nat.le_of_ble_eq_true rfl) ?_
  exact bl_loop l hlt hx hb hml hown hts hX hbl hbA hG base hL hend 512 0 0 ((-1), (-1), 0, 0, (upd (upd (upd (upd (fun _ => 0) 0 100) 1 100) 2 100) 3 100), (fun _ => 0), (fun _ => 0), (fun _ => 0), (fun _ => 0), (fun _ => 0), (fun _ => 0), (fun _ => 0), (fun _ => 0), (fun _ => 0)) (fun _ => 0) _ H _ ls (by omega) (by omega) (Nat.le_refl _) hl hM hS hB hMS hc6
