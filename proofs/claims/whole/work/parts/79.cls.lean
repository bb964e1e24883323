set_option maxHeartbeats 4000000 in
set_option maxRecDepth 100000 in
theorem bc_Q_sortParts (l : Launch) (D : va_G) (ct : Nat → ClassId) (base : Nat) (ad : Nat → Nat) (M : bm_Map) (sz : Nat) (q a1 a2 : Nat) (cf pt : Nat → Option Nat) (vA vC vE vB vX vY vP : Nat → Int64) (h0 : M q = some (.inr (5, [.ref (q + 1), .ref (q + 2), .int (nI a1), .int (nI a2)]))) (h1 : M (q + 1) = some (.inl (ct 5, 6, .inr (.inr (.inr (.inr cf)))))) (h2 : M (q + 2) = some (.inl (ct 5, 4, .inr (.inr (.inr (.inr pt)))))) (hcf : ∀ j, j < 6 → cf j = some (q + (3 + j))) (ha1 : a1 < 6) (ha2 : a2 < 6) (hne : a1 ≠ a2) (hcM : ∀ j, j < 6 → M (q + (3 + j)) = some (.inr (1, [.long (vA j), .long (vC j), .long (vE j), .long (vB j), .long (vX j), .long (vY j), .long (vP j)]))) : Met l yQ_sortParts (bm_ws yQ_sortParts cQ_sortParts 3 none) { frames := 1, cells := 0, slots := 0, locals := 23 } (bm_Pre D ct base ad M sz [.ref q]) (bm_Post D base (fun v M1 n => v = none ∧ n = sz ∧ ∃ (w : Nat → Option Nat) (o : Nat → Nat), M1 = bm_up M (q + 2) (.inl (ct 5, 4, .inr (.inr (.inr (.inr w))))) ∧ (∀ i, i < 4 → w i = some (q + (3 + o i))) ∧ (∀ i, i < 4 → o i < 6) ∧ (∀ i k, i < k → k < 4 → bm_lx vP (o i) (o k)) ∧ ∀ x, x < 6 → ((¬ x = a1 ∧ ¬ x = a2) ↔ ∃ i, i < 4 ∧ x = o i))) 0 0 (bm_A base) := by
  refine bm_ofB (cc := cQ_sortParts) (maxL := 3) (ret := none) (by decide +kernel) (Nat.le_of_ble_eq_true rfl) ?_
  intro vp ve s vm args below meth vc hx hb hr hlk hts hown hml hnm ls hl hz hM hG R Q hR hQ
  have hown : s.vm.findClass "BlindMint$Proposal" = some vm.cls := hown
  have hK := hG.K
  have hS : va_S (bm_A base) s.heap s.heap [] := va_S.rf
  have hl : lv_has ls 3 [(0, .ref q)] := hl
  refine lv_iconst (v := 0) hx hb dQ_sortParts_0 (by decide) ?_
  refine lv_istore_n hx hb dQ_sortParts_1 rfl hl (by decide) rfl (fun ls hl => ?_)
  have hl : lv_has ls 3 [(1, .int 0), (0, .ref q)] := hl
  refine lv_iconst (v := 0) hx hb dQ_sortParts_2 (by decide) ?_
  refine lv_istore_n hx hb dQ_sortParts_3 rfl hl (by decide) rfl (fun ls hl => ?_)
  have hl : lv_has ls 3 [(2, .int 0), (1, .int 0), (0, .ref q)] := hl
  have hl : lv_has ls 3 [(0, .ref q), (1, .int 0), (2, .int 0)] := lv_sub hl [2, 1, 0] rfl
  have loop : ∀ (n : Nat) (j : Nat) (c : Nat) (w : Nat → Option Nat) (o : Nat → Nat) (ls : Array Slot) (H : Heap) (locs : List Loc) (M1 : bm_Map), j + n = 6 → (c = j ∧ j ≤ a1 ∧ j ≤ a2 ∨ c + 1 = j ∧ (a1 < j ∧ j ≤ a2 ∨ a2 < j ∧ j ≤ a1) ∨ c + 2 = j ∧ a1 < j ∧ a2 < j) → (∀ i, i < c → o i < j) → (∀ i k, i < k → k < c → bm_lx vP (o i) (o k)) → (∀ x, x < j → ((¬ x = a1 ∧ ¬ x = a2) ↔ ∃ i, i < c ∧ x = o i)) → (∀ i, i < c → w i = some (q + (3 + o i))) → lv_has ls 3 [(0, .ref q), (1, .int (nI c)), (2, .int (nI j))] → H.size = sz → bm_M D base M1 H → va_S (bm_A base) s.heap H locs → M1 = bm_up M (q + 2) (.inl (ct 5, 4, .inr (.inr (.inr (.inr w))))) → W vp l ve R s vm args below meth vc H locs 0 0 Q (F0 vm 4 ls []) := by
    intro n
    induction n with
    | zero =>
      intro j c w o ls H locs M1 hjn hcj S1 S2 S3 W1 hl hz hM hS eX
      have h0 : M1 q = some (.inr (5, [.ref (q + 1), .ref (q + 2), .int (nI a1), .int (nI a2)])) := by rw [eX, bm_up_ne (by omega)]; exact h0
      have h1 : M1 (q + 1) = some (.inl (ct 5, 6, .inr (.inr (.inr (.inr cf))))) := by rw [eX, bm_up_ne (by omega)]; exact h1
      have h2 : M1 (q + 2) = some (.inl (ct 5, 4, .inr (.inr (.inr (.inr w))))) := by rw [eX]; exact bm_up_self _ _ _
      obtain rfl : j = 6 := by omega
      obtain rfl : c = 4 := by omega
      have hl : lv_has ls 3 [(0, .ref q), (1, .int 4), (2, .int 6)] := hl
      refine lv_iload_n hx hb dQ_sortParts_4 rfl (lv_at hl 2 rfl) ?_
      refine lv_bipush (v := 6) hx hb dQ_sortParts_5 (by decide) ?_
      refine lv_icmp_ge (tgt := 51) hx hb dQ_sortParts_7 rfl (fun _ => ?_) (fun h => absurd h (by decide))
      exact bm_vret hQ hx hb hr hlk hM hS ⟨rfl, hz, w, o, eX, W1, fun i hi => by have := S1 i hi; omega, S2, bm_s3e S3 S1 (fun x h1 h2 => by omega)⟩ (Nat.le_refl _) (Nat.le_refl _) dQ_sortParts_51
    | succ n ih =>
      intro j c w o ls H locs M1 hjn hcj S1 S2 S3 W1 hl hz hM hS eX
      have h0 : M1 q = some (.inr (5, [.ref (q + 1), .ref (q + 2), .int (nI a1), .int (nI a2)])) := by rw [eX, bm_up_ne (by omega)]; exact h0
      have h1 : M1 (q + 1) = some (.inl (ct 5, 6, .inr (.inr (.inr (.inr cf))))) := by rw [eX, bm_up_ne (by omega)]; exact h1
      have h2 : M1 (q + 2) = some (.inl (ct 5, 4, .inr (.inr (.inr (.inr w))))) := by rw [eX]; exact bm_up_self _ _ _
      have hcX  : ∀ j, j < 6 → M1 (q + (3 + j)) = some (.inr (1, [.long (vA j), .long (vC j), .long (vE j), .long (vB j), .long (vX j), .long (vY j), .long (vP j)])) := fun j hj => by rw [eX, bm_up_ne (by omega)]; exact hcM j hj
      refine lv_iload_n hx hb dQ_sortParts_4 rfl (lv_at hl 2 rfl) ?_
      refine lv_bipush (v := 6) hx hb dQ_sortParts_5 (by decide) ?_
      refine lv_icmp_ge (tgt := 51) hx hb dQ_sortParts_7 rfl (fun h7 => absurd h7 (nI_ge (b := 6) (by omega) (by decide))) (fun h7 => ?_)
      refine lv_iload_n hx hb dQ_sortParts_10 rfl (lv_at hl 1 rfl) ?_
      refine lv_iconst (v := 4) hx hb dQ_sortParts_11 (by decide) ?_
      refine lv_icmp_ge (tgt := 51) hx hb dQ_sortParts_12 rfl (fun h12 => ?_) (fun h12 => ?_)
      · have hc4 : 4 ≤ c := Nat.not_lt.mp (fun z => absurd h12 (nI_ge (b := 4) z (by decide)))
        obtain rfl : c = 4 := by omega
        exact bm_vret hQ hx hb hr hlk hM hS ⟨rfl, hz, w, o, eX, W1, fun i hi => by have := S1 i hi; omega, S2, bm_s3e S3 S1 (fun x h1 h2 => by omega)⟩ (Nat.le_refl _) (Nat.le_refl _) dQ_sortParts_51
      · have hc4 : c < 4 := Nat.not_le.mp (fun z => h12 (bm_le4 z (by omega)))
        refine lv_iload_n hx hb dQ_sortParts_15 rfl (lv_at hl 2 rfl) ?_
        refine lv_aload_n hx hb dQ_sortParts_16 rfl (lv_at hl 0 rfl) ?_
        refine bm_get (ci := 5) (v := .int (nI a1)) (C := "BlindMint$Proposal") (T := bt_Q) (N := 4) hx hb hts bu_Q hown hK hM h0 rfl 2 (by decide) (hts _ bw_74) (fun _ h9 => h9) rfl dQ_sortParts_17 ?_
        refine lv_icmp_eq (tgt := 45) hx hb dQ_sortParts_20 rfl (fun h20 => ?_) (fun h20 => ?_)
        · have hja : j = a1 := (nI_eq (by omega) (by omega)).mp h20
          refine lv_iinc (v := nI (j + 1)) (k := 2) hx hb dQ_sortParts_45 hl rfl (bm_inc j) (by decide) rfl (fun ls hl => ?_)
          have hl : lv_has ls 3 [(2, .int (nI (j + 1))), (0, .ref q), (1, .int (nI c))] := hl
          refine lv_goto (tgt := 4) hx hb dQ_sortParts_48 rfl ?_
          have hl : lv_has ls 3 [(0, .ref q), (1, .int (nI c)), (2, .int (nI (j + 1)))] := lv_sub hl [1, 2, 0] rfl
          exact ih (j + 1) c w o ls _ _ _ (by omega) (by omega) (fun i hi => Nat.lt_succ_of_lt (S1 i hi)) S2 (bm_s3s S3 S1 (Or.inl hja)) W1 hl hz hM hS eX
        · have hna1 : ¬ j = a1 := fun z => h20 (by rw [z])
          refine lv_iload_n hx hb dQ_sortParts_23 rfl (lv_at hl 2 rfl) ?_
          refine lv_aload_n hx hb dQ_sortParts_24 rfl (lv_at hl 0 rfl) ?_
          refine bm_get (ci := 5) (v := .int (nI a2)) (C := "BlindMint$Proposal") (T := bt_Q) (N := 4) hx hb hts bu_Q hown hK hM h0 rfl 3 (by decide) (hts _ bw_75) (fun _ h9 => h9) rfl dQ_sortParts_25 ?_
          refine lv_icmp_eq (tgt := 45) hx hb dQ_sortParts_28 rfl (fun h28 => ?_) (fun h28 => ?_)
          · have hja : j = a2 := (nI_eq (by omega) (by omega)).mp h28
            refine lv_iinc (v := nI (j + 1)) (k := 2) hx hb dQ_sortParts_45 hl rfl (bm_inc j) (by decide) rfl (fun ls hl => ?_)
            have hl : lv_has ls 3 [(2, .int (nI (j + 1))), (0, .ref q), (1, .int (nI c))] := hl
            refine lv_goto (tgt := 4) hx hb dQ_sortParts_48 rfl ?_
            have hl : lv_has ls 3 [(0, .ref q), (1, .int (nI c)), (2, .int (nI (j + 1)))] := lv_sub hl [1, 2, 0] rfl
            exact ih (j + 1) c w o ls _ _ _ (by omega) (by omega) (fun i hi => Nat.lt_succ_of_lt (S1 i hi)) S2 (bm_s3s S3 S1 (Or.inr hja)) W1 hl hz hM hS eX
          · have hna2 : ¬ j = a2 := fun z => h28 (by rw [z])
            refine lv_aload_n hx hb dQ_sortParts_31 rfl (lv_at hl 0 rfl) ?_
            refine lv_aload_n hx hb dQ_sortParts_32 rfl (lv_at hl 0 rfl) ?_
            refine bm_get (ci := 5) (v := .ref (q + 1)) (C := "BlindMint$Proposal") (T := bt_Q) (N := 4) hx hb hts bu_Q hown hK hM h0 rfl 0 (by decide) (hts _ bw_71) (fun _ h9 => h9) rfl dQ_sortParts_33 ?_
            refine lv_iload_n hx hb dQ_sortParts_36 rfl (lv_at hl 2 rfl) ?_
            refine bm_aald (v := .ref (q + (3 + j))) hx hb hK hM 5 h1 rfl j (bm_ix_nI (by omega)) (by omega) (by rw [hcf j (by omega)]; rfl) dQ_sortParts_37 ?_
            refine lv_iload_n hx hb dQ_sortParts_38 rfl (lv_at hl 1 rfl) ?_
            refine bm_call (va_runV (As := [.ref (q + (3 + j)), .int (nI c)]) (rest := []) ⟨hx, hb, hml, hown, hts⟩ (bc_Q_insertPart l D ct base ad M1 sz q j c o (nI a1) (nI a2) w vA vC vE vB vX vY vP h0 h2 (by omega) hc4 W1 (fun i hi => by have := S1 i hi; omega) hcX) (cwV 2 hts (bm_goodV bw_345 bw_347 bs_5 bw_2 bw_348) rfl rfl rfl (by decide +kernel) (by rw [← hR]; exact ⟨Nat.le_of_ble_eq_true rfl, Nat.le_of_ble_eq_true rfl⟩)) (bm_preV hM hG hS hz h0 rfl) rfl rfl hl.1 rfl (lv_room (Nat.le_of_ble_eq_true rfl)) dQ_sortParts_39 (by rw [← hR]; exact ⟨Nat.le_of_ble_eq_true rfl, Nat.le_of_ble_eq_true rfl⟩)) hS (fun v9 M2 H locs hq hM hS _ => ?_)
            obtain ⟨rfl, hz, w9, t9, eM2, ht9, wi9, w39, w49⟩ := hq
            refine lv_iinc (v := nI (c + 1)) (k := 1) hx hb dQ_sortParts_42 hl rfl (bm_inc c) (by decide) rfl (fun ls hl => ?_)
            have hl : lv_has ls 3 [(1, .int (nI (c + 1))), (0, .ref q), (2, .int (nI j))] := hl
            refine lv_iinc (v := nI (j + 1)) (k := 2) hx hb dQ_sortParts_45 hl rfl (bm_inc j) (by decide) rfl (fun ls hl => ?_)
            have hl : lv_has ls 3 [(2, .int (nI (j + 1))), (1, .int (nI (c + 1))), (0, .ref q)] := hl
            refine lv_goto (tgt := 4) hx hb dQ_sortParts_48 rfl ?_
            have hl : lv_has ls 3 [(0, .ref q), (1, .int (nI (c + 1))), (2, .int (nI (j + 1)))] := lv_sub hl [2, 1, 0] rfl
            exact ih (j + 1) (c + 1) w9 (bm_in o t9 j) ls _ _ _ (by omega) (by omega) (bm_in_lt S1 ht9) (bm_in_lx ht9 S1 S2 w39 w49) (bm_s3i S3 S1 hna1 hna2 ht9) (fun i hi => wi9 i (by omega)) hl hz hM hS (by rw [eM2, eX]; simp only [bm_up_up]; first | done | rfl)
  exact loop 6 0 0 pt (fun _ => 0) ls _ _ _ rfl (by omega) (fun i hi => absurd hi (by omega)) (fun i k a9 b9 => absurd b9 (by omega)) (fun x hx => absurd hx (by omega)) (fun i hi => absurd hi (by omega)) hl hz hM hS (bm_up_same h2)
