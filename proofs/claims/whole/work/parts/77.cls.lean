set_option maxHeartbeats 4000000 in
set_option maxRecDepth 100000 in
theorem bc_Q_insertPart (l : Launch) (D : va_G) (ct : Nat → ClassId) (base : Nat) (ad : Nat → Nat) (M : bm_Map) (sz : Nat) (q j c : Nat) (o : Nat → Nat) (fo so : Int32) (pt : Nat → Option Nat) (vA vC vE vB vX vY vP : Nat → Int64) (h0 : M q = some (.inr (5, [.ref (q + 1), .ref (q + 2), .int fo, .int so]))) (h2 : M (q + 2) = some (.inl (ct 5, 4, .inr (.inr (.inr (.inr pt)))))) (hj : j < 6) (hc4 : c < 4) (hpt : ∀ i, i < c → pt i = some (q + (3 + o i))) (ho : ∀ i, i < c → o i < 6) (hcM : ∀ j, j < 6 → M (q + (3 + j)) = some (.inr (1, [.long (vA j), .long (vC j), .long (vE j), .long (vB j), .long (vX j), .long (vY j), .long (vP j)]))) : Met l yQ_insertPart (bm_ws yQ_insertPart cQ_insertPart 4 none) { frames := 0, cells := 0, slots := 0, locals := 0 } (bm_Pre D ct base ad M sz [.ref q, .ref (q + (3 + j)), .int (nI c)]) (bm_Post D base (fun v M1 n => v = none ∧ n = sz ∧ ∃ (w : Nat → Option Nat) (t : Nat), M1 = bm_up M (q + 2) (.inl (ct 5, 4, .inr (.inr (.inr (.inr w))))) ∧ t ≤ c ∧ (∀ i, i ≤ c → w i = some (q + (3 + bm_in o t j i))) ∧ (∀ i, t ≤ i → i < c → vP j < vP (o i)) ∧ (t = 0 ∨ ¬ vP j < vP (o (t - 1))))) 0 0 (bm_A base) := by
  refine bm_ofB (cc := cQ_insertPart) (maxL := 4) (ret := none) (by decide +kernel) (Nat.le_of_ble_eq_true rfl) ?_
  intro vp ve s vm args below meth vc hx hb hr hlk hts hown hml hnm ls hl hz hM hG R Q hR hQ
  have hown : s.vm.findClass "BlindMint$Proposal" = some vm.cls := hown
  have hK := hG.K
  have hS : va_S (bm_A base) s.heap s.heap [] := va_S.rf
  have hl : lv_has ls 4 [(0, .ref q), (1, .ref (q + (3 + j))), (2, .int (nI c))] := hl
  refine lv_iload_n hx hb dQ_insertPart_0 rfl (lv_at hl 2 rfl) ?_
  refine lv_istore_n hx hb dQ_insertPart_1 rfl hl (by decide) rfl (fun ls hl => ?_)
  have hl : lv_has ls 4 [(3, .int (nI c)), (0, .ref q), (1, .ref (q + (3 + j))), (2, .int (nI c))] := hl
  have hl : lv_has ls 4 [(0, .ref q), (1, .ref (q + (3 + j))), (3, .int (nI c))] := lv_sub hl [1, 2, 0] rfl
  have loop : ∀ (n : Nat) (t : Nat) (w : Nat → Option Nat) (ls : Array Slot) (H : Heap) (locs : List Loc) (M1 : bm_Map), t = n → t ≤ c → (∀ i, i < t → w i = some (q + (3 + o i))) → (∀ i, t < i → i ≤ c → w i = some (q + (3 + o (i - 1)))) → (∀ i, t ≤ i → i < c → vP j < vP (o i)) → lv_has ls 4 [(0, .ref q), (1, .ref (q + (3 + j))), (3, .int (nI t))] → H.size = sz → bm_M D base M1 H → va_S (bm_A base) s.heap H locs → M1 = bm_up M (q + 2) (.inl (ct 5, 4, .inr (.inr (.inr (.inr w))))) → W vp l ve R s vm args below meth vc H locs 0 0 Q (F0 vm 2 ls []) := by
    intro n
    induction n with
    | zero =>
      intro t w ls H locs M1 ht htc w1 w2 w3 hl hz hM hS eX
      have h0 : M1 q = some (.inr (5, [.ref (q + 1), .ref (q + 2), .int fo, .int so])) := by rw [eX, bm_up_ne (by omega)]; exact h0
      have h2 : M1 (q + 2) = some (.inl (ct 5, 4, .inr (.inr (.inr (.inr w))))) := by rw [eX]; exact bm_up_self _ _ _
      subst ht
      have hcX  : ∀ j, j < 6 → M1 (q + (3 + j)) = some (.inr (1, [.long (vA j), .long (vC j), .long (vE j), .long (vB j), .long (vX j), .long (vY j), .long (vP j)])) := fun j hj => by rw [eX, bm_up_ne (by omega)]; exact hcM j hj
      have kj := hcX j hj
      have hl : lv_has ls 4 [(0, .ref q), (1, .ref (q + (3 + j))), (3, .int 0)] := hl
      refine lv_iload_n hx hb dQ_insertPart_2 rfl (lv_at hl 2 rfl) ?_
      refine lv_if_le (tgt := 45) hx hb dQ_insertPart_3 rfl (fun _ => ?_) (fun h => absurd h (by decide))
      refine lv_aload_n hx hb dQ_insertPart_45 rfl (lv_at hl 0 rfl) ?_
      refine bm_get (ci := 5) (v := .ref (q + 2)) (C := "BlindMint$Proposal") (T := bt_Q) (N := 4) hx hb hts bu_Q hown hK hM h0 rfl 1 (by decide) (hts _ bw_72) (fun _ h9 => h9) rfl dQ_insertPart_46 ?_
      refine lv_iload_n hx hb dQ_insertPart_49 rfl (lv_at hl 2 rfl) ?_
      refine lv_aload_n hx hb dQ_insertPart_50 rfl (lv_at hl 1 rfl) ?_
      refine bm_aast hx hb hK hM hS 5 1 (r := ("BlindMint$Candidate", bt_C, 7)) h2 rfl kj rfl 0 (bm_ix_nI (k := 0) (by decide)) (by decide) dQ_insertPart_51 (fun H locs hz1 hM hS => ?_)
      replace hz := hz1.trans hz
      replace hM : bm_M D base (bm_up M1 (q + 2) (.inl (ct 5, 4, .inr (.inr (.inr (.inr (va_up w 0 (some (q + (3 + j)))))))))) H := hM
      obtain ⟨M2, eM2⟩ : ∃ X, X = bm_up M1 (q + 2) (.inl (ct 5, 4, .inr (.inr (.inr (.inr (va_up w 0 (some (q + (3 + j))))))))) := ⟨_, rfl⟩
      rw [← eM2] at hM
      replace h0 : M2 q = some (.inr (5, [.ref (q + 1), .ref (q + 2), .int fo, .int so])) := by rw [eM2, bm_up_ne (by omega)]; exact h0
      replace kj : M2 (q + (3 + j)) = some (.inr (1, [.long (vA j), .long (vC j), .long (vE j), .long (vB j), .long (vX j), .long (vY j), .long (vP j)])) := by rw [eM2, bm_up_ne (by omega)]; exact kj
      replace h2 : M2 (q + 2) = some (.inl (ct 5, 4, .inr (.inr (.inr (.inr (va_up w 0 (some (q + (3 + j))))))))) := by rw [eM2]; exact bm_up_self _ _ _
      exact bm_vret hQ hx hb hr hlk hM hS ⟨rfl, hz, _, 0, by rw [eM2, eX]; exact bm_up_up, by omega, bm_isf w1 w2, w3, (Or.inl rfl)⟩ (Nat.le_refl _) (Nat.le_refl _) dQ_insertPart_52
    | succ n ih =>
      intro t w ls H locs M1 ht htc w1 w2 w3 hl hz hM hS eX
      have h0 : M1 q = some (.inr (5, [.ref (q + 1), .ref (q + 2), .int fo, .int so])) := by rw [eX, bm_up_ne (by omega)]; exact h0
      have h2 : M1 (q + 2) = some (.inl (ct 5, 4, .inr (.inr (.inr (.inr w))))) := by rw [eX]; exact bm_up_self _ _ _
      have hcX  : ∀ j, j < 6 → M1 (q + (3 + j)) = some (.inr (1, [.long (vA j), .long (vC j), .long (vE j), .long (vB j), .long (vX j), .long (vY j), .long (vP j)])) := fun j hj => by rw [eX, bm_up_ne (by omega)]; exact hcM j hj
      have kj := hcX j hj
      have kc := hcX (o (t - 1)) (ho _ (by omega))
      refine lv_iload_n hx hb dQ_insertPart_2 rfl (lv_at hl 2 rfl) ?_
      refine lv_if_le (tgt := 45) hx hb dQ_insertPart_3 rfl (fun h3 => absurd h3 (nI_ge (a := 0) (by omega) (by omega))) (fun h3 => ?_)
      refine lv_aload_n hx hb dQ_insertPart_6 rfl (lv_at hl 0 rfl) ?_
      refine bm_get (ci := 5) (v := .ref (q + 2)) (C := "BlindMint$Proposal") (T := bt_Q) (N := 4) hx hb hts bu_Q hown hK hM h0 rfl 1 (by decide) (hts _ bw_72) (fun _ h9 => h9) rfl dQ_insertPart_7 ?_
      refine lv_iload_n hx hb dQ_insertPart_10 rfl (lv_at hl 2 rfl) ?_
      refine lv_iconst (v := 1) hx hb dQ_insertPart_11 (by decide) ?_
      refine lv_isub hx hb dQ_insertPart_12 ?_
      refine lv_topi (fun t3 e_t3 => ?_)
      have e_t3 : t3 = nI (t - 1) := by rw [e_t3]; exact pk_sub (b := 1) (by omega)
      subst e_t3
      refine bm_aald (v := .ref (q + (3 + o (t - 1)))) hx hb hK hM 5 h2 rfl (t - 1) (bm_ix_nI (by omega)) (by omega) (by rw [w1 (t - 1) (by omega)]; rfl) dQ_insertPart_13 ?_
      refine bm_get (ci := 1) (v := .long (vP (o (t - 1)))) (C := "BlindMint$Candidate") (T := bt_C) (N := 7) hx hb hts bu_C hown hK hM kc rfl 6 (by decide) (hts _ bw_55) (fun _ h9 => h9) rfl dQ_insertPart_14 ?_
      refine lv_aload_n hx hb dQ_insertPart_17 rfl (lv_at hl 1 rfl) ?_
      refine bm_get (ci := 1) (v := .long (vP j)) (C := "BlindMint$Candidate") (T := bt_C) (N := 7) hx hb hts bu_C hown hK hM kj rfl 6 (by decide) (hts _ bw_55) (fun _ h9 => h9) rfl dQ_insertPart_18 ?_
      refine W.lcmp hx hb dQ_insertPart_21 ?_
      refine lv_if_le (tgt := 45) hx hb dQ_insertPart_22 rfl (fun h22 => ?_) (fun h22 => ?_)
      · refine lv_aload_n hx hb dQ_insertPart_45 rfl (lv_at hl 0 rfl) ?_
        refine bm_get (ci := 5) (v := .ref (q + 2)) (C := "BlindMint$Proposal") (T := bt_Q) (N := 4) hx hb hts bu_Q hown hK hM h0 rfl 1 (by decide) (hts _ bw_72) (fun _ h9 => h9) rfl dQ_insertPart_46 ?_
        refine lv_iload_n hx hb dQ_insertPart_49 rfl (lv_at hl 2 rfl) ?_
        refine lv_aload_n hx hb dQ_insertPart_50 rfl (lv_at hl 1 rfl) ?_
        refine bm_aast hx hb hK hM hS 5 1 (r := ("BlindMint$Candidate", bt_C, 7)) h2 rfl kj rfl t (bm_ix_nI (by omega)) (by omega) dQ_insertPart_51 (fun H locs hz1 hM hS => ?_)
        replace hz := hz1.trans hz
        replace hM : bm_M D base (bm_up M1 (q + 2) (.inl (ct 5, 4, .inr (.inr (.inr (.inr (va_up w t (some (q + (3 + j)))))))))) H := hM
        obtain ⟨M4, eM4⟩ : ∃ X, X = bm_up M1 (q + 2) (.inl (ct 5, 4, .inr (.inr (.inr (.inr (va_up w t (some (q + (3 + j))))))))) := ⟨_, rfl⟩
        rw [← eM4] at hM
        replace h0 : M4 q = some (.inr (5, [.ref (q + 1), .ref (q + 2), .int fo, .int so])) := by rw [eM4, bm_up_ne (by omega)]; exact h0
        replace kj : M4 (q + (3 + j)) = some (.inr (1, [.long (vA j), .long (vC j), .long (vE j), .long (vB j), .long (vX j), .long (vY j), .long (vP j)])) := by rw [eM4, bm_up_ne (by omega)]; exact kj
        replace kc : M4 (q + (3 + o (t - 1))) = some (.inr (1, [.long (vA (o (t - 1))), .long (vC (o (t - 1))), .long (vE (o (t - 1))), .long (vB (o (t - 1))), .long (vX (o (t - 1))), .long (vY (o (t - 1))), .long (vP (o (t - 1)))])) := by rw [eM4, bm_up_ne (by omega)]; exact kc
        replace h2 : M4 (q + 2) = some (.inl (ct 5, 4, .inr (.inr (.inr (.inr (va_up w t (some (q + (3 + j))))))))) := by rw [eM4]; exact bm_up_self _ _ _
        exact bm_vret hQ hx hb hr hlk hM hS ⟨rfl, hz, _, t, by rw [eM4, eX]; exact bm_up_up, by omega, bm_isf w1 w2, w3, (Or.inr (Int64.not_lt.mpr ((lg_cmp_le _ _).mp h22)))⟩ (Nat.le_refl _) (Nat.le_refl _) dQ_insertPart_52
      · have hsh : vP j < vP (o (t - 1)) := Int64.not_le.mp (fun z => h22 ((lg_cmp_le _ _).mpr z))
        refine lv_aload_n hx hb dQ_insertPart_25 rfl (lv_at hl 0 rfl) ?_
        refine bm_get (ci := 5) (v := .ref (q + 2)) (C := "BlindMint$Proposal") (T := bt_Q) (N := 4) hx hb hts bu_Q hown hK hM h0 rfl 1 (by decide) (hts _ bw_72) (fun _ h9 => h9) rfl dQ_insertPart_26 ?_
        refine lv_iload_n hx hb dQ_insertPart_29 rfl (lv_at hl 2 rfl) ?_
        refine lv_aload_n hx hb dQ_insertPart_30 rfl (lv_at hl 0 rfl) ?_
        refine bm_get (ci := 5) (v := .ref (q + 2)) (C := "BlindMint$Proposal") (T := bt_Q) (N := 4) hx hb hts bu_Q hown hK hM h0 rfl 1 (by decide) (hts _ bw_72) (fun _ h9 => h9) rfl dQ_insertPart_31 ?_
        refine lv_iload_n hx hb dQ_insertPart_34 rfl (lv_at hl 2 rfl) ?_
        refine lv_iconst (v := 1) hx hb dQ_insertPart_35 (by decide) ?_
        refine lv_isub hx hb dQ_insertPart_36 ?_
        refine lv_topi (fun t5 e_t5 => ?_)
        have e_t5 : t5 = nI (t - 1) := by rw [e_t5]; exact pk_sub (b := 1) (by omega)
        subst e_t5
        refine bm_aald (v := .ref (q + (3 + o (t - 1)))) hx hb hK hM 5 h2 rfl (t - 1) (bm_ix_nI (by omega)) (by omega) (by rw [w1 (t - 1) (by omega)]; rfl) dQ_insertPart_37 ?_
        refine bm_aast hx hb hK hM hS 5 1 (r := ("BlindMint$Candidate", bt_C, 7)) h2 rfl kc rfl t (bm_ix_nI (by omega)) (by omega) dQ_insertPart_38 (fun H locs hz1 hM hS => ?_)
        replace hz := hz1.trans hz
        replace hM : bm_M D base (bm_up M1 (q + 2) (.inl (ct 5, 4, .inr (.inr (.inr (.inr (va_up w t (some (q + (3 + o (t - 1))))))))))) H := hM
        obtain ⟨M6, eM6⟩ : ∃ X, X = bm_up M1 (q + 2) (.inl (ct 5, 4, .inr (.inr (.inr (.inr (va_up w t (some (q + (3 + o (t - 1)))))))))) := ⟨_, rfl⟩
        rw [← eM6] at hM
        replace h0 : M6 q = some (.inr (5, [.ref (q + 1), .ref (q + 2), .int fo, .int so])) := by rw [eM6, bm_up_ne (by omega)]; exact h0
        replace kj : M6 (q + (3 + j)) = some (.inr (1, [.long (vA j), .long (vC j), .long (vE j), .long (vB j), .long (vX j), .long (vY j), .long (vP j)])) := by rw [eM6, bm_up_ne (by omega)]; exact kj
        replace kc : M6 (q + (3 + o (t - 1))) = some (.inr (1, [.long (vA (o (t - 1))), .long (vC (o (t - 1))), .long (vE (o (t - 1))), .long (vB (o (t - 1))), .long (vX (o (t - 1))), .long (vY (o (t - 1))), .long (vP (o (t - 1)))])) := by rw [eM6, bm_up_ne (by omega)]; exact kc
        replace h2 : M6 (q + 2) = some (.inl (ct 5, 4, .inr (.inr (.inr (.inr (va_up w t (some (q + (3 + o (t - 1)))))))))) := by rw [eM6]; exact bm_up_self _ _ _
        refine lv_iinc (v := nI (t - 1)) (k := 2) hx hb dQ_insertPart_39 hl rfl (bm_dec (by omega)) (by decide) rfl (fun ls hl => ?_)
        have hl : lv_has ls 4 [(3, .int (nI (t - 1))), (0, .ref q), (1, .ref (q + (3 + j)))] := hl
        refine lv_goto (tgt := 2) hx hb dQ_insertPart_42 rfl ?_
        have hl : lv_has ls 4 [(0, .ref q), (1, .ref (q + (3 + j))), (3, .int (nI (t - 1)))] := lv_sub hl [1, 2, 0] rfl
        exact ih (t - 1) (va_up w t (some (q + (3 + o (t - 1))))) ls _ _ _ (by omega) (by omega) (bm_is1 w1) (bm_is2 w2) (bm_is3 (by omega) w3 hsh) hl hz hM hS (by rw [eM6, eX]; simp only [bm_up_up]; first | done | rfl)
  exact loop c c pt ls _ _ _ rfl (Nat.le_refl _) hpt (fun i a9 b9 => absurd a9 (by omega)) (fun i a9 b9 => absurd a9 (by omega)) hl hz hM hS (bm_up_same h2)
