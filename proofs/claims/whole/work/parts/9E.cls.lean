set_option maxHeartbeats 4000000 in
set_option maxRecDepth 100000 in
theorem bc_B_findCredit (l : Launch) (D : va_G) (ct : Nat → ClassId) (base : Nat) (ad : Nat → Nat) (M : bm_Map) (sz : Nat) (x : Nat) (pc lt wc dc fc rc : Int32) (lb : Int64) (lc : Value) (d : Int64) (h : Nat → Int64) (L0 : List bm_CE) (h0 : M x = some (.inr (6, [.ref (x + 1), .ref (x + 2), .ref (x + 11), .int pc, .ref (x + 12), lc, .int lt, .long lb, .int wc, .int dc, .int fc, .int rc]))) (gy : M (x + 12) = some (.inl (ct 1, 4, .inr (.inl h)))) (hL0 : bm_CL ct M L0 lc) : Met l yB_findCredit (bm_ws yB_findCredit cB_findCredit 4 (some (.object "BlindMint$Credit"))) { frames := 1, cells := 0, slots := 0, locals := 25 } (bm_Pre D ct base ad M sz [.ref x, .long d]) (bm_Post D base (bm_Is (some (bm_fc d h L0)) M sz)) 0 0 (bm_A base) := by
  refine bm_ofB (cc := cB_findCredit) (maxL := 4) (ret := (some (.object "BlindMint$Credit"))) (by decide +kernel) (Nat.le_of_ble_eq_true rfl) ?_
  intro vp ve s vm args below meth vc hx hb hr hlk hts hown hml hnm ls hl hz hM hG R Q hR hQ
  have hown : s.vm.findClass "BlindMint" = some vm.cls := hown
  have hK := hG.K
  have hS : va_S (bm_A base) s.heap s.heap [] := va_S.rf
  have hl : lv_has ls 4 [(0, .ref x), (1, .long d)] := hl
  refine lv_aload_n hx hb dB_findCredit_0 rfl (lv_at hl 0 rfl) ?_
  refine bm_get (ci := 6) (v := lc) (C := "BlindMint") (T := bt_B) (N := 12) hx hb hts bu_B hown hK hM h0 rfl 5 (by decide) (hts _ bw_114) (fun _ h9 => h9) rfl dB_findCredit_1 ?_
  refine bm_astoreV (bm_CL_nr hL0) hx hb dB_findCredit_4 rfl hl (by decide) rfl (fun ls hl => ?_)
  have hl : lv_has ls 4 [(3, lc), (0, .ref x), (1, .long d)] := hl
  have hl : lv_has ls 4 [(0, .ref x), (1, .long d), (3, lc)] := lv_sub hl [1, 2, 0] rfl
  have loop : ∀ (n : Nat) (LL : List bm_CE) (v : Value) (ls : Array Slot) (H : Heap) (locs : List Loc), LL.length = n → bm_CL ct M LL v → bm_fc d h LL = bm_fc d h L0 → lv_has ls 4 [(0, .ref x), (1, .long d), (3, v)] → H.size = sz → bm_M D base M H → va_S (bm_A base) s.heap H locs → W vp l ve R s vm args below meth vc H locs 0 0 Q (F0 vm 5 ls []) := by
    intro n
    induction n with
    | zero =>
      intro LL v ls H locs hn hL hfc hl hz hM hS
      obtain rfl : LL = [] := List.eq_nil_of_length_eq_zero hn
      obtain rfl : v = .null := hL
      refine lv_aload_nN hx hb dB_findCredit_5 rfl (lv_at hl 2 rfl) ?_
      refine lv_ifnullN (tgt := 31) hx hb dB_findCredit_6 rfl ?_
      refine lv_null hx hb dB_findCredit_31 ?_
      exact bm_aret hQ hx hb hr hlk (Or.inl ⟨_, rfl⟩) (Or.inl rfl) hM hS ⟨congrArg some hfc, rfl, hz⟩ (Nat.le_refl _) (Nat.le_refl _) dB_findCredit_32
    | succ n ih =>
      intro LL v ls H locs hn hL hfc hl hz hM hS
      obtain ⟨ce, t, rfl⟩ : ∃ ce t, LL = ce :: t := by cases LL with | nil => cases hn | cons ce t => exact ⟨ce, t, rfl⟩
      obtain ⟨rfl, bv, g1, g2, g3, hL⟩ := hL
      refine lv_aload_n hx hb dB_findCredit_5 rfl (lv_at hl 2 rfl) ?_
      refine lv_ifnull hx hb dB_findCredit_6 ?_
      refine lv_aload_n hx hb dB_findCredit_9 rfl (lv_at hl 2 rfl) ?_
      refine lv_lload_n hx hb dB_findCredit_10 rfl (lv_at hl 1 rfl) ?_
      refine lv_aload_n hx hb dB_findCredit_11 rfl (lv_at hl 0 rfl) ?_
      refine bm_get (ci := 6) (v := .ref (x + 12)) (C := "BlindMint") (T := bt_B) (N := 12) hx hb hts bu_B hown hK hM h0 rfl 4 (by decide) (hts _ bw_113) (fun _ h9 => h9) rfl dB_findCredit_12 ?_
      refine bm_callE (va_runV (As := [.long d, .ref (x + 12)]) (rest := []) ⟨hx, hb, hml, hown, hts⟩ (bc_R_isOf l D ct base ad M sz ce.a ce.b ce.c (x + 12) ce.d0 ce.c0 d ce.h h bv g1 g2 gy) (cwV 2 hts (bm_goodV bw_523 bw_524 bw_525 bw_18 bw_526) rfl rfl rfl (by decide +kernel) (by rw [← hR]; exact ⟨Nat.le_of_ble_eq_true rfl, Nat.le_of_ble_eq_true rfl⟩)) (bm_preV hM hG hS hz g1 rfl) rfl rfl hl.1 rfl (lv_room (Nat.le_of_ble_eq_true rfl)) dB_findCredit_15 (by rw [← hR]; exact ⟨Nat.le_of_ble_eq_true rfl, Nat.le_of_ble_eq_true rfl⟩)) hS (fun H locs hz hM hS => ?_)
      refine lv_if_eq (tgt := 23) hx hb dB_findCredit_18 rfl (fun h18 => ?_) (fun h18 => ?_)
      · refine lv_aload_n hx hb dB_findCredit_23 rfl (lv_at hl 2 rfl) ?_
        refine bm_get (ci := 3) (v := bv) (C := "BlindMint$Credit") (T := bt_R) (N := 5) hx hb hts bu_R hown hK hM g1 rfl 4 (by decide) (hts _ bw_562) (fun _ h9 => h9) rfl dB_findCredit_24 ?_
        refine bm_astoreV (bm_CL_nr hL) hx hb dB_findCredit_27 rfl hl (by decide) rfl (fun ls hl => ?_)
        have hl : lv_has ls 4 [(3, bv), (0, .ref x), (1, .long d)] := hl
        refine lv_goto (tgt := 5) hx hb dB_findCredit_28 rfl ?_
        have hl : lv_has ls 4 [(0, .ref x), (1, .long d), (3, bv)] := lv_sub hl [1, 2, 0] rfl
        exact ih t bv ls _ _ (Nat.succ.inj hn) hL ((bm_fc_n h18).symm.trans hfc) hl hz hM hS
      · refine lv_aload_n hx hb dB_findCredit_21 rfl (lv_at hl 2 rfl) ?_
        exact bm_aret hQ hx hb hr hlk (Or.inl ⟨_, rfl⟩) (Or.inr ⟨_, rfl⟩) hM hS ⟨congrArg some ((bm_fc_y h18).symm.trans hfc), rfl, hz⟩ (Nat.le_refl _) (Nat.le_refl _) dB_findCredit_22
  exact loop L0.length L0 lc ls _ _ rfl hL0 rfl hl hz hM hS
