theorem bm_a15 (v : Int32) : ∃ k, k < 16 ∧ v &&& 15 = nI k := by
  refine ⟨v.toBitVec.toNat % 16, Nat.mod_lt _ (by decide), Int32.toBitVec_inj.mp ?_⟩
  apply BitVec.eq_of_toNat_eq
  rw [Int32.toBitVec_and, BitVec.toNat_and]
  show v.toBitVec.toNat &&& (2 ^ 4 - 1) = (v.toBitVec.toNat % 16) % 2 ^ 32
  rw [Nat.and_two_pow_sub_one_eq_mod, Nat.mod_eq_of_lt (a := v.toBitVec.toNat % 16) (by omega)]
theorem bm_lend {i L : Nat} (hi : i < 2 ^ 30) (hL : L < 2 ^ 30) : nI i ≤ Int32.ofNat L - 6 ↔ i + 6 ≤ L := by
  have h1 : (Int32.ofNat L - 6).toInt = (L : Int) - 6 := pk_sub_toInt (a := L) (b := 6) hL (by decide)
  have h2 : (nI i).toInt = (i : Int) := Int32.toInt_ofNat_of_lt (by omega)
  rw [Int32.le_iff_toInt_le, h1, h2]
  omega
theorem bm_nolocs {p : Program} {l : Launch} {e : Env} {R : Room} {s : State} {m : MethodId} {args : Array Value} {below : List Frame} {meth : Method} {c : Code} {H : Heap} {locs : List Loc} {cells slots : Nat} {Q : State → Prop} {g : JFrame} (h : ∀ q ∈ locs, s.heap.size ≤ q.base) (kk : W p l e R s m args below meth c H [] cells slots Q g) : W p l e R s m args below meth c H locs cells slots Q g := fun T hT X =>
  kk T hT ⟨X.admits, X.cas, X.clock, X.frames, X.room, X.hears, X.method, X.code, X.here, X.tail, X.warmed, X.limits, X.bytes, X.same.weaken (fun y hy hlt => absurd hlt (Nat.not_lt.mpr (h y hy))) (Nat.le_refl _) (Nat.le_refl _)⟩
set_option maxHeartbeats 4000000 in
set_option maxRecDepth 100000 in
theorem bl_step {vp : Program} {ve : Env} {s : State} {vm : MethodId} {below : List Frame} {meth : Method} {vc : Code} (l : Launch) {b L : Nat} {xs : Nat → Int32} {Q : State → Prop} {D : va_G} {ct : Nat → ClassId} {base : Nat} {ad : Nat → Nat} (hlt : l.stackTraces = false) (hx : vp.tables.exec = Jvm.exec) (hb : vc.code = cL_law) (hml : vc.maxLocals = 8) (hown : s.vm.findClass "BlindMintLaw" = some vm.cls) (hts : ∀ w ∈ bm_big, w.before #[Value.ref b] s = true) (hX : va_X b L xs s s.heap) (hbl : b < s.heap.size) (hbA : ¬ bm_A base b) (hG : bm_G D ct base ad s) (x i C Sl : Nat) (hi6 : i + 6 ≤ L) (hL : L ≤ 3072) (hC : C + 3 ≤ 601024) (hSl : Sl + 30 ≤ 7293034) (th : Int32) (tr : Int32) (bl : Int64) (np : Int32) (K : Nat) (f1 f2 f3 f4 : Nat → Int32) (g5 g6 : Nat → Int64) (f7 : Nat → Int32) (g8 g9 g10 : Nat → Int64) (w : Nat → Int64) (hK512 : K < 512) {H : Heap} {locs : List Loc} {M : bm_Map} {ls : Array Slot} (hl : lv_has ls 8 [(0, .ref b), (1, .ref x), (2, .ref (x + 21)), (3, .ref (x + 39)), (4, .int (nI i))]) (hM : bm_M D base M H) (hS : va_S (bm_A base) s.heap H locs) (hB : bm_BD ct x K tr bl np f1 f2 f3 f4 g5 g6 f7 g8 g9 g10 M) (hMS : bm_MS ct (x + 21) th (tr, bl, np, K, f1, f2, f3, f4, g5, g6, f7, g8, g9, g10) M) (ho : M (x + 39) = some (.inl (ct 1, 1, .inr (.inl w)))) (next : ∀ (t1 : bm_St) (th1 : Int32) (w1 : Nat → Int64) (M1 : bm_Map) (H1 : Heap) (locs1 : List Loc) (ls1 : Array Slot), t1.2.2.2.1 ≤ K + 1 → lv_has ls1 8 [(0, .ref b), (1, .ref x), (2, .ref (x + 21)), (3, .ref (x + 39)), (4, .int (nI i))] → bm_M D base M1 H1 → va_S (bm_A base) s.heap H1 locs1 → bm_BS ct x t1 M1 → bm_MS ct (x + 21) th1 t1 M1 → M1 (x + 39) = some (.inl (ct 1, 1, .inr (.inl w1))) → W vp l ve room_1 s vm #[Value.ref b] below meth vc H1 locs1 (C + 3) (Sl + 30) Q (F0 vm 934 ls1 [])) : W vp l ve room_1 s vm #[Value.ref b] below meth vc H locs C Sl Q (F0 vm 23 ls []) := by
  refine lv_iload hx hb dL_law_23 (lv_at hl 4 rfl) ?_
  refine lv_aload_n hx hb dL_law_25 rfl (lv_at hl 0 rfl) ?_
  refine va_slen hx hb hX hbl hbA hS dL_law_26 ?_
  refine lv_bipush (v := 6) hx hb dL_law_27 (by decide) ?_
  refine lv_isub hx hb dL_law_29 ?_
  refine lv_icmp_gt (tgt := 940) hx hb dL_law_30 rfl (fun h30 => absurd ((bm_lend (by omega) (by omega)).mpr hi6) (Int32.not_le.mpr h30)) (fun h30 => ?_)
  refine lv_aload_n hx hb dL_law_33 rfl (lv_at hl 0 rfl) ?_
  refine lv_iload hx hb dL_law_34 (lv_at hl 4 rfl) ?_
  refine va_sld hx hb hX hbl hbA hS (i := nI i) (bm_ix_in (bm_ix_nI (k := i) (by omega)) (by omega)) dL_law_36 ?_
  rw [show (nI i).toNatClampNeg = i from nI_clamp (by omega)]
  refine lv_bipush (v := 15) hx hb dL_law_37 (by decide) ?_
  refine lv_iand hx hb dL_law_39 ?_
  obtain ⟨k9, hk9, e9⟩ := bm_a15 (xs i)
  rw [e9]
  rcases (show k9 = 0 ∨ k9 = 1 ∨ k9 = 2 ∨ k9 = 3 ∨ k9 = 4 ∨ k9 = 5 ∨ k9 = 6 ∨ k9 = 7 ∨ k9 = 8 ∨ k9 = 9 ∨ k9 = 10 ∨ k9 = 11 ∨ k9 = 12 ∨ k9 = 13 ∨ k9 = 14 ∨ k9 = 15 by omega) with rfl | rfl | rfl | rfl | rfl | rfl | rfl | rfl | rfl | rfl | rfl | rfl | rfl | rfl | rfl | rfl
  · refine lv_tableIn (off := 72) (tgt := 112) hx hb dL_law_40 (by decide) (by decide) (by decide) (by decide) ?_
    exact bl_withdraw l hlt hx hb hml hown hts hX hbl hbA hG x i C Sl hi6 hL hC hSl th tr bl np K f1 f2 f3 f4 g5 g6 f7 g8 g9 g10 w hK512 hl hM hS hB hMS ho next
  · refine lv_tableIn (off := 196) (tgt := 236) hx hb dL_law_40 (by decide) (by decide) (by decide) (by decide) ?_
    exact bl_choose l hlt hx hb hml hown hts hX hbl hbA hG x i C Sl hi6 hL hC hSl th tr bl np K f1 f2 f3 f4 g5 g6 f7 g8 g9 g10 w hK512 hl hM hS hB hMS ho next
  · refine lv_tableIn (off := 264) (tgt := 304) hx hb dL_law_40 (by decide) (by decide) (by decide) (by decide) ?_
    exact bl_spend l hlt hx hb hml hown hts hX hbl hbA hG x i C Sl hi6 hL hC hSl th tr bl np K f1 f2 f3 f4 g5 g6 f7 g8 g9 g10 w hK512 hl hM hS hB hMS ho next
  · refine lv_tableIn (off := 356) (tgt := 396) hx hb dL_law_40 (by decide) (by decide) (by decide) (by decide) ?_
    exact bl_tamper l hlt hx hb hml hown hts hX hbl hbA hG x i C Sl hi6 hL hC hSl th tr bl np K f1 f2 f3 f4 g5 g6 f7 g8 g9 g10 w hK512 hl hM hS hB hMS ho next
  · refine lv_tableIn (off := 467) (tgt := 507) hx hb dL_law_40 (by decide) (by decide) (by decide) (by decide) ?_
    exact bl_number l hlt hx hb hml hown hts hX hbl hbA hG x i C Sl hi6 hL hC hSl th tr bl np K f1 f2 f3 f4 g5 g6 f7 g8 g9 g10 w hK512 hl hM hS hB hMS ho next
  · refine lv_tableIn (off := 534) (tgt := 574) hx hb dL_law_40 (by decide) (by decide) (by decide) (by decide) ?_
    exact bl_good l hlt hx hb hml hown hts hX hbl hbA hG x i C Sl hi6 hL hC hSl th tr bl np K f1 f2 f3 f4 g5 g6 f7 g8 g9 g10 w hK512 hl hM hS hB hMS ho next
  · refine lv_tableIn (off := 559) (tgt := 599) hx hb dL_law_40 (by decide) (by decide) (by decide) (by decide) ?_
    exact bl_deposit l hlt hx hb hml hown hts hX hbl hbA hG x i C Sl hi6 hL hC hSl th tr bl np K f1 f2 f3 f4 g5 g6 f7 g8 g9 g10 w hK512 hl hM hS hB hMS ho next
  · refine lv_tableIn (off := 627) (tgt := 667) hx hb dL_law_40 (by decide) (by decide) (by decide) (by decide) ?_
    exact bl_traced l hlt hx hb hml hown hts hX hbl hbA hG x i C Sl hi6 hL hC hSl th tr bl np K f1 f2 f3 f4 g5 g6 f7 g8 g9 g10 w hK512 hl hM hS hB hMS ho next
  · refine lv_tableIn (off := 640) (tgt := 680) hx hb dL_law_40 (by decide) (by decide) (by decide) (by decide) ?_
    exact bl_balance l hlt hx hb hml hown hts hX hbl hbA hG x i C Sl hi6 hL hC hSl th tr bl np K f1 f2 f3 f4 g5 g6 f7 g8 g9 g10 w hK512 hl hM hS hB hMS ho next
  · refine lv_tableIn (off := 696) (tgt := 736) hx hb dL_law_40 (by decide) (by decide) (by decide) (by decide) ?_
    exact bl_coins l hlt hx hb hml hown hts hX hbl hbA hG x i C Sl hi6 hL hC hSl th tr bl np K f1 f2 f3 f4 g5 g6 f7 g8 g9 g10 w hK512 hl hM hS hB hMS ho next
  · refine lv_tableIn (off := 721) (tgt := 761) hx hb dL_law_40 (by decide) (by decide) (by decide) (by decide) ?_
    exact bl_coin l hlt hx hb hml hown hts hX hbl hbA hG x i C Sl hi6 hL hC hSl th tr bl np K f1 f2 f3 f4 g5 g6 f7 g8 g9 g10 w hK512 hl hM hS hB hMS ho next
  · refine lv_tableIn (off := 788) (tgt := 828) hx hb dL_law_40 (by decide) (by decide) (by decide) (by decide) ?_
    exact bl_signature l hlt hx hb hml hown hts hX hbl hbA hG x i C Sl hi6 hL hC hSl th tr bl np K f1 f2 f3 f4 g5 g6 f7 g8 g9 g10 w hK512 hl hM hS hB hMS ho next
  · refine lv_tableIn (off := 855) (tgt := 895) hx hb dL_law_40 (by decide) (by decide) (by decide) (by decide) ?_
    exact bl_blinded l hlt hx hb hml hown hts hX hbl hbA hG x i C Sl hi6 hL hC hSl th tr bl np K f1 f2 f3 f4 g5 g6 f7 g8 g9 g10 w hK512 hl hM hS hB hMS ho next
  · refine lv_tableIn (off := 869) (tgt := 909) hx hb dL_law_40 (by decide) (by decide) (by decide) (by decide) ?_
    exact bl_count l hlt hx hb hml hown hts hX hbl hbA hG x i C Sl hi6 hL hC hSl th tr bl np K f1 f2 f3 f4 g5 g6 f7 g8 g9 g10 w hK512 hl hM hS hB hMS ho next
  · refine lv_tableOut (tgt := 934) hx hb dL_law_40 (by decide) (by decide) ?_
    exact W.widen (k := C + 3) (n := Sl + 30) (by omega) (by omega) (next (tr, bl, np, K, f1, f2, f3, f4, g5, g6, f7, g8, g9, g10) th w M H locs ls (Nat.le_succ K) hl hM hS hB hMS ho)
  · refine lv_tableOut (tgt := 934) hx hb dL_law_40 (by decide) (by decide) ?_
    exact W.widen (k := C + 3) (n := Sl + 30) (by omega) (by omega) (next (tr, bl, np, K, f1, f2, f3, f4, g5, g6, f7, g8, g9, g10) th w M H locs ls (Nat.le_succ K) hl hM hS hB hMS ho)
theorem bl_exit {vp : Program} {ve : Env} {s : State} {vm : MethodId} {below : List Frame} {meth : Method} {vc : Code} (l : Launch) {b L : Nat} {xs : Nat → Int32} {Q : State → Prop} {D : va_G} {ct : Nat → ClassId} {base : Nat} {ad : Nat → Nat} (hlt : l.stackTraces = false) (hx : vp.tables.exec = Jvm.exec) (hb : vc.code = cL_law) (hml : vc.maxLocals = 8) (hown : s.vm.findClass "BlindMintLaw" = some vm.cls) (hts : ∀ w ∈ bm_big, w.before #[Value.ref b] s = true) (hX : va_X b L xs s s.heap) (hbl : b < s.heap.size) (hbA : ¬ bm_A base b) (hG : bm_G D ct base ad s) (x i : Nat) (hi6 : ¬ i + 6 ≤ L) (hi : i < 2 ^ 30) (hL : L ≤ 3072) {H : Heap} {locs : List Loc} {C Sl : Nat} {ls : Array Slot} (hl : lv_has ls 8 [(0, .ref b), (1, .ref x), (2, .ref (x + 21)), (3, .ref (x + 39)), (4, .int (nI i))]) (hS : va_S (bm_A base) s.heap H locs) (hend : ∀ ls : Array Slot, W vp l ve room_1 s vm #[Value.ref b] below meth vc H locs C Sl Q (F0 vm 941 ls [.int 1])) : W vp l ve room_1 s vm #[Value.ref b] below meth vc H locs C Sl Q (F0 vm 23 ls []) := by
  refine lv_iload hx hb dL_law_23 (lv_at hl 4 rfl) ?_
  refine lv_aload_n hx hb dL_law_25 rfl (lv_at hl 0 rfl) ?_
  refine va_slen hx hb hX hbl hbA hS dL_law_26 ?_
  refine lv_bipush (v := 6) hx hb dL_law_27 (by decide) ?_
  refine lv_isub hx hb dL_law_29 ?_
  refine lv_icmp_gt (tgt := 940) hx hb dL_law_30 rfl (fun h30 => ?_) (fun h30 => absurd ((bm_lend (by omega) (by omega)).mp (Int32.not_lt.mp h30)) hi6)
  refine lv_iconst (v := 1) hx hb dL_law_940 (by decide) ?_
  exact hend ls
set_option maxHeartbeats 4000000 in
theorem bl_loop {vp : Program} {ve : Env} {s : State} {vm : MethodId} {below : List Frame} {meth : Method} {vc : Code} (l : Launch) {b L : Nat} {xs : Nat → Int32} {Q : State → Prop} {D : va_G} {ct : Nat → ClassId} {base : Nat} {ad : Nat → Nat} (hlt : l.stackTraces = false) (hx : vp.tables.exec = Jvm.exec) (hb : vc.code = cL_law) (hml : vc.maxLocals = 8) (hown : s.vm.findClass "BlindMintLaw" = some vm.cls) (hts : ∀ w ∈ bm_big, w.before #[Value.ref b] s = true) (hX : va_X b L xs s s.heap) (hbl : b < s.heap.size) (hbA : ¬ bm_A base b) (hG : bm_G D ct base ad s) (x : Nat) (hL : L ≤ 3072) (hend : ∀ (H : Heap) (locs : List Loc) (ls : Array Slot) (j : Nat), j ≤ 512 → va_S (bm_A base) s.heap H locs → W vp l ve room_1 s vm #[Value.ref b] below meth vc H locs (60 + 3 * j) (7000 + 30 * j) Q (F0 vm 941 ls [.int 1])) :
    ∀ (n j : Nat) (th : Int32) (t : bm_St) (w : Nat → Int64) (M : bm_Map) (H : Heap) (locs : List Loc) (ls : Array Slot), L ≤ 6 * j + 6 * n + 5 → j ≤ 512 → t.2.2.2.1 ≤ j → lv_has ls 8 [(0, .ref b), (1, .ref x), (2, .ref (x + 21)), (3, .ref (x + 39)), (4, .int (nI (6 * j)))] → bm_M D base M H → va_S (bm_A base) s.heap H locs → bm_BS ct x t M → bm_MS ct (x + 21) th t M → M (x + 39) = some (.inl (ct 1, 1, .inr (.inl w))) → W vp l ve room_1 s vm #[Value.ref b] below meth vc H locs (60 + 3 * j) (7000 + 30 * j) Q (F0 vm 23 ls []) := by
  intro n
  induction n with
  | zero =>
    intro j th t w M H locs ls hn hj hK hl hM hS hB hMS ho
    exact bl_exit l hlt hx hb hml hown hts hX hbl hbA hG x (6 * j) (by omega) (by omega) hL hl hS (fun ls => hend H locs ls j hj hS)
  | succ n ih =>
    intro j th t w M H locs ls hn hj hK hl hM hS hB hMS ho
    by_cases hc : 6 * j + 6 ≤ L
    · obtain ⟨tr, bl, np, K, f1, f2, f3, f4, g5, g6, f7, g8, g9, g10⟩ := t
      have hKj : K ≤ j := hK
      refine bl_step l hlt hx hb hml hown hts hX hbl hbA hG x (6 * j) (60 + 3 * j) (7000 + 30 * j) hc hL (by omega) (by omega) th tr bl np K f1 f2 f3 f4 g5 g6 f7 g8 g9 g10 w (by omega) hl hM hS hB hMS ho ?_
      intro t1 th1 w1 M1 H1 locs1 ls1 hK1 hl hM hS hB hMS ho
      refine lv_iinc (v := nI (6 * (j + 1))) (k := 4) hx hb dL_law_934 hl rfl (by show nI (6 * j) + nI 6 = _; rw [nI_add]; rfl) (by decide) rfl (fun ls hl => ?_)
      have hl : lv_has ls 8 [(4, .int (nI (6 * (j + 1)))), (0, .ref b), (1, .ref x), (2, .ref (x + 21)), (3, .ref (x + 39))] := hl
      refine lv_goto (tgt := 23) hx hb dL_law_937 rfl ?_
      have hl : lv_has ls 8 [(0, .ref b), (1, .ref x), (2, .ref (x + 21)), (3, .ref (x + 39)), (4, .int (nI (6 * (j + 1))))] := lv_sub hl [1, 2, 3, 4, 0] rfl
      refine W.widen (k := 60 + 3 * (j + 1)) (n := 7000 + 30 * (j + 1)) (by omega) (by omega) ?_
      exact ih (j + 1) th1 t1 w1 M1 H1 locs1 ls (by omega) (by omega) (Nat.le_trans hK1 (by omega)) hl hM hS hB hMS ho
    · exact bl_exit l hlt hx hb hml hown hts hX hbl hbA hG x (6 * j) (by omega) (by omega) hL hl hS (fun ls => hend H locs ls j hj hS)
