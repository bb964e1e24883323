theorem bm_MS.kept {ct : Nat → ClassId} {m : Nat} {th : Int32} {t : bm_St} {M M1 : bm_Map} (h : bm_MS ct m th t M) (hk : ∀ c, m ≤ c → c < m + 18 → M1 c = M c) : bm_MS ct m th t M1 := by
  obtain ⟨g11, g12, g13, g14, g15, f16, g17, a0, a1, a2, a3, a4, a5, a6, a7, a8, a9, a10, a11, a12, a13, a14, a15, a16, a17⟩ := h
  exact ⟨g11, g12, g13, g14, g15, f16, g17, (hk _ (by omega) (by omega)).trans a0, (hk _ (by omega) (by omega)).trans a1, (hk _ (by omega) (by omega)).trans a2, (hk _ (by omega) (by omega)).trans a3, (hk _ (by omega) (by omega)).trans a4, (hk _ (by omega) (by omega)).trans a5, (hk _ (by omega) (by omega)).trans a6, (hk _ (by omega) (by omega)).trans a7, (hk _ (by omega) (by omega)).trans a8, (hk _ (by omega) (by omega)).trans a9, (hk _ (by omega) (by omega)).trans a10, (hk _ (by omega) (by omega)).trans a11, (hk _ (by omega) (by omega)).trans a12, (hk _ (by omega) (by omega)).trans a13, (hk _ (by omega) (by omega)).trans a14, (hk _ (by omega) (by omega)).trans a15, (hk _ (by omega) (by omega)).trans a16, (hk _ (by omega) (by omega)).trans a17⟩
theorem bm_BD.x0 {ct : Nat → ClassId} {x K : Nat} {tr : Int32} {bl : Int64} {np : Int32} {f1 f2 f3 f4 : Nat → Int32} {g5 g6 : Nat → Int64} {f7 : Nat → Int32} {g8 g9 g10 : Nat → Int64} {M : bm_Map} (h : bm_BD ct x K tr bl np f1 f2 f3 f4 g5 g6 f7 g8 g9 g10 M) : ∃ fs, M x = some (.inr (6, fs)) := by
  obtain ⟨kf, n, wf, pw, lc, co, pa, L, -, -, -, hsta, -⟩ := h
  exact ⟨_, hsta.1⟩
set_option maxHeartbeats 4000000 in
set_option maxRecDepth 100000 in
theorem bl_withdraw {vp : Program} {ve : Env} {s : State} {vm : MethodId} {below : List Frame} {meth : Method} {vc : Code} (l : Launch) {b L : Nat} {xs : Nat → Int32} {Q : State → Prop} {D : va_G} {ct : Nat → ClassId} {base : Nat} {ad : Nat → Nat} (hlt : l.stackTraces = false) (hx : vp.tables.exec = Jvm.exec) (hb : vc.code = cL_law) (hml : vc.maxLocals = 8) (hown : s.vm.findClass "BlindMintLaw" = some vm.cls) (hts : ∀ w ∈ bm_big, w.before #[Value.ref b] s = true) (hX : va_X b L xs s s.heap) (hbl : b < s.heap.size) (hbA : ¬ bm_A base b) (hG : bm_G D ct base ad s) (x i C Sl : Nat) (hi6 : i + 6 ≤ L) (hL : L ≤ 3072) (hC : C + 3 ≤ 601024) (hSl : Sl + 30 ≤ 7293034) (th : Int32) (tr : Int32) (bl : Int64) (np : Int32) (K : Nat) (f1 f2 f3 f4 : Nat → Int32) (g5 g6 : Nat → Int64) (f7 : Nat → Int32) (g8 g9 g10 : Nat → Int64) (w : Nat → Int64) (hK512 : K < 512) {H : Heap} {locs : List Loc} {M : bm_Map} {ls : Array Slot} (hl : lv_has ls 8 [(0, .ref b), (1, .ref x), (2, .ref (x + 21)), (3, .ref (x + 39)), (4, .int (nI i))]) (hM : bm_M D base M H) (hS : va_S (bm_A base) s.heap H locs) (hB : bm_BD ct x K tr bl np f1 f2 f3 f4 g5 g6 f7 g8 g9 g10 M) (hMS : bm_MS ct (x + 21) th (tr, bl, np, K, f1, f2, f3, f4, g5, g6, f7, g8, g9, g10) M) (ho : M (x + 39) = some (.inl (ct 1, 1, .inr (.inl w)))) (next : ∀ (t1 : bm_St) (th1 : Int32) (w1 : Nat → Int64) (M1 : bm_Map) (H1 : Heap) (locs1 : List Loc) (ls1 : Array Slot), t1.2.2.2.1 ≤ K + 1 → lv_has ls1 8 [(0, .ref b), (1, .ref x), (2, .ref (x + 21)), (3, .ref (x + 39)), (4, .int (nI i))] → bm_M D base M1 H1 → va_S (bm_A base) s.heap H1 locs1 → bm_BS ct x t1 M1 → bm_MS ct (x + 21) th1 t1 M1 → M1 (x + 39) = some (.inl (ct 1, 1, .inr (.inl w1))) → W vp l ve room_1 s vm #[Value.ref b] below meth vc H1 locs1 (C + 3) (Sl + 30) Q (F0 vm 934 ls1 [])) : W vp l ve room_1 s vm #[Value.ref b] below meth vc H locs C Sl Q (F0 vm 112 ls []) := by
  obtain ⟨sz, hz⟩ : ∃ z, H.size = z := ⟨_, rfl⟩
  have hK := hG.K
  obtain ⟨k, bv, ⟨tr1, bl1, np1, K1, p1, p2, p3, p4, q5, q6, p7, q8, q9, q10⟩, ⟨K9, hK9, hK8⟩, hW, hMM⟩ := bo_withdraw l hlt D ct base ad M sz x (xs (i + 1)) (xs (i + 2)) (((xs (i + 3)).toInt64 <<< ((32 : Int32).toInt64 &&& 63)) ||| ((xs (i + 4)).toInt64 &&& 4294967295)) (xs (i + 5)) tr bl np K f1 f2 f3 f4 g5 g6 f7 g8 g9 g10 w ⟨H, hM, hz⟩ hB ho hK512
  replace hK8 : K1 = K9 := hK8
  refine lv_aload_n hx hb dL_law_112 rfl (lv_at hl 1 rfl) ?_
  refine lv_aload_n hx hb dL_law_113 rfl (lv_at hl 0 rfl) ?_
  refine lv_iload hx hb dL_law_114 (lv_at hl 4 rfl) ?_
  refine lv_iconst (v := 1) hx hb dL_law_116 (by decide) ?_
  refine lv_iadd hx hb dL_law_117 ?_
  refine lv_topi (fun t1 e_t1 => ?_)
  have e_t1 : t1 = nI (i + 1) := by rw [e_t1]; exact nI_add i 1
  subst e_t1
  refine va_sld hx hb hX hbl hbA hS (i := nI (i + 1)) (bm_ix_in (bm_ix_nI (k := i + 1) (by omega)) (by omega)) dL_law_118 ?_
  rw [show (nI (i + 1)).toNatClampNeg = i + 1 from nI_clamp (by omega)]
  refine lv_aload_n hx hb dL_law_119 rfl (lv_at hl 0 rfl) ?_
  refine lv_iload hx hb dL_law_120 (lv_at hl 4 rfl) ?_
  refine lv_iconst (v := 2) hx hb dL_law_122 (by decide) ?_
  refine lv_iadd hx hb dL_law_123 ?_
  refine lv_topi (fun t2 e_t2 => ?_)
  have e_t2 : t2 = nI (i + 2) := by rw [e_t2]; exact nI_add i 2
  subst e_t2
  refine va_sld hx hb hX hbl hbA hS (i := nI (i + 2)) (bm_ix_in (bm_ix_nI (k := i + 2) (by omega)) (by omega)) dL_law_124 ?_
  rw [show (nI (i + 2)).toNatClampNeg = i + 2 from nI_clamp (by omega)]
  refine lv_aload_n hx hb dL_law_125 rfl (lv_at hl 0 rfl) ?_
  refine lv_iload hx hb dL_law_126 (lv_at hl 4 rfl) ?_
  refine lv_iconst (v := 3) hx hb dL_law_128 (by decide) ?_
  refine lv_iadd hx hb dL_law_129 ?_
  refine lv_topi (fun t3 e_t3 => ?_)
  have e_t3 : t3 = nI (i + 3) := by rw [e_t3]; exact nI_add i 3
  subst e_t3
  refine va_sld hx hb hX hbl hbA hS (i := nI (i + 3)) (bm_ix_in (bm_ix_nI (k := i + 3) (by omega)) (by omega)) dL_law_130 ?_
  rw [show (nI (i + 3)).toNatClampNeg = i + 3 from nI_clamp (by omega)]
  refine lv_i2l hx hb dL_law_131 rfl ?_
  refine lv_bipush (v := 32) hx hb dL_law_132 (by decide) ?_
  refine lv_lshl hx hb dL_law_134 rfl ?_
  refine lv_aload_n hx hb dL_law_135 rfl (lv_at hl 0 rfl) ?_
  refine lv_iload hx hb dL_law_136 (lv_at hl 4 rfl) ?_
  refine lv_iconst (v := 4) hx hb dL_law_138 (by decide) ?_
  refine lv_iadd hx hb dL_law_139 ?_
  refine lv_topi (fun t4 e_t4 => ?_)
  have e_t4 : t4 = nI (i + 4) := by rw [e_t4]; exact nI_add i 4
  subst e_t4
  refine va_sld hx hb hX hbl hbA hS (i := nI (i + 4)) (bm_ix_in (bm_ix_nI (k := i + 4) (by omega)) (by omega)) dL_law_140 ?_
  rw [show (nI (i + 4)).toNatClampNeg = i + 4 from nI_clamp (by omega)]
  refine lv_i2l hx hb dL_law_141 rfl ?_
  refine lv_ldc2 hx hb hown (hts _ bw_833) dL_law_142 ?_
  refine lv_land hx hb dL_law_145 ?_
  refine lv_lor hx hb dL_law_146 ?_
  refine lv_aload_n hx hb dL_law_147 rfl (lv_at hl 0 rfl) ?_
  refine lv_iload hx hb dL_law_148 (lv_at hl 4 rfl) ?_
  refine lv_iconst (v := 5) hx hb dL_law_150 (by decide) ?_
  refine lv_iadd hx hb dL_law_151 ?_
  refine lv_topi (fun t5 e_t5 => ?_)
  have e_t5 : t5 = nI (i + 5) := by rw [e_t5]; exact nI_add i 5
  subst e_t5
  refine va_sld hx hb hX hbl hbA hS (i := nI (i + 5)) (bm_ix_in (bm_ix_nI (k := i + 5) (by omega)) (by omega)) dL_law_152 ?_
  rw [show (nI (i + 5)).toNatClampNeg = i + 5 from nI_clamp (by omega)]
  refine lv_aload_n hx hb dL_law_153 rfl (lv_at hl 3 rfl) ?_
  refine bm_call (bm_runSL (n := 6) (As := [.ref x, .int (xs (i + 1)), .int (xs (i + 2)), .long ((((xs (i + 3)).toInt64) <<< ((32 : Int32).toInt64 &&& 63)) ||| (((xs (i + 4)).toInt64) &&& 4294967295)), .int (xs (i + 5)), .ref (x + 39)]) (rest := []) ⟨hx, hb, hml, hown, hts⟩ hW bm_Post.ret bw_232 bw_233 bw_0 bw_234 rfl rfl (by decide +kernel) ⟨Nat.le_of_ble_eq_true rfl, Nat.le_of_ble_eq_true rfl⟩ (bm_preS hM hG hS hz) rfl rfl hl.1 rfl (lv_room (Nat.le_of_ble_eq_true rfl)) dL_law_154 ⟨Nat.le_trans (show C + 3 ≤ C + 3 by omega) hC, Nat.le_trans (show Sl + 30 ≤ Sl + 30 by omega) hSl⟩) hS (fun v9 M1 H locs hq hM hS _ => ?_)
  obtain ⟨rfl, hB1, ⟨w1, ho1, hw1⟩, hf1⟩ := hq
  clear hz
  obtain ⟨z1, hz⟩ : ∃ z, H.size = z := ⟨_, rfl⟩
  have hMS1 := bm_MS.kept hMS (fun c a9 b9 => hf1 c a9 (by omega))
  refine lv_istore hx hb dL_law_157 hl (by decide) rfl (fun ls hl => ?_)
  have hl : lv_has ls 8 [(5, .int k), (0, .ref b), (1, .ref x), (2, .ref (x + 21)), (3, .ref (x + 39)), (4, .int (nI i))] := hl
  refine lv_aload_n hx hb dL_law_159 rfl (lv_at hl 3 rfl) ?_
  refine lv_aload_n hx hb dL_law_160 rfl (lv_at hl 1 rfl) ?_
  refine lv_iload hx hb dL_law_161 (lv_at hl 5 rfl) ?_
  refine lv_iconst (v := 1) hx hb dL_law_163 (by decide) ?_
  refine lv_iadd hx hb dL_law_164 ?_
  refine lv_topi (fun t6 e_t6 => ?_)
  have e_t6 : t6 = nI (i + 1) := by rw [e_t6]; exact nI_add i 1
  subst e_t6
  refine va_sld hx hb hX hbl hbA hS (i := nI (i + 1)) (bm_ix_in (bm_ix_nI (k := i + 1) (by omega)) (by omega)) dL_law_165 ?_
  rw [show (nI (i + 1)).toNatClampNeg = i + 1 from nI_clamp (by omega)]
  refine lv_aload_n hx hb dL_law_166 rfl (lv_at hl 1 rfl) ?_
  refine lv_iload hx hb dL_law_167 (lv_at hl 5 rfl) ?_
  refine lv_iconst (v := 2) hx hb dL_law_169 (by decide) ?_
  refine lv_iadd hx hb dL_law_170 ?_
  refine lv_topi (fun t7 e_t7 => ?_)
  have e_t7 : t7 = nI (i + 2) := by rw [e_t7]; exact nI_add i 2
  subst e_t7
  refine va_sld hx hb hX hbl hbA hS (i := nI (i + 2)) (bm_ix_in (bm_ix_nI (k := i + 2) (by omega)) (by omega)) dL_law_171 ?_
  rw [show (nI (i + 2)).toNatClampNeg = i + 2 from nI_clamp (by omega)]
  refine lv_aload_n hx hb dL_law_172 rfl (lv_at hl 1 rfl) ?_
  refine lv_iload hx hb dL_law_173 (lv_at hl 5 rfl) ?_
  refine lv_iconst (v := 3) hx hb dL_law_175 (by decide) ?_
  refine lv_iadd hx hb dL_law_176 ?_
  refine lv_topi (fun t8 e_t8 => ?_)
  have e_t8 : t8 = nI (i + 3) := by rw [e_t8]; exact nI_add i 3
  subst e_t8
  refine va_sld hx hb hX hbl hbA hS (i := nI (i + 3)) (bm_ix_in (bm_ix_nI (k := i + 3) (by omega)) (by omega)) dL_law_177 ?_
  rw [show (nI (i + 3)).toNatClampNeg = i + 3 from nI_clamp (by omega)]
  refine lv_i2l hx hb dL_law_178 rfl ?_
  refine lv_bipush (v := 32) hx hb dL_law_179 (by decide) ?_
  refine lv_lshl hx hb dL_law_181 rfl ?_
  refine lv_aload_n hx hb dL_law_182 rfl (lv_at hl 1 rfl) ?_
  refine lv_iload hx hb dL_law_183 (lv_at hl 5 rfl) ?_
  refine lv_iconst (v := 4) hx hb dL_law_185 (by decide) ?_
  refine lv_iadd hx hb dL_law_186 ?_
  refine lv_topi (fun t9 e_t9 => ?_)
  have e_t9 : t9 = nI (i + 4) := by rw [e_t9]; exact nI_add i 4
  subst e_t9
  refine va_sld hx hb hX hbl hbA hS (i := nI (i + 4)) (bm_ix_in (bm_ix_nI (k := i + 4) (by omega)) (by omega)) dL_law_187 ?_
  rw [show (nI (i + 4)).toNatClampNeg = i + 4 from nI_clamp (by omega)]
  refine lv_i2l hx hb dL_law_188 rfl ?_
  refine lv_ldc2 hx hb hown (hts _ bw_833) dL_law_189 ?_
  refine lv_land hx hb dL_law_192 ?_
  refine lv_lor hx hb dL_law_193 ?_
  refine lv_aload_n hx hb dL_law_194 rfl (lv_at hl 1 rfl) ?_
  refine lv_iload hx hb dL_law_195 (lv_at hl 5 rfl) ?_
  refine lv_iconst (v := 5) hx hb dL_law_197 (by decide) ?_
  refine lv_iadd hx hb dL_law_198 ?_
  refine lv_topi (fun t10 e_t10 => ?_)
  have e_t10 : t10 = nI (i + 5) := by rw [e_t10]; exact nI_add i 5
  subst e_t10
  refine va_sld hx hb hX hbl hbA hS (i := nI (i + 5)) (bm_ix_in (bm_ix_nI (k := i + 5) (by omega)) (by omega)) dL_law_199 ?_
  rw [show (nI (i + 5)).toNatClampNeg = i + 5 from nI_clamp (by omega)]
  obtain ⟨g11, g12, g13, g14, g15, f16, g17, hP⟩ := id hMS1
  refine bm_call (va_runV (As := [.int (xs (i + 1)), .int (xs (i + 2)), .long ((((xs (i + 3)).toInt64) <<< ((32 : Int32).toInt64 &&& 63)) ||| (((xs (i + 4)).toInt64) &&& 4294967295)), .int (xs (i + 5))]) (rest := []) ⟨hx, hb, hml, hown, hts⟩ (hMM th M1 z1 hMS1) (cwV 4 hts (bm_goodV bw_675 bw_676 bw_677 bw_5 bw_678) rfl rfl rfl (by decide +kernel) ⟨Nat.le_of_ble_eq_true rfl, Nat.le_of_ble_eq_true rfl⟩) (bm_preV hM hG hS hz hP.c0 rfl) rfl rfl hl.1 rfl (lv_room (Nat.le_of_ble_eq_true rfl)) dL_law_200 ⟨Nat.le_trans (show C + 3 + 0 ≤ C + 3 by omega) hC, Nat.le_trans (show Sl + 30 + 0 ≤ Sl + 30 by omega) hSl⟩) hS (fun v9 M2 H locs hq hM hS _ => ?_)
  obtain ⟨hz, ⟨rfl, hMS2⟩, hf2⟩ := hq
  refine lv_istore hx hb dL_law_203 hl (by decide) rfl (fun ls hl => ?_)
  have hl : lv_has ls 8 [(6, .int bv), (5, .int k), (0, .ref b), (1, .ref x), (2, .ref (x + 21)), (3, .ref (x + 39)), (4, .int (nI i))] := hl
  refine lv_aload_n hx hb dL_law_205 rfl (lv_at hl 4 rfl) ?_
  obtain ⟨g11, g12, g13, g14, g15, f16, g17, hP2⟩ := id hMS2
  refine bm_call (va_runV (As := []) (rest := []) ⟨hx, hb, hml, hown, hts⟩ (bc_M_thrown l D ct base ad M2 z1 (x + 21) k tr1 bl1 np1 (nI K1) p1 p2 p3 p4 q5 q6 p7 q8 q9 q10 g11 g12 g13 g14 g15 f16 g17 hP2) (cwV 0 hts (bm_goodV bw_671 bw_672 bw_673 bw_5 bw_674) rfl rfl rfl (by decide +kernel) ⟨Nat.le_of_ble_eq_true rfl, Nat.le_of_ble_eq_true rfl⟩) (bm_preV hM hG hS hz hP2.c0 rfl) rfl rfl hl.1 rfl (lv_room (Nat.le_of_ble_eq_true rfl)) dL_law_206 ⟨Nat.le_trans (show C + 3 + 0 + 0 ≤ C + 3 by omega) hC, Nat.le_trans (show Sl + 30 + 0 + 0 ≤ Sl + 30 by omega) hSl⟩) hS (fun v9 M3 H locs hq hM hS _ => ?_)
  obtain ⟨hz, ⟨rfl, hP3⟩, hf3⟩ := hq
  have ho3 : M3 (x + 39) = some (.inl (ct 1, 1, .inr (.inl w1))) := by rw [hf3 _ (by omega), hf2 _ (by omega)]; exact ho1
  refine lv_iload hx hb dL_law_209 (lv_at hl 1 rfl) ?_
  refine lv_icmp_eq (tgt := 216) hx hb dL_law_211 rfl (fun h211 => ?_) (fun h211 => absurd rfl h211)
  refine lv_iload hx hb dL_law_216 (lv_at hl 1 rfl) ?_
  refine lv_if_ne (tgt := 233) hx hb dL_law_218 rfl (fun h218 => ?_) (fun h218 => ?_)
  · refine lv_goto (tgt := 934) hx hb dL_law_233 rfl ?_
    have hl : lv_has ls 8 [(0, .ref b), (1, .ref x), (2, .ref (x + 21)), (3, .ref (x + 39)), (4, .int (nI i))] := lv_sub hl [2, 3, 4, 5, 6] rfl
    refine W.widen (k := C + 3) (n := Sl + 30) (by omega) (by omega) ?_
    exact next (tr1, bl1, np1, K1, p1, p2, p3, p4, q5, q6, p7, q8, q9, q10) k w1 M3 H locs ls (show K1 ≤ K + 1 by omega) hl hM hS (hB1.kept (fun c hc => by rw [hf3 c (by omega), hf2 c (by omega)])) ⟨g11, g12, g13, g14, g15, f16, g17, hP3⟩ ho3
  · refine lv_aload_n hx hb dL_law_221 rfl (lv_at hl 5 rfl) ?_
    refine lv_iconst (v := 0) hx hb dL_law_222 (by decide) ?_
    refine bm_lald hx hb hK hM 1 ho3 rfl 0 (bm_ix_nI (k := 0) (by decide)) (by decide) dL_law_223 ?_
    refine lv_iload hx hb dL_law_224 (lv_at hl 0 rfl) ?_
    refine lv_i2l hx hb dL_law_226 rfl ?_
    refine W.lcmp hx hb dL_law_227 ?_
    refine lv_if_eq (tgt := 233) hx hb dL_law_228 rfl (fun h228 => ?_) (fun h228 => absurd ((lg_cmp_eq _ _).mpr (hw1 h218)) h228)
    refine lv_goto (tgt := 934) hx hb dL_law_233 rfl ?_
    have hl : lv_has ls 8 [(0, .ref b), (1, .ref x), (2, .ref (x + 21)), (3, .ref (x + 39)), (4, .int (nI i))] := lv_sub hl [2, 3, 4, 5, 6] rfl
    refine W.widen (k := C + 3) (n := Sl + 30) (by omega) (by omega) ?_
    exact next (tr1, bl1, np1, K1, p1, p2, p3, p4, q5, q6, p7, q8, q9, q10) k w1 M3 H locs ls (show K1 ≤ K + 1 by omega) hl hM hS (hB1.kept (fun c hc => by rw [hf3 c (by omega), hf2 c (by omega)])) ⟨g11, g12, g13, g14, g15, f16, g17, hP3⟩ ho3
set_option maxHeartbeats 4000000 in
set_option maxRecDepth 100000 in
theorem bl_choose {vp : Program} {ve : Env} {s : State} {vm : MethodId} {below : List Frame} {meth : Method} {vc : Code} (l : Launch) {b L : Nat} {xs : Nat → Int32} {Q : State → Prop} {D : va_G} {ct : Nat → ClassId} {base : Nat} {ad : Nat → Nat} (hlt : l.stackTraces = false) (hx : vp.tables.exec = Jvm.exec) (hb : vc.code = cL_law) (hml : vc.maxLocals = 8) (hown : s.vm.findClass "BlindMintLaw" = some vm.cls) (hts : ∀ w ∈ bm_big, w.before #[Value.ref b] s = true) (hX : va_X b L xs s s.heap) (hbl : b < s.heap.size) (hbA : ¬ bm_A base b) (hG : bm_G D ct base ad s) (x i C Sl : Nat) (hi6 : i + 6 ≤ L) (hL : L ≤ 3072) (hC : C + 3 ≤ 601024) (hSl : Sl + 30 ≤ 7293034) (th : Int32) (tr : Int32) (bl : Int64) (np : Int32) (K : Nat) (f1 f2 f3 f4 : Nat → Int32) (g5 g6 : Nat → Int64) (f7 : Nat → Int32) (g8 g9 g10 : Nat → Int64) (w : Nat → Int64) (hK512 : K < 512) {H : Heap} {locs : List Loc} {M : bm_Map} {ls : Array Slot} (hl : lv_has ls 8 [(0, .ref b), (1, .ref x), (2, .ref (x + 21)), (3, .ref (x + 39)), (4, .int (nI i))]) (hM : bm_M D base M H) (hS : va_S (bm_A base) s.heap H locs) (hB : bm_BD ct x K tr bl np f1 f2 f3 f4 g5 g6 f7 g8 g9 g10 M) (hMS : bm_MS ct (x + 21) th (tr, bl, np, K, f1, f2, f3, f4, g5, g6, f7, g8, g9, g10) M) (ho : M (x + 39) = some (.inl (ct 1, 1, .inr (.inl w)))) (next : ∀ (t1 : bm_St) (th1 : Int32) (w1 : Nat → Int64) (M1 : bm_Map) (H1 : Heap) (locs1 : List Loc) (ls1 : Array Slot), t1.2.2.2.1 ≤ K + 1 → lv_has ls1 8 [(0, .ref b), (1, .ref x), (2, .ref (x + 21)), (3, .ref (x + 39)), (4, .int (nI i))] → bm_M D base M1 H1 → va_S (bm_A base) s.heap H1 locs1 → bm_BS ct x t1 M1 → bm_MS ct (x + 21) th1 t1 M1 → M1 (x + 39) = some (.inl (ct 1, 1, .inr (.inl w1))) → W vp l ve room_1 s vm #[Value.ref b] below meth vc H1 locs1 (C + 3) (Sl + 30) Q (F0 vm 934 ls1 [])) : W vp l ve room_1 s vm #[Value.ref b] below meth vc H locs C Sl Q (F0 vm 236 ls []) := by
  obtain ⟨sz, hz⟩ : ∃ z, H.size = z := ⟨_, rfl⟩
  have hK := hG.K
  obtain ⟨k, bv, ⟨tr1, bl1, np1, K1, p1, p2, p3, p4, q5, q6, p7, q8, q9, q10⟩, ⟨K9, hK9, hK8⟩, hW, hMM⟩ := bo_choose l hlt D ct base ad M sz x (xs (i + 1)) (xs (i + 2)) tr bl np K f1 f2 f3 f4 g5 g6 f7 g8 g9 g10 w ⟨H, hM, hz⟩ hB ho hK512
  replace hK8 : K1 = K9 := hK8
  refine lv_aload_n hx hb dL_law_236 rfl (lv_at hl 1 rfl) ?_
  refine lv_aload_n hx hb dL_law_237 rfl (lv_at hl 0 rfl) ?_
  refine lv_iload hx hb dL_law_238 (lv_at hl 4 rfl) ?_
  refine lv_iconst (v := 1) hx hb dL_law_240 (by decide) ?_
  refine lv_iadd hx hb dL_law_241 ?_
  refine lv_topi (fun t1 e_t1 => ?_)
  have e_t1 : t1 = nI (i + 1) := by rw [e_t1]; exact nI_add i 1
  subst e_t1
  refine va_sld hx hb hX hbl hbA hS (i := nI (i + 1)) (bm_ix_in (bm_ix_nI (k := i + 1) (by omega)) (by omega)) dL_law_242 ?_
  rw [show (nI (i + 1)).toNatClampNeg = i + 1 from nI_clamp (by omega)]
  refine lv_aload_n hx hb dL_law_243 rfl (lv_at hl 0 rfl) ?_
  refine lv_iload hx hb dL_law_244 (lv_at hl 4 rfl) ?_
  refine lv_iconst (v := 2) hx hb dL_law_246 (by decide) ?_
  refine lv_iadd hx hb dL_law_247 ?_
  refine lv_topi (fun t2 e_t2 => ?_)
  have e_t2 : t2 = nI (i + 2) := by rw [e_t2]; exact nI_add i 2
  subst e_t2
  refine va_sld hx hb hX hbl hbA hS (i := nI (i + 2)) (bm_ix_in (bm_ix_nI (k := i + 2) (by omega)) (by omega)) dL_law_248 ?_
  rw [show (nI (i + 2)).toNatClampNeg = i + 2 from nI_clamp (by omega)]
  refine lv_aload_n hx hb dL_law_249 rfl (lv_at hl 3 rfl) ?_
  refine bm_call (bm_runSL (n := 4) (As := [.ref x, .int (xs (i + 1)), .int (xs (i + 2)), .ref (x + 39)]) (rest := []) ⟨hx, hb, hml, hown, hts⟩ hW bm_Post.ret bw_444 bw_445 bw_0 bw_446 rfl rfl (by decide +kernel) ⟨Nat.le_of_ble_eq_true rfl, Nat.le_of_ble_eq_true rfl⟩ (bm_preS hM hG hS hz) rfl rfl hl.1 rfl (lv_room (Nat.le_of_ble_eq_true rfl)) dL_law_250 ⟨Nat.le_trans (show C + 1 ≤ C + 3 by omega) hC, Nat.le_trans (show Sl + 6 ≤ Sl + 30 by omega) hSl⟩) hS (fun v9 M1 H locs hq hM hS _ => ?_)
  obtain ⟨rfl, hB1, ⟨w1, ho1, hw1⟩, hf1⟩ := hq
  clear hz
  obtain ⟨z1, hz⟩ : ∃ z, H.size = z := ⟨_, rfl⟩
  have hMS1 := bm_MS.kept hMS (fun c a9 b9 => hf1 c a9 (by omega))
  refine lv_istore hx hb dL_law_253 hl (by decide) rfl (fun ls hl => ?_)
  have hl : lv_has ls 8 [(5, .int k), (0, .ref b), (1, .ref x), (2, .ref (x + 21)), (3, .ref (x + 39)), (4, .int (nI i))] := hl
  refine lv_aload_n hx hb dL_law_255 rfl (lv_at hl 3 rfl) ?_
  refine lv_aload_n hx hb dL_law_256 rfl (lv_at hl 1 rfl) ?_
  refine lv_iload hx hb dL_law_257 (lv_at hl 5 rfl) ?_
  refine lv_iconst (v := 1) hx hb dL_law_259 (by decide) ?_
  refine lv_iadd hx hb dL_law_260 ?_
  refine lv_topi (fun t3 e_t3 => ?_)
  have e_t3 : t3 = nI (i + 1) := by rw [e_t3]; exact nI_add i 1
  subst e_t3
  refine va_sld hx hb hX hbl hbA hS (i := nI (i + 1)) (bm_ix_in (bm_ix_nI (k := i + 1) (by omega)) (by omega)) dL_law_261 ?_
  rw [show (nI (i + 1)).toNatClampNeg = i + 1 from nI_clamp (by omega)]
  refine lv_aload_n hx hb dL_law_262 rfl (lv_at hl 1 rfl) ?_
  refine lv_iload hx hb dL_law_263 (lv_at hl 5 rfl) ?_
  refine lv_iconst (v := 2) hx hb dL_law_265 (by decide) ?_
  refine lv_iadd hx hb dL_law_266 ?_
  refine lv_topi (fun t4 e_t4 => ?_)
  have e_t4 : t4 = nI (i + 2) := by rw [e_t4]; exact nI_add i 2
  subst e_t4
  refine va_sld hx hb hX hbl hbA hS (i := nI (i + 2)) (bm_ix_in (bm_ix_nI (k := i + 2) (by omega)) (by omega)) dL_law_267 ?_
  rw [show (nI (i + 2)).toNatClampNeg = i + 2 from nI_clamp (by omega)]
  obtain ⟨g11, g12, g13, g14, g15, f16, g17, hP⟩ := id hMS1
  refine bm_call (va_runV (As := [.int (xs (i + 1)), .int (xs (i + 2))]) (rest := []) ⟨hx, hb, hml, hown, hts⟩ (hMM th M1 z1 hMS1) (cwV 2 hts (bm_goodV bw_749 bw_750 bw_751 bw_5 bw_752) rfl rfl rfl (by decide +kernel) ⟨Nat.le_of_ble_eq_true rfl, Nat.le_of_ble_eq_true rfl⟩) (bm_preV hM hG hS hz hP.c0 rfl) rfl rfl hl.1 rfl (lv_room (Nat.le_of_ble_eq_true rfl)) dL_law_268 ⟨Nat.le_trans (show C + 1 + 0 ≤ C + 3 by omega) hC, Nat.le_trans (show Sl + 6 + 0 ≤ Sl + 30 by omega) hSl⟩) hS (fun v9 M2 H locs hq hM hS _ => ?_)
  obtain ⟨hz, ⟨rfl, hMS2⟩, hf2⟩ := hq
  refine lv_istore hx hb dL_law_271 hl (by decide) rfl (fun ls hl => ?_)
  have hl : lv_has ls 8 [(6, .int bv), (5, .int k), (0, .ref b), (1, .ref x), (2, .ref (x + 21)), (3, .ref (x + 39)), (4, .int (nI i))] := hl
  refine lv_aload_n hx hb dL_law_273 rfl (lv_at hl 4 rfl) ?_
  obtain ⟨g11, g12, g13, g14, g15, f16, g17, hP2⟩ := id hMS2
  refine bm_call (va_runV (As := []) (rest := []) ⟨hx, hb, hml, hown, hts⟩ (bc_M_thrown l D ct base ad M2 z1 (x + 21) k tr1 bl1 np1 (nI K1) p1 p2 p3 p4 q5 q6 p7 q8 q9 q10 g11 g12 g13 g14 g15 f16 g17 hP2) (cwV 0 hts (bm_goodV bw_671 bw_672 bw_673 bw_5 bw_674) rfl rfl rfl (by decide +kernel) ⟨Nat.le_of_ble_eq_true rfl, Nat.le_of_ble_eq_true rfl⟩) (bm_preV hM hG hS hz hP2.c0 rfl) rfl rfl hl.1 rfl (lv_room (Nat.le_of_ble_eq_true rfl)) dL_law_274 ⟨Nat.le_trans (show C + 1 + 0 + 0 ≤ C + 3 by omega) hC, Nat.le_trans (show Sl + 6 + 0 + 0 ≤ Sl + 30 by omega) hSl⟩) hS (fun v9 M3 H locs hq hM hS _ => ?_)
  obtain ⟨hz, ⟨rfl, hP3⟩, hf3⟩ := hq
  have ho3 : M3 (x + 39) = some (.inl (ct 1, 1, .inr (.inl w1))) := by rw [hf3 _ (by omega), hf2 _ (by omega)]; exact ho1
  refine lv_iload hx hb dL_law_277 (lv_at hl 1 rfl) ?_
  refine lv_icmp_eq (tgt := 284) hx hb dL_law_279 rfl (fun h279 => ?_) (fun h279 => absurd rfl h279)
  refine lv_iload hx hb dL_law_284 (lv_at hl 1 rfl) ?_
  refine lv_if_ne (tgt := 301) hx hb dL_law_286 rfl (fun h286 => ?_) (fun h286 => ?_)
  · refine lv_goto (tgt := 934) hx hb dL_law_301 rfl ?_
    have hl : lv_has ls 8 [(0, .ref b), (1, .ref x), (2, .ref (x + 21)), (3, .ref (x + 39)), (4, .int (nI i))] := lv_sub hl [2, 3, 4, 5, 6] rfl
    refine W.widen (k := C + 3) (n := Sl + 30) (by omega) (by omega) ?_
    exact next (tr1, bl1, np1, K1, p1, p2, p3, p4, q5, q6, p7, q8, q9, q10) k w1 M3 H locs ls (show K1 ≤ K + 1 by omega) hl hM hS (hB1.kept (fun c hc => by rw [hf3 c (by omega), hf2 c (by omega)])) ⟨g11, g12, g13, g14, g15, f16, g17, hP3⟩ ho3
  · refine lv_aload_n hx hb dL_law_289 rfl (lv_at hl 5 rfl) ?_
    refine lv_iconst (v := 0) hx hb dL_law_290 (by decide) ?_
    refine bm_lald hx hb hK hM 1 ho3 rfl 0 (bm_ix_nI (k := 0) (by decide)) (by decide) dL_law_291 ?_
    refine lv_iload hx hb dL_law_292 (lv_at hl 0 rfl) ?_
    refine lv_i2l hx hb dL_law_294 rfl ?_
    refine W.lcmp hx hb dL_law_295 ?_
    refine lv_if_eq (tgt := 301) hx hb dL_law_296 rfl (fun h296 => ?_) (fun h296 => absurd ((lg_cmp_eq _ _).mpr (hw1 h286)) h296)
    refine lv_goto (tgt := 934) hx hb dL_law_301 rfl ?_
    have hl : lv_has ls 8 [(0, .ref b), (1, .ref x), (2, .ref (x + 21)), (3, .ref (x + 39)), (4, .int (nI i))] := lv_sub hl [2, 3, 4, 5, 6] rfl
    refine W.widen (k := C + 3) (n := Sl + 30) (by omega) (by omega) ?_
    exact next (tr1, bl1, np1, K1, p1, p2, p3, p4, q5, q6, p7, q8, q9, q10) k w1 M3 H locs ls (show K1 ≤ K + 1 by omega) hl hM hS (hB1.kept (fun c hc => by rw [hf3 c (by omega), hf2 c (by omega)])) ⟨g11, g12, g13, g14, g15, f16, g17, hP3⟩ ho3
set_option maxHeartbeats 4000000 in
set_option maxRecDepth 100000 in
theorem bl_spend {vp : Program} {ve : Env} {s : State} {vm : MethodId} {below : List Frame} {meth : Method} {vc : Code} (l : Launch) {b L : Nat} {xs : Nat → Int32} {Q : State → Prop} {D : va_G} {ct : Nat → ClassId} {base : Nat} {ad : Nat → Nat} (hlt : l.stackTraces = false) (hx : vp.tables.exec = Jvm.exec) (hb : vc.code = cL_law) (hml : vc.maxLocals = 8) (hown : s.vm.findClass "BlindMintLaw" = some vm.cls) (hts : ∀ w ∈ bm_big, w.before #[Value.ref b] s = true) (hX : va_X b L xs s s.heap) (hbl : b < s.heap.size) (hbA : ¬ bm_A base b) (hG : bm_G D ct base ad s) (x i C Sl : Nat) (hi6 : i + 6 ≤ L) (hL : L ≤ 3072) (hC : C + 3 ≤ 601024) (hSl : Sl + 30 ≤ 7293034) (th : Int32) (tr : Int32) (bl : Int64) (np : Int32) (K : Nat) (f1 f2 f3 f4 : Nat → Int32) (g5 g6 : Nat → Int64) (f7 : Nat → Int32) (g8 g9 g10 : Nat → Int64) (w : Nat → Int64) (hK512 : K < 512) {H : Heap} {locs : List Loc} {M : bm_Map} {ls : Array Slot} (hl : lv_has ls 8 [(0, .ref b), (1, .ref x), (2, .ref (x + 21)), (3, .ref (x + 39)), (4, .int (nI i))]) (hM : bm_M D base M H) (hS : va_S (bm_A base) s.heap H locs) (hB : bm_BD ct x K tr bl np f1 f2 f3 f4 g5 g6 f7 g8 g9 g10 M) (hMS : bm_MS ct (x + 21) th (tr, bl, np, K, f1, f2, f3, f4, g5, g6, f7, g8, g9, g10) M) (ho : M (x + 39) = some (.inl (ct 1, 1, .inr (.inl w)))) (next : ∀ (t1 : bm_St) (th1 : Int32) (w1 : Nat → Int64) (M1 : bm_Map) (H1 : Heap) (locs1 : List Loc) (ls1 : Array Slot), t1.2.2.2.1 ≤ K + 1 → lv_has ls1 8 [(0, .ref b), (1, .ref x), (2, .ref (x + 21)), (3, .ref (x + 39)), (4, .int (nI i))] → bm_M D base M1 H1 → va_S (bm_A base) s.heap H1 locs1 → bm_BS ct x t1 M1 → bm_MS ct (x + 21) th1 t1 M1 → M1 (x + 39) = some (.inl (ct 1, 1, .inr (.inl w1))) → W vp l ve room_1 s vm #[Value.ref b] below meth vc H1 locs1 (C + 3) (Sl + 30) Q (F0 vm 934 ls1 [])) : W vp l ve room_1 s vm #[Value.ref b] below meth vc H locs C Sl Q (F0 vm 304 ls []) := by
  obtain ⟨sz, hz⟩ : ∃ z, H.size = z := ⟨_, rfl⟩
  have hK := hG.K
  obtain ⟨k, bv, ⟨tr1, bl1, np1, K1, p1, p2, p3, p4, q5, q6, p7, q8, q9, q10⟩, ⟨K9, hK9, hK8⟩, hW, hMM⟩ := bo_spend l hlt D ct base ad M sz x (xs (i + 1)) (xs (i + 2)) (xs (i + 3)) (xs (i + 4)) tr bl np K f1 f2 f3 f4 g5 g6 f7 g8 g9 g10 w ⟨H, hM, hz⟩ hB ho hK512
  replace hK8 : K1 = K9 := hK8
  refine lv_aload_n hx hb dL_law_304 rfl (lv_at hl 1 rfl) ?_
  refine lv_aload_n hx hb dL_law_305 rfl (lv_at hl 0 rfl) ?_
  refine lv_iload hx hb dL_law_306 (lv_at hl 4 rfl) ?_
  refine lv_iconst (v := 1) hx hb dL_law_308 (by decide) ?_
  refine lv_iadd hx hb dL_law_309 ?_
  refine lv_topi (fun t1 e_t1 => ?_)
  have e_t1 : t1 = nI (i + 1) := by rw [e_t1]; exact nI_add i 1
  subst e_t1
  refine va_sld hx hb hX hbl hbA hS (i := nI (i + 1)) (bm_ix_in (bm_ix_nI (k := i + 1) (by omega)) (by omega)) dL_law_310 ?_
  rw [show (nI (i + 1)).toNatClampNeg = i + 1 from nI_clamp (by omega)]
  refine lv_aload_n hx hb dL_law_311 rfl (lv_at hl 0 rfl) ?_
  refine lv_iload hx hb dL_law_312 (lv_at hl 4 rfl) ?_
  refine lv_iconst (v := 2) hx hb dL_law_314 (by decide) ?_
  refine lv_iadd hx hb dL_law_315 ?_
  refine lv_topi (fun t2 e_t2 => ?_)
  have e_t2 : t2 = nI (i + 2) := by rw [e_t2]; exact nI_add i 2
  subst e_t2
  refine va_sld hx hb hX hbl hbA hS (i := nI (i + 2)) (bm_ix_in (bm_ix_nI (k := i + 2) (by omega)) (by omega)) dL_law_316 ?_
  rw [show (nI (i + 2)).toNatClampNeg = i + 2 from nI_clamp (by omega)]
  refine lv_aload_n hx hb dL_law_317 rfl (lv_at hl 0 rfl) ?_
  refine lv_iload hx hb dL_law_318 (lv_at hl 4 rfl) ?_
  refine lv_iconst (v := 3) hx hb dL_law_320 (by decide) ?_
  refine lv_iadd hx hb dL_law_321 ?_
  refine lv_topi (fun t3 e_t3 => ?_)
  have e_t3 : t3 = nI (i + 3) := by rw [e_t3]; exact nI_add i 3
  subst e_t3
  refine va_sld hx hb hX hbl hbA hS (i := nI (i + 3)) (bm_ix_in (bm_ix_nI (k := i + 3) (by omega)) (by omega)) dL_law_322 ?_
  rw [show (nI (i + 3)).toNatClampNeg = i + 3 from nI_clamp (by omega)]
  refine lv_aload_n hx hb dL_law_323 rfl (lv_at hl 0 rfl) ?_
  refine lv_iload hx hb dL_law_324 (lv_at hl 4 rfl) ?_
  refine lv_iconst (v := 4) hx hb dL_law_326 (by decide) ?_
  refine lv_iadd hx hb dL_law_327 ?_
  refine lv_topi (fun t4 e_t4 => ?_)
  have e_t4 : t4 = nI (i + 4) := by rw [e_t4]; exact nI_add i 4
  subst e_t4
  refine va_sld hx hb hX hbl hbA hS (i := nI (i + 4)) (bm_ix_in (bm_ix_nI (k := i + 4) (by omega)) (by omega)) dL_law_328 ?_
  rw [show (nI (i + 4)).toNatClampNeg = i + 4 from nI_clamp (by omega)]
  refine lv_aload_n hx hb dL_law_329 rfl (lv_at hl 3 rfl) ?_
  refine bm_call (bm_runSL (n := 6) (As := [.ref x, .int (xs (i + 1)), .int (xs (i + 2)), .int (xs (i + 3)), .int (xs (i + 4)), .ref (x + 39)]) (rest := []) ⟨hx, hb, hml, hown, hts⟩ hW bm_Post.ret bw_471 bw_472 bw_0 bw_473 rfl rfl (by decide +kernel) ⟨Nat.le_of_ble_eq_true rfl, Nat.le_of_ble_eq_true rfl⟩ (bm_preS hM hG hS hz) rfl rfl hl.1 rfl (lv_room (Nat.le_of_ble_eq_true rfl)) dL_law_330 ⟨Nat.le_trans (show C + 2 ≤ C + 3 by omega) hC, Nat.le_trans (show Sl + 17 ≤ Sl + 30 by omega) hSl⟩) hS (fun v9 M1 H locs hq hM hS _ => ?_)
  obtain ⟨rfl, hB1, ⟨w1, ho1, hw1⟩, hf1⟩ := hq
  clear hz
  obtain ⟨z1, hz⟩ : ∃ z, H.size = z := ⟨_, rfl⟩
  have hMS1 := bm_MS.kept hMS (fun c a9 b9 => hf1 c a9 (by omega))
  refine lv_istore hx hb dL_law_333 hl (by decide) rfl (fun ls hl => ?_)
  have hl : lv_has ls 8 [(5, .int k), (0, .ref b), (1, .ref x), (2, .ref (x + 21)), (3, .ref (x + 39)), (4, .int (nI i))] := hl
  refine lv_aload_n hx hb dL_law_335 rfl (lv_at hl 3 rfl) ?_
  refine lv_aload_n hx hb dL_law_336 rfl (lv_at hl 1 rfl) ?_
  refine lv_iload hx hb dL_law_337 (lv_at hl 5 rfl) ?_
  refine lv_iconst (v := 1) hx hb dL_law_339 (by decide) ?_
  refine lv_iadd hx hb dL_law_340 ?_
  refine lv_topi (fun t5 e_t5 => ?_)
  have e_t5 : t5 = nI (i + 1) := by rw [e_t5]; exact nI_add i 1
  subst e_t5
  refine va_sld hx hb hX hbl hbA hS (i := nI (i + 1)) (bm_ix_in (bm_ix_nI (k := i + 1) (by omega)) (by omega)) dL_law_341 ?_
  rw [show (nI (i + 1)).toNatClampNeg = i + 1 from nI_clamp (by omega)]
  refine lv_aload_n hx hb dL_law_342 rfl (lv_at hl 1 rfl) ?_
  refine lv_iload hx hb dL_law_343 (lv_at hl 5 rfl) ?_
  refine lv_iconst (v := 2) hx hb dL_law_345 (by decide) ?_
  refine lv_iadd hx hb dL_law_346 ?_
  refine lv_topi (fun t6 e_t6 => ?_)
  have e_t6 : t6 = nI (i + 2) := by rw [e_t6]; exact nI_add i 2
  subst e_t6
  refine va_sld hx hb hX hbl hbA hS (i := nI (i + 2)) (bm_ix_in (bm_ix_nI (k := i + 2) (by omega)) (by omega)) dL_law_347 ?_
  rw [show (nI (i + 2)).toNatClampNeg = i + 2 from nI_clamp (by omega)]
  refine lv_aload_n hx hb dL_law_348 rfl (lv_at hl 1 rfl) ?_
  refine lv_iload hx hb dL_law_349 (lv_at hl 5 rfl) ?_
  refine lv_iconst (v := 3) hx hb dL_law_351 (by decide) ?_
  refine lv_iadd hx hb dL_law_352 ?_
  refine lv_topi (fun t7 e_t7 => ?_)
  have e_t7 : t7 = nI (i + 3) := by rw [e_t7]; exact nI_add i 3
  subst e_t7
  refine va_sld hx hb hX hbl hbA hS (i := nI (i + 3)) (bm_ix_in (bm_ix_nI (k := i + 3) (by omega)) (by omega)) dL_law_353 ?_
  rw [show (nI (i + 3)).toNatClampNeg = i + 3 from nI_clamp (by omega)]
  refine lv_aload_n hx hb dL_law_354 rfl (lv_at hl 1 rfl) ?_
  refine lv_iload hx hb dL_law_355 (lv_at hl 5 rfl) ?_
  refine lv_iconst (v := 4) hx hb dL_law_357 (by decide) ?_
  refine lv_iadd hx hb dL_law_358 ?_
  refine lv_topi (fun t8 e_t8 => ?_)
  have e_t8 : t8 = nI (i + 4) := by rw [e_t8]; exact nI_add i 4
  subst e_t8
  refine va_sld hx hb hX hbl hbA hS (i := nI (i + 4)) (bm_ix_in (bm_ix_nI (k := i + 4) (by omega)) (by omega)) dL_law_359 ?_
  rw [show (nI (i + 4)).toNatClampNeg = i + 4 from nI_clamp (by omega)]
  obtain ⟨g11, g12, g13, g14, g15, f16, g17, hP⟩ := id hMS1
  refine bm_call (va_runV (As := [.int (xs (i + 1)), .int (xs (i + 2)), .int (xs (i + 3)), .int (xs (i + 4))]) (rest := []) ⟨hx, hb, hml, hown, hts⟩ (hMM th M1 z1 hMS1) (cwV 4 hts (bm_goodV bw_753 bw_754 bw_755 bw_5 bw_756) rfl rfl rfl (by decide +kernel) ⟨Nat.le_of_ble_eq_true rfl, Nat.le_of_ble_eq_true rfl⟩) (bm_preV hM hG hS hz hP.c0 rfl) rfl rfl hl.1 rfl (lv_room (Nat.le_of_ble_eq_true rfl)) dL_law_360 ⟨Nat.le_trans (show C + 2 + 0 ≤ C + 3 by omega) hC, Nat.le_trans (show Sl + 17 + 0 ≤ Sl + 30 by omega) hSl⟩) hS (fun v9 M2 H locs hq hM hS _ => ?_)
  obtain ⟨hz, ⟨rfl, hMS2⟩, hf2⟩ := hq
  refine lv_istore hx hb dL_law_363 hl (by decide) rfl (fun ls hl => ?_)
  have hl : lv_has ls 8 [(6, .int bv), (5, .int k), (0, .ref b), (1, .ref x), (2, .ref (x + 21)), (3, .ref (x + 39)), (4, .int (nI i))] := hl
  refine lv_aload_n hx hb dL_law_365 rfl (lv_at hl 4 rfl) ?_
  obtain ⟨g11, g12, g13, g14, g15, f16, g17, hP2⟩ := id hMS2
  refine bm_call (va_runV (As := []) (rest := []) ⟨hx, hb, hml, hown, hts⟩ (bc_M_thrown l D ct base ad M2 z1 (x + 21) k tr1 bl1 np1 (nI K1) p1 p2 p3 p4 q5 q6 p7 q8 q9 q10 g11 g12 g13 g14 g15 f16 g17 hP2) (cwV 0 hts (bm_goodV bw_671 bw_672 bw_673 bw_5 bw_674) rfl rfl rfl (by decide +kernel) ⟨Nat.le_of_ble_eq_true rfl, Nat.le_of_ble_eq_true rfl⟩) (bm_preV hM hG hS hz hP2.c0 rfl) rfl rfl hl.1 rfl (lv_room (Nat.le_of_ble_eq_true rfl)) dL_law_366 ⟨Nat.le_trans (show C + 2 + 0 + 0 ≤ C + 3 by omega) hC, Nat.le_trans (show Sl + 17 + 0 + 0 ≤ Sl + 30 by omega) hSl⟩) hS (fun v9 M3 H locs hq hM hS _ => ?_)
  obtain ⟨hz, ⟨rfl, hP3⟩, hf3⟩ := hq
  have ho3 : M3 (x + 39) = some (.inl (ct 1, 1, .inr (.inl w1))) := by rw [hf3 _ (by omega), hf2 _ (by omega)]; exact ho1
  refine lv_iload hx hb dL_law_369 (lv_at hl 1 rfl) ?_
  refine lv_icmp_eq (tgt := 376) hx hb dL_law_371 rfl (fun h371 => ?_) (fun h371 => absurd rfl h371)
  refine lv_iload hx hb dL_law_376 (lv_at hl 1 rfl) ?_
  refine lv_if_ne (tgt := 393) hx hb dL_law_378 rfl (fun h378 => ?_) (fun h378 => ?_)
  · refine lv_goto (tgt := 934) hx hb dL_law_393 rfl ?_
    have hl : lv_has ls 8 [(0, .ref b), (1, .ref x), (2, .ref (x + 21)), (3, .ref (x + 39)), (4, .int (nI i))] := lv_sub hl [2, 3, 4, 5, 6] rfl
    refine W.widen (k := C + 3) (n := Sl + 30) (by omega) (by omega) ?_
    exact next (tr1, bl1, np1, K1, p1, p2, p3, p4, q5, q6, p7, q8, q9, q10) k w1 M3 H locs ls (show K1 ≤ K + 1 by omega) hl hM hS (hB1.kept (fun c hc => by rw [hf3 c (by omega), hf2 c (by omega)])) ⟨g11, g12, g13, g14, g15, f16, g17, hP3⟩ ho3
  · refine lv_aload_n hx hb dL_law_381 rfl (lv_at hl 5 rfl) ?_
    refine lv_iconst (v := 0) hx hb dL_law_382 (by decide) ?_
    refine bm_lald hx hb hK hM 1 ho3 rfl 0 (bm_ix_nI (k := 0) (by decide)) (by decide) dL_law_383 ?_
    refine lv_iload hx hb dL_law_384 (lv_at hl 0 rfl) ?_
    refine lv_i2l hx hb dL_law_386 rfl ?_
    refine W.lcmp hx hb dL_law_387 ?_
    refine lv_if_eq (tgt := 393) hx hb dL_law_388 rfl (fun h388 => ?_) (fun h388 => absurd ((lg_cmp_eq _ _).mpr (hw1 h378)) h388)
    refine lv_goto (tgt := 934) hx hb dL_law_393 rfl ?_
    have hl : lv_has ls 8 [(0, .ref b), (1, .ref x), (2, .ref (x + 21)), (3, .ref (x + 39)), (4, .int (nI i))] := lv_sub hl [2, 3, 4, 5, 6] rfl
    refine W.widen (k := C + 3) (n := Sl + 30) (by omega) (by omega) ?_
    exact next (tr1, bl1, np1, K1, p1, p2, p3, p4, q5, q6, p7, q8, q9, q10) k w1 M3 H locs ls (show K1 ≤ K + 1 by omega) hl hM hS (hB1.kept (fun c hc => by rw [hf3 c (by omega), hf2 c (by omega)])) ⟨g11, g12, g13, g14, g15, f16, g17, hP3⟩ ho3
set_option maxHeartbeats 4000000 in
set_option maxRecDepth 100000 in
theorem bl_tamper {vp : Program} {ve : Env} {s : State} {vm : MethodId} {below : List Frame} {meth : Method} {vc : Code} (l : Launch) {b L : Nat} {xs : Nat → Int32} {Q : State → Prop} {D : va_G} {ct : Nat → ClassId} {base : Nat} {ad : Nat → Nat} (hlt : l.stackTraces = false) (hx : vp.tables.exec = Jvm.exec) (hb : vc.code = cL_law) (hml : vc.maxLocals = 8) (hown : s.vm.findClass "BlindMintLaw" = some vm.cls) (hts : ∀ w ∈ bm_big, w.before #[Value.ref b] s = true) (hX : va_X b L xs s s.heap) (hbl : b < s.heap.size) (hbA : ¬ bm_A base b) (hG : bm_G D ct base ad s) (x i C Sl : Nat) (hi6 : i + 6 ≤ L) (hL : L ≤ 3072) (hC : C + 3 ≤ 601024) (hSl : Sl + 30 ≤ 7293034) (th : Int32) (tr : Int32) (bl : Int64) (np : Int32) (K : Nat) (f1 f2 f3 f4 : Nat → Int32) (g5 g6 : Nat → Int64) (f7 : Nat → Int32) (g8 g9 g10 : Nat → Int64) (w : Nat → Int64) (hK512 : K < 512) {H : Heap} {locs : List Loc} {M : bm_Map} {ls : Array Slot} (hl : lv_has ls 8 [(0, .ref b), (1, .ref x), (2, .ref (x + 21)), (3, .ref (x + 39)), (4, .int (nI i))]) (hM : bm_M D base M H) (hS : va_S (bm_A base) s.heap H locs) (hB : bm_BD ct x K tr bl np f1 f2 f3 f4 g5 g6 f7 g8 g9 g10 M) (hMS : bm_MS ct (x + 21) th (tr, bl, np, K, f1, f2, f3, f4, g5, g6, f7, g8, g9, g10) M) (ho : M (x + 39) = some (.inl (ct 1, 1, .inr (.inl w)))) (next : ∀ (t1 : bm_St) (th1 : Int32) (w1 : Nat → Int64) (M1 : bm_Map) (H1 : Heap) (locs1 : List Loc) (ls1 : Array Slot), t1.2.2.2.1 ≤ K + 1 → lv_has ls1 8 [(0, .ref b), (1, .ref x), (2, .ref (x + 21)), (3, .ref (x + 39)), (4, .int (nI i))] → bm_M D base M1 H1 → va_S (bm_A base) s.heap H1 locs1 → bm_BS ct x t1 M1 → bm_MS ct (x + 21) th1 t1 M1 → M1 (x + 39) = some (.inl (ct 1, 1, .inr (.inl w1))) → W vp l ve room_1 s vm #[Value.ref b] below meth vc H1 locs1 (C + 3) (Sl + 30) Q (F0 vm 934 ls1 [])) : W vp l ve room_1 s vm #[Value.ref b] below meth vc H locs C Sl Q (F0 vm 396 ls []) := by
  obtain ⟨sz, hz⟩ : ∃ z, H.size = z := ⟨_, rfl⟩
  have hK := hG.K
  obtain ⟨k, bv, ⟨tr1, bl1, np1, K1, p1, p2, p3, p4, q5, q6, p7, q8, q9, q10⟩, ⟨K9, hK9, hK8⟩, hW, hMM⟩ := bo_tamper l hlt D ct base ad M sz x (xs (i + 1)) (xs (i + 2)) (((xs (i + 3)).toInt64 <<< ((32 : Int32).toInt64 &&& 63)) ||| ((xs (i + 4)).toInt64 &&& 4294967295)) tr bl np K f1 f2 f3 f4 g5 g6 f7 g8 g9 g10 w ⟨H, hM, hz⟩ hB ho hK512
  replace hK8 : K1 = K9 := hK8
  refine lv_aload_n hx hb dL_law_396 rfl (lv_at hl 1 rfl) ?_
  refine lv_aload_n hx hb dL_law_397 rfl (lv_at hl 0 rfl) ?_
  refine lv_iload hx hb dL_law_398 (lv_at hl 4 rfl) ?_
  refine lv_iconst (v := 1) hx hb dL_law_400 (by decide) ?_
  refine lv_iadd hx hb dL_law_401 ?_
  refine lv_topi (fun t1 e_t1 => ?_)
  have e_t1 : t1 = nI (i + 1) := by rw [e_t1]; exact nI_add i 1
  subst e_t1
  refine va_sld hx hb hX hbl hbA hS (i := nI (i + 1)) (bm_ix_in (bm_ix_nI (k := i + 1) (by omega)) (by omega)) dL_law_402 ?_
  rw [show (nI (i + 1)).toNatClampNeg = i + 1 from nI_clamp (by omega)]
  refine lv_aload_n hx hb dL_law_403 rfl (lv_at hl 0 rfl) ?_
  refine lv_iload hx hb dL_law_404 (lv_at hl 4 rfl) ?_
  refine lv_iconst (v := 2) hx hb dL_law_406 (by decide) ?_
  refine lv_iadd hx hb dL_law_407 ?_
  refine lv_topi (fun t2 e_t2 => ?_)
  have e_t2 : t2 = nI (i + 2) := by rw [e_t2]; exact nI_add i 2
  subst e_t2
  refine va_sld hx hb hX hbl hbA hS (i := nI (i + 2)) (bm_ix_in (bm_ix_nI (k := i + 2) (by omega)) (by omega)) dL_law_408 ?_
  rw [show (nI (i + 2)).toNatClampNeg = i + 2 from nI_clamp (by omega)]
  refine lv_aload_n hx hb dL_law_409 rfl (lv_at hl 0 rfl) ?_
  refine lv_iload hx hb dL_law_410 (lv_at hl 4 rfl) ?_
  refine lv_iconst (v := 3) hx hb dL_law_412 (by decide) ?_
  refine lv_iadd hx hb dL_law_413 ?_
  refine lv_topi (fun t3 e_t3 => ?_)
  have e_t3 : t3 = nI (i + 3) := by rw [e_t3]; exact nI_add i 3
  subst e_t3
  refine va_sld hx hb hX hbl hbA hS (i := nI (i + 3)) (bm_ix_in (bm_ix_nI (k := i + 3) (by omega)) (by omega)) dL_law_414 ?_
  rw [show (nI (i + 3)).toNatClampNeg = i + 3 from nI_clamp (by omega)]
  refine lv_i2l hx hb dL_law_415 rfl ?_
  refine lv_bipush (v := 32) hx hb dL_law_416 (by decide) ?_
  refine lv_lshl hx hb dL_law_418 rfl ?_
  refine lv_aload_n hx hb dL_law_419 rfl (lv_at hl 0 rfl) ?_
  refine lv_iload hx hb dL_law_420 (lv_at hl 4 rfl) ?_
  refine lv_iconst (v := 4) hx hb dL_law_422 (by decide) ?_
  refine lv_iadd hx hb dL_law_423 ?_
  refine lv_topi (fun t4 e_t4 => ?_)
  have e_t4 : t4 = nI (i + 4) := by rw [e_t4]; exact nI_add i 4
  subst e_t4
  refine va_sld hx hb hX hbl hbA hS (i := nI (i + 4)) (bm_ix_in (bm_ix_nI (k := i + 4) (by omega)) (by omega)) dL_law_424 ?_
  rw [show (nI (i + 4)).toNatClampNeg = i + 4 from nI_clamp (by omega)]
  refine lv_i2l hx hb dL_law_425 rfl ?_
  refine lv_ldc2 hx hb hown (hts _ bw_833) dL_law_426 ?_
  refine lv_land hx hb dL_law_429 ?_
  refine lv_lor hx hb dL_law_430 ?_
  refine lv_aload_n hx hb dL_law_431 rfl (lv_at hl 3 rfl) ?_
  refine bm_call (bm_runSL (n := 5) (As := [.ref x, .int (xs (i + 1)), .int (xs (i + 2)), .long ((((xs (i + 3)).toInt64) <<< ((32 : Int32).toInt64 &&& 63)) ||| (((xs (i + 4)).toInt64) &&& 4294967295)), .ref (x + 39)]) (rest := []) ⟨hx, hb, hml, hown, hts⟩ hW bm_Post.ret bw_495 bw_496 bw_0 bw_497 rfl rfl (by decide +kernel) ⟨Nat.le_of_ble_eq_true rfl, Nat.le_of_ble_eq_true rfl⟩ (bm_preS hM hG hS hz) rfl rfl hl.1 rfl (lv_room (Nat.le_of_ble_eq_true rfl)) dL_law_432 ⟨Nat.le_trans (show C + 1 ≤ C + 3 by omega) hC, Nat.le_trans (show Sl + 6 ≤ Sl + 30 by omega) hSl⟩) hS (fun v9 M1 H locs hq hM hS _ => ?_)
  obtain ⟨rfl, hB1, ⟨w1, ho1, hw1⟩, hf1⟩ := hq
  clear hz
  obtain ⟨z1, hz⟩ : ∃ z, H.size = z := ⟨_, rfl⟩
  have hMS1 := bm_MS.kept hMS (fun c a9 b9 => hf1 c a9 (by omega))
  refine lv_istore hx hb dL_law_435 hl (by decide) rfl (fun ls hl => ?_)
  have hl : lv_has ls 8 [(5, .int k), (0, .ref b), (1, .ref x), (2, .ref (x + 21)), (3, .ref (x + 39)), (4, .int (nI i))] := hl
  refine lv_aload_n hx hb dL_law_437 rfl (lv_at hl 3 rfl) ?_
  refine lv_aload_n hx hb dL_law_438 rfl (lv_at hl 1 rfl) ?_
  refine lv_iload hx hb dL_law_439 (lv_at hl 5 rfl) ?_
  refine lv_iconst (v := 1) hx hb dL_law_441 (by decide) ?_
  refine lv_iadd hx hb dL_law_442 ?_
  refine lv_topi (fun t5 e_t5 => ?_)
  have e_t5 : t5 = nI (i + 1) := by rw [e_t5]; exact nI_add i 1
  subst e_t5
  refine va_sld hx hb hX hbl hbA hS (i := nI (i + 1)) (bm_ix_in (bm_ix_nI (k := i + 1) (by omega)) (by omega)) dL_law_443 ?_
  rw [show (nI (i + 1)).toNatClampNeg = i + 1 from nI_clamp (by omega)]
  refine lv_aload_n hx hb dL_law_444 rfl (lv_at hl 1 rfl) ?_
  refine lv_iload hx hb dL_law_445 (lv_at hl 5 rfl) ?_
  refine lv_iconst (v := 2) hx hb dL_law_447 (by decide) ?_
  refine lv_iadd hx hb dL_law_448 ?_
  refine lv_topi (fun t6 e_t6 => ?_)
  have e_t6 : t6 = nI (i + 2) := by rw [e_t6]; exact nI_add i 2
  subst e_t6
  refine va_sld hx hb hX hbl hbA hS (i := nI (i + 2)) (bm_ix_in (bm_ix_nI (k := i + 2) (by omega)) (by omega)) dL_law_449 ?_
  rw [show (nI (i + 2)).toNatClampNeg = i + 2 from nI_clamp (by omega)]
  refine lv_aload_n hx hb dL_law_450 rfl (lv_at hl 1 rfl) ?_
  refine lv_iload hx hb dL_law_451 (lv_at hl 5 rfl) ?_
  refine lv_iconst (v := 3) hx hb dL_law_453 (by decide) ?_
  refine lv_iadd hx hb dL_law_454 ?_
  refine lv_topi (fun t7 e_t7 => ?_)
  have e_t7 : t7 = nI (i + 3) := by rw [e_t7]; exact nI_add i 3
  subst e_t7
  refine va_sld hx hb hX hbl hbA hS (i := nI (i + 3)) (bm_ix_in (bm_ix_nI (k := i + 3) (by omega)) (by omega)) dL_law_455 ?_
  rw [show (nI (i + 3)).toNatClampNeg = i + 3 from nI_clamp (by omega)]
  refine lv_i2l hx hb dL_law_456 rfl ?_
  refine lv_bipush (v := 32) hx hb dL_law_457 (by decide) ?_
  refine lv_lshl hx hb dL_law_459 rfl ?_
  refine lv_aload_n hx hb dL_law_460 rfl (lv_at hl 1 rfl) ?_
  refine lv_iload hx hb dL_law_461 (lv_at hl 5 rfl) ?_
  refine lv_iconst (v := 4) hx hb dL_law_463 (by decide) ?_
  refine lv_iadd hx hb dL_law_464 ?_
  refine lv_topi (fun t8 e_t8 => ?_)
  have e_t8 : t8 = nI (i + 4) := by rw [e_t8]; exact nI_add i 4
  subst e_t8
  refine va_sld hx hb hX hbl hbA hS (i := nI (i + 4)) (bm_ix_in (bm_ix_nI (k := i + 4) (by omega)) (by omega)) dL_law_465 ?_
  rw [show (nI (i + 4)).toNatClampNeg = i + 4 from nI_clamp (by omega)]
  refine lv_i2l hx hb dL_law_466 rfl ?_
  refine lv_ldc2 hx hb hown (hts _ bw_833) dL_law_467 ?_
  refine lv_land hx hb dL_law_470 ?_
  refine lv_lor hx hb dL_law_471 ?_
  obtain ⟨g11, g12, g13, g14, g15, f16, g17, hP⟩ := id hMS1
  refine bm_call (va_runV (As := [.int (xs (i + 1)), .int (xs (i + 2)), .long ((((xs (i + 3)).toInt64) <<< ((32 : Int32).toInt64 &&& 63)) ||| (((xs (i + 4)).toInt64) &&& 4294967295))]) (rest := []) ⟨hx, hb, hml, hown, hts⟩ (hMM th M1 z1 hMS1) (cwV 3 hts (bm_goodV bw_764 bw_765 bw_766 bw_5 bw_767) rfl rfl rfl (by decide +kernel) ⟨Nat.le_of_ble_eq_true rfl, Nat.le_of_ble_eq_true rfl⟩) (bm_preV hM hG hS hz hP.c0 rfl) rfl rfl hl.1 rfl (lv_room (Nat.le_of_ble_eq_true rfl)) dL_law_472 ⟨Nat.le_trans (show C + 1 + 0 ≤ C + 3 by omega) hC, Nat.le_trans (show Sl + 6 + 0 ≤ Sl + 30 by omega) hSl⟩) hS (fun v9 M2 H locs hq hM hS _ => ?_)
  obtain ⟨hz, ⟨rfl, hMS2⟩, hf2⟩ := hq
  refine lv_lstore hx hb dL_law_475 hl (by decide) rfl (fun ls hl => ?_)
  have hl : lv_has ls 8 [(6, .long bv), (5, .int k), (0, .ref b), (1, .ref x), (2, .ref (x + 21)), (3, .ref (x + 39)), (4, .int (nI i))] := hl
  refine lv_aload_n hx hb dL_law_477 rfl (lv_at hl 4 rfl) ?_
  obtain ⟨g11, g12, g13, g14, g15, f16, g17, hP2⟩ := id hMS2
  refine bm_call (va_runV (As := []) (rest := []) ⟨hx, hb, hml, hown, hts⟩ (bc_M_thrown l D ct base ad M2 z1 (x + 21) k tr1 bl1 np1 (nI K1) p1 p2 p3 p4 q5 q6 p7 q8 q9 q10 g11 g12 g13 g14 g15 f16 g17 hP2) (cwV 0 hts (bm_goodV bw_671 bw_672 bw_673 bw_5 bw_674) rfl rfl rfl (by decide +kernel) ⟨Nat.le_of_ble_eq_true rfl, Nat.le_of_ble_eq_true rfl⟩) (bm_preV hM hG hS hz hP2.c0 rfl) rfl rfl hl.1 rfl (lv_room (Nat.le_of_ble_eq_true rfl)) dL_law_478 ⟨Nat.le_trans (show C + 1 + 0 + 0 ≤ C + 3 by omega) hC, Nat.le_trans (show Sl + 6 + 0 + 0 ≤ Sl + 30 by omega) hSl⟩) hS (fun v9 M3 H locs hq hM hS _ => ?_)
  obtain ⟨hz, ⟨rfl, hP3⟩, hf3⟩ := hq
  have ho3 : M3 (x + 39) = some (.inl (ct 1, 1, .inr (.inl w1))) := by rw [hf3 _ (by omega), hf2 _ (by omega)]; exact ho1
  refine lv_iload hx hb dL_law_481 (lv_at hl 1 rfl) ?_
  refine lv_icmp_eq (tgt := 488) hx hb dL_law_483 rfl (fun h483 => ?_) (fun h483 => absurd rfl h483)
  refine lv_iload hx hb dL_law_488 (lv_at hl 1 rfl) ?_
  refine lv_if_ne (tgt := 504) hx hb dL_law_490 rfl (fun h490 => ?_) (fun h490 => ?_)
  · refine lv_goto (tgt := 934) hx hb dL_law_504 rfl ?_
    have hl : lv_has ls 8 [(0, .ref b), (1, .ref x), (2, .ref (x + 21)), (3, .ref (x + 39)), (4, .int (nI i))] := lv_sub hl [2, 3, 4, 5, 6] rfl
    refine W.widen (k := C + 3) (n := Sl + 30) (by omega) (by omega) ?_
    exact next (tr1, bl1, np1, K1, p1, p2, p3, p4, q5, q6, p7, q8, q9, q10) k w1 M3 H locs ls (show K1 ≤ K + 1 by omega) hl hM hS (hB1.kept (fun c hc => by rw [hf3 c (by omega), hf2 c (by omega)])) ⟨g11, g12, g13, g14, g15, f16, g17, hP3⟩ ho3
  · refine lv_aload_n hx hb dL_law_493 rfl (lv_at hl 5 rfl) ?_
    refine lv_iconst (v := 0) hx hb dL_law_494 (by decide) ?_
    refine bm_lald hx hb hK hM 1 ho3 rfl 0 (bm_ix_nI (k := 0) (by decide)) (by decide) dL_law_495 ?_
    refine lv_lload hx hb dL_law_496 (lv_at hl 0 rfl) ?_
    refine W.lcmp hx hb dL_law_498 ?_
    refine lv_if_eq (tgt := 504) hx hb dL_law_499 rfl (fun h499 => ?_) (fun h499 => absurd ((lg_cmp_eq _ _).mpr (hw1 h490)) h499)
    refine lv_goto (tgt := 934) hx hb dL_law_504 rfl ?_
    have hl : lv_has ls 8 [(0, .ref b), (1, .ref x), (2, .ref (x + 21)), (3, .ref (x + 39)), (4, .int (nI i))] := lv_sub hl [2, 3, 4, 5, 6] rfl
    refine W.widen (k := C + 3) (n := Sl + 30) (by omega) (by omega) ?_
    exact next (tr1, bl1, np1, K1, p1, p2, p3, p4, q5, q6, p7, q8, q9, q10) k w1 M3 H locs ls (show K1 ≤ K + 1 by omega) hl hM hS (hB1.kept (fun c hc => by rw [hf3 c (by omega), hf2 c (by omega)])) ⟨g11, g12, g13, g14, g15, f16, g17, hP3⟩ ho3
set_option maxHeartbeats 4000000 in
set_option maxRecDepth 100000 in
theorem bl_number {vp : Program} {ve : Env} {s : State} {vm : MethodId} {below : List Frame} {meth : Method} {vc : Code} (l : Launch) {b L : Nat} {xs : Nat → Int32} {Q : State → Prop} {D : va_G} {ct : Nat → ClassId} {base : Nat} {ad : Nat → Nat} (hlt : l.stackTraces = false) (hx : vp.tables.exec = Jvm.exec) (hb : vc.code = cL_law) (hml : vc.maxLocals = 8) (hown : s.vm.findClass "BlindMintLaw" = some vm.cls) (hts : ∀ w ∈ bm_big, w.before #[Value.ref b] s = true) (hX : va_X b L xs s s.heap) (hbl : b < s.heap.size) (hbA : ¬ bm_A base b) (hG : bm_G D ct base ad s) (x i C Sl : Nat) (hi6 : i + 6 ≤ L) (hL : L ≤ 3072) (hC : C + 3 ≤ 601024) (hSl : Sl + 30 ≤ 7293034) (th : Int32) (tr : Int32) (bl : Int64) (np : Int32) (K : Nat) (f1 f2 f3 f4 : Nat → Int32) (g5 g6 : Nat → Int64) (f7 : Nat → Int32) (g8 g9 g10 : Nat → Int64) (w : Nat → Int64) (hK512 : K < 512) {H : Heap} {locs : List Loc} {M : bm_Map} {ls : Array Slot} (hl : lv_has ls 8 [(0, .ref b), (1, .ref x), (2, .ref (x + 21)), (3, .ref (x + 39)), (4, .int (nI i))]) (hM : bm_M D base M H) (hS : va_S (bm_A base) s.heap H locs) (hB : bm_BD ct x K tr bl np f1 f2 f3 f4 g5 g6 f7 g8 g9 g10 M) (hMS : bm_MS ct (x + 21) th (tr, bl, np, K, f1, f2, f3, f4, g5, g6, f7, g8, g9, g10) M) (ho : M (x + 39) = some (.inl (ct 1, 1, .inr (.inl w)))) (next : ∀ (t1 : bm_St) (th1 : Int32) (w1 : Nat → Int64) (M1 : bm_Map) (H1 : Heap) (locs1 : List Loc) (ls1 : Array Slot), t1.2.2.2.1 ≤ K + 1 → lv_has ls1 8 [(0, .ref b), (1, .ref x), (2, .ref (x + 21)), (3, .ref (x + 39)), (4, .int (nI i))] → bm_M D base M1 H1 → va_S (bm_A base) s.heap H1 locs1 → bm_BS ct x t1 M1 → bm_MS ct (x + 21) th1 t1 M1 → M1 (x + 39) = some (.inl (ct 1, 1, .inr (.inl w1))) → W vp l ve room_1 s vm #[Value.ref b] below meth vc H1 locs1 (C + 3) (Sl + 30) Q (F0 vm 934 ls1 [])) : W vp l ve room_1 s vm #[Value.ref b] below meth vc H locs C Sl Q (F0 vm 507 ls []) := by
  obtain ⟨sz, hz⟩ : ∃ z, H.size = z := ⟨_, rfl⟩
  have hK := hG.K
  obtain ⟨k, bv, ⟨tr1, bl1, np1, K1, p1, p2, p3, p4, q5, q6, p7, q8, q9, q10⟩, ⟨K9, hK9, hK8⟩, hW, hMM⟩ := bo_number l hlt D ct base ad M sz x (xs (i + 1)) (xs (i + 2)) tr bl np K f1 f2 f3 f4 g5 g6 f7 g8 g9 g10 w ⟨H, hM, hz⟩ hB ho hK512
  replace hK8 : K1 = K9 := hK8
  refine lv_aload_n hx hb dL_law_507 rfl (lv_at hl 1 rfl) ?_
  refine lv_aload_n hx hb dL_law_508 rfl (lv_at hl 0 rfl) ?_
  refine lv_iload hx hb dL_law_509 (lv_at hl 4 rfl) ?_
  refine lv_iconst (v := 1) hx hb dL_law_511 (by decide) ?_
  refine lv_iadd hx hb dL_law_512 ?_
  refine lv_topi (fun t1 e_t1 => ?_)
  have e_t1 : t1 = nI (i + 1) := by rw [e_t1]; exact nI_add i 1
  subst e_t1
  refine va_sld hx hb hX hbl hbA hS (i := nI (i + 1)) (bm_ix_in (bm_ix_nI (k := i + 1) (by omega)) (by omega)) dL_law_513 ?_
  rw [show (nI (i + 1)).toNatClampNeg = i + 1 from nI_clamp (by omega)]
  refine lv_aload_n hx hb dL_law_514 rfl (lv_at hl 0 rfl) ?_
  refine lv_iload hx hb dL_law_515 (lv_at hl 4 rfl) ?_
  refine lv_iconst (v := 2) hx hb dL_law_517 (by decide) ?_
  refine lv_iadd hx hb dL_law_518 ?_
  refine lv_topi (fun t2 e_t2 => ?_)
  have e_t2 : t2 = nI (i + 2) := by rw [e_t2]; exact nI_add i 2
  subst e_t2
  refine va_sld hx hb hX hbl hbA hS (i := nI (i + 2)) (bm_ix_in (bm_ix_nI (k := i + 2) (by omega)) (by omega)) dL_law_519 ?_
  rw [show (nI (i + 2)).toNatClampNeg = i + 2 from nI_clamp (by omega)]
  refine lv_aload_n hx hb dL_law_520 rfl (lv_at hl 3 rfl) ?_
  refine bm_call (bm_runSL (n := 4) (As := [.ref x, .int (xs (i + 1)), .int (xs (i + 2)), .ref (x + 39)]) (rest := []) ⟨hx, hb, hml, hown, hts⟩ hW bm_Post.ret bw_505 bw_506 bw_0 bw_507 rfl rfl (by decide +kernel) ⟨Nat.le_of_ble_eq_true rfl, Nat.le_of_ble_eq_true rfl⟩ (bm_preS hM hG hS hz) rfl rfl hl.1 rfl (lv_room (Nat.le_of_ble_eq_true rfl)) dL_law_521 ⟨Nat.le_trans (show C + 1 ≤ C + 3 by omega) hC, Nat.le_trans (show Sl + 6 ≤ Sl + 30 by omega) hSl⟩) hS (fun v9 M1 H locs hq hM hS _ => ?_)
  obtain ⟨rfl, hB1, ⟨w1, ho1, hw1⟩, hf1⟩ := hq
  clear hz
  obtain ⟨z1, hz⟩ : ∃ z, H.size = z := ⟨_, rfl⟩
  have hMS1 := bm_MS.kept hMS (fun c a9 b9 => hf1 c a9 (by omega))
  refine lv_istore hx hb dL_law_524 hl (by decide) rfl (fun ls hl => ?_)
  have hl : lv_has ls 8 [(5, .int k), (0, .ref b), (1, .ref x), (2, .ref (x + 21)), (3, .ref (x + 39)), (4, .int (nI i))] := hl
  refine lv_aload_n hx hb dL_law_526 rfl (lv_at hl 3 rfl) ?_
  refine lv_aload_n hx hb dL_law_527 rfl (lv_at hl 1 rfl) ?_
  refine lv_iload hx hb dL_law_528 (lv_at hl 5 rfl) ?_
  refine lv_iconst (v := 1) hx hb dL_law_530 (by decide) ?_
  refine lv_iadd hx hb dL_law_531 ?_
  refine lv_topi (fun t3 e_t3 => ?_)
  have e_t3 : t3 = nI (i + 1) := by rw [e_t3]; exact nI_add i 1
  subst e_t3
  refine va_sld hx hb hX hbl hbA hS (i := nI (i + 1)) (bm_ix_in (bm_ix_nI (k := i + 1) (by omega)) (by omega)) dL_law_532 ?_
  rw [show (nI (i + 1)).toNatClampNeg = i + 1 from nI_clamp (by omega)]
  refine lv_aload_n hx hb dL_law_533 rfl (lv_at hl 1 rfl) ?_
  refine lv_iload hx hb dL_law_534 (lv_at hl 5 rfl) ?_
  refine lv_iconst (v := 2) hx hb dL_law_536 (by decide) ?_
  refine lv_iadd hx hb dL_law_537 ?_
  refine lv_topi (fun t4 e_t4 => ?_)
  have e_t4 : t4 = nI (i + 2) := by rw [e_t4]; exact nI_add i 2
  subst e_t4
  refine va_sld hx hb hX hbl hbA hS (i := nI (i + 2)) (bm_ix_in (bm_ix_nI (k := i + 2) (by omega)) (by omega)) dL_law_538 ?_
  rw [show (nI (i + 2)).toNatClampNeg = i + 2 from nI_clamp (by omega)]
  obtain ⟨g11, g12, g13, g14, g15, f16, g17, hP⟩ := id hMS1
  refine bm_call (va_runV (As := [.int (xs (i + 1)), .int (xs (i + 2))]) (rest := []) ⟨hx, hb, hml, hown, hts⟩ (hMM th M1 z1 hMS1) (cwV 2 hts (bm_goodV bw_772 bw_773 bw_774 bw_5 bw_775) rfl rfl rfl (by decide +kernel) ⟨Nat.le_of_ble_eq_true rfl, Nat.le_of_ble_eq_true rfl⟩) (bm_preV hM hG hS hz hP.c0 rfl) rfl rfl hl.1 rfl (lv_room (Nat.le_of_ble_eq_true rfl)) dL_law_539 ⟨Nat.le_trans (show C + 1 + 0 ≤ C + 3 by omega) hC, Nat.le_trans (show Sl + 6 + 0 ≤ Sl + 30 by omega) hSl⟩) hS (fun v9 M2 H locs hq hM hS _ => ?_)
  obtain ⟨hz, ⟨rfl, hMS2⟩, hf2⟩ := hq
  refine lv_lstore hx hb dL_law_542 hl (by decide) rfl (fun ls hl => ?_)
  have hl : lv_has ls 8 [(6, .long bv), (5, .int k), (0, .ref b), (1, .ref x), (2, .ref (x + 21)), (3, .ref (x + 39)), (4, .int (nI i))] := hl
  refine lv_aload_n hx hb dL_law_544 rfl (lv_at hl 4 rfl) ?_
  obtain ⟨g11, g12, g13, g14, g15, f16, g17, hP2⟩ := id hMS2
  refine bm_call (va_runV (As := []) (rest := []) ⟨hx, hb, hml, hown, hts⟩ (bc_M_thrown l D ct base ad M2 z1 (x + 21) k tr1 bl1 np1 (nI K1) p1 p2 p3 p4 q5 q6 p7 q8 q9 q10 g11 g12 g13 g14 g15 f16 g17 hP2) (cwV 0 hts (bm_goodV bw_671 bw_672 bw_673 bw_5 bw_674) rfl rfl rfl (by decide +kernel) ⟨Nat.le_of_ble_eq_true rfl, Nat.le_of_ble_eq_true rfl⟩) (bm_preV hM hG hS hz hP2.c0 rfl) rfl rfl hl.1 rfl (lv_room (Nat.le_of_ble_eq_true rfl)) dL_law_545 ⟨Nat.le_trans (show C + 1 + 0 + 0 ≤ C + 3 by omega) hC, Nat.le_trans (show Sl + 6 + 0 + 0 ≤ Sl + 30 by omega) hSl⟩) hS (fun v9 M3 H locs hq hM hS _ => ?_)
  obtain ⟨hz, ⟨rfl, hP3⟩, hf3⟩ := hq
  have ho3 : M3 (x + 39) = some (.inl (ct 1, 1, .inr (.inl w1))) := by rw [hf3 _ (by omega), hf2 _ (by omega)]; exact ho1
  refine lv_iload hx hb dL_law_548 (lv_at hl 1 rfl) ?_
  refine lv_icmp_eq (tgt := 555) hx hb dL_law_550 rfl (fun h550 => ?_) (fun h550 => absurd rfl h550)
  refine lv_iload hx hb dL_law_555 (lv_at hl 1 rfl) ?_
  refine lv_if_ne (tgt := 571) hx hb dL_law_557 rfl (fun h557 => ?_) (fun h557 => ?_)
  · refine lv_goto (tgt := 934) hx hb dL_law_571 rfl ?_
    have hl : lv_has ls 8 [(0, .ref b), (1, .ref x), (2, .ref (x + 21)), (3, .ref (x + 39)), (4, .int (nI i))] := lv_sub hl [2, 3, 4, 5, 6] rfl
    refine W.widen (k := C + 3) (n := Sl + 30) (by omega) (by omega) ?_
    exact next (tr1, bl1, np1, K1, p1, p2, p3, p4, q5, q6, p7, q8, q9, q10) k w1 M3 H locs ls (show K1 ≤ K + 1 by omega) hl hM hS (hB1.kept (fun c hc => by rw [hf3 c (by omega), hf2 c (by omega)])) ⟨g11, g12, g13, g14, g15, f16, g17, hP3⟩ ho3
  · refine lv_aload_n hx hb dL_law_560 rfl (lv_at hl 5 rfl) ?_
    refine lv_iconst (v := 0) hx hb dL_law_561 (by decide) ?_
    refine bm_lald hx hb hK hM 1 ho3 rfl 0 (bm_ix_nI (k := 0) (by decide)) (by decide) dL_law_562 ?_
    refine lv_lload hx hb dL_law_563 (lv_at hl 0 rfl) ?_
    refine W.lcmp hx hb dL_law_565 ?_
    refine lv_if_eq (tgt := 571) hx hb dL_law_566 rfl (fun h566 => ?_) (fun h566 => absurd ((lg_cmp_eq _ _).mpr (hw1 h557)) h566)
    refine lv_goto (tgt := 934) hx hb dL_law_571 rfl ?_
    have hl : lv_has ls 8 [(0, .ref b), (1, .ref x), (2, .ref (x + 21)), (3, .ref (x + 39)), (4, .int (nI i))] := lv_sub hl [2, 3, 4, 5, 6] rfl
    refine W.widen (k := C + 3) (n := Sl + 30) (by omega) (by omega) ?_
    exact next (tr1, bl1, np1, K1, p1, p2, p3, p4, q5, q6, p7, q8, q9, q10) k w1 M3 H locs ls (show K1 ≤ K + 1 by omega) hl hM hS (hB1.kept (fun c hc => by rw [hf3 c (by omega), hf2 c (by omega)])) ⟨g11, g12, g13, g14, g15, f16, g17, hP3⟩ ho3
set_option maxHeartbeats 4000000 in
set_option maxRecDepth 100000 in
theorem bl_deposit {vp : Program} {ve : Env} {s : State} {vm : MethodId} {below : List Frame} {meth : Method} {vc : Code} (l : Launch) {b L : Nat} {xs : Nat → Int32} {Q : State → Prop} {D : va_G} {ct : Nat → ClassId} {base : Nat} {ad : Nat → Nat} (hlt : l.stackTraces = false) (hx : vp.tables.exec = Jvm.exec) (hb : vc.code = cL_law) (hml : vc.maxLocals = 8) (hown : s.vm.findClass "BlindMintLaw" = some vm.cls) (hts : ∀ w ∈ bm_big, w.before #[Value.ref b] s = true) (hX : va_X b L xs s s.heap) (hbl : b < s.heap.size) (hbA : ¬ bm_A base b) (hG : bm_G D ct base ad s) (x i C Sl : Nat) (hi6 : i + 6 ≤ L) (hL : L ≤ 3072) (hC : C + 3 ≤ 601024) (hSl : Sl + 30 ≤ 7293034) (th : Int32) (tr : Int32) (bl : Int64) (np : Int32) (K : Nat) (f1 f2 f3 f4 : Nat → Int32) (g5 g6 : Nat → Int64) (f7 : Nat → Int32) (g8 g9 g10 : Nat → Int64) (w : Nat → Int64) (hK512 : K < 512) {H : Heap} {locs : List Loc} {M : bm_Map} {ls : Array Slot} (hl : lv_has ls 8 [(0, .ref b), (1, .ref x), (2, .ref (x + 21)), (3, .ref (x + 39)), (4, .int (nI i))]) (hM : bm_M D base M H) (hS : va_S (bm_A base) s.heap H locs) (hB : bm_BD ct x K tr bl np f1 f2 f3 f4 g5 g6 f7 g8 g9 g10 M) (hMS : bm_MS ct (x + 21) th (tr, bl, np, K, f1, f2, f3, f4, g5, g6, f7, g8, g9, g10) M) (ho : M (x + 39) = some (.inl (ct 1, 1, .inr (.inl w)))) (next : ∀ (t1 : bm_St) (th1 : Int32) (w1 : Nat → Int64) (M1 : bm_Map) (H1 : Heap) (locs1 : List Loc) (ls1 : Array Slot), t1.2.2.2.1 ≤ K + 1 → lv_has ls1 8 [(0, .ref b), (1, .ref x), (2, .ref (x + 21)), (3, .ref (x + 39)), (4, .int (nI i))] → bm_M D base M1 H1 → va_S (bm_A base) s.heap H1 locs1 → bm_BS ct x t1 M1 → bm_MS ct (x + 21) th1 t1 M1 → M1 (x + 39) = some (.inl (ct 1, 1, .inr (.inl w1))) → W vp l ve room_1 s vm #[Value.ref b] below meth vc H1 locs1 (C + 3) (Sl + 30) Q (F0 vm 934 ls1 [])) : W vp l ve room_1 s vm #[Value.ref b] below meth vc H locs C Sl Q (F0 vm 599 ls []) := by
  obtain ⟨sz, hz⟩ : ∃ z, H.size = z := ⟨_, rfl⟩
  have hK := hG.K
  obtain ⟨k, bv, ⟨tr1, bl1, np1, K1, p1, p2, p3, p4, q5, q6, p7, q8, q9, q10⟩, ⟨K9, hK9, hK8⟩, hW, hMM⟩ := bo_deposit l hlt D ct base ad M sz x (xs (i + 1)) (xs (i + 2)) tr bl np K f1 f2 f3 f4 g5 g6 f7 g8 g9 g10 w ⟨H, hM, hz⟩ hB ho hK512
  replace hK8 : K1 = K9 := hK8
  refine lv_aload_n hx hb dL_law_599 rfl (lv_at hl 1 rfl) ?_
  refine lv_aload_n hx hb dL_law_600 rfl (lv_at hl 0 rfl) ?_
  refine lv_iload hx hb dL_law_601 (lv_at hl 4 rfl) ?_
  refine lv_iconst (v := 1) hx hb dL_law_603 (by decide) ?_
  refine lv_iadd hx hb dL_law_604 ?_
  refine lv_topi (fun t1 e_t1 => ?_)
  have e_t1 : t1 = nI (i + 1) := by rw [e_t1]; exact nI_add i 1
  subst e_t1
  refine va_sld hx hb hX hbl hbA hS (i := nI (i + 1)) (bm_ix_in (bm_ix_nI (k := i + 1) (by omega)) (by omega)) dL_law_605 ?_
  rw [show (nI (i + 1)).toNatClampNeg = i + 1 from nI_clamp (by omega)]
  refine lv_aload_n hx hb dL_law_606 rfl (lv_at hl 0 rfl) ?_
  refine lv_iload hx hb dL_law_607 (lv_at hl 4 rfl) ?_
  refine lv_iconst (v := 2) hx hb dL_law_609 (by decide) ?_
  refine lv_iadd hx hb dL_law_610 ?_
  refine lv_topi (fun t2 e_t2 => ?_)
  have e_t2 : t2 = nI (i + 2) := by rw [e_t2]; exact nI_add i 2
  subst e_t2
  refine va_sld hx hb hX hbl hbA hS (i := nI (i + 2)) (bm_ix_in (bm_ix_nI (k := i + 2) (by omega)) (by omega)) dL_law_611 ?_
  rw [show (nI (i + 2)).toNatClampNeg = i + 2 from nI_clamp (by omega)]
  refine lv_aload_n hx hb dL_law_612 rfl (lv_at hl 3 rfl) ?_
  refine bm_call (bm_runSL (n := 4) (As := [.ref x, .int (xs (i + 1)), .int (xs (i + 2)), .ref (x + 39)]) (rest := []) ⟨hx, hb, hml, hown, hts⟩ hW bm_Post.ret bw_512 bw_513 bw_0 bw_514 rfl rfl (by decide +kernel) ⟨Nat.le_of_ble_eq_true rfl, Nat.le_of_ble_eq_true rfl⟩ (bm_preS hM hG hS hz) rfl rfl hl.1 rfl (lv_room (Nat.le_of_ble_eq_true rfl)) dL_law_613 ⟨Nat.le_trans (show C + 3 ≤ C + 3 by omega) hC, Nat.le_trans (show Sl + 13 ≤ Sl + 30 by omega) hSl⟩) hS (fun v9 M1 H locs hq hM hS _ => ?_)
  obtain ⟨rfl, hB1, ⟨w1, ho1, hw1⟩, hf1⟩ := hq
  clear hz
  obtain ⟨z1, hz⟩ : ∃ z, H.size = z := ⟨_, rfl⟩
  have hMS1 := bm_MS.kept hMS (fun c a9 b9 => hf1 c a9 (by omega))
  refine lv_istore hx hb dL_law_616 hl (by decide) rfl (fun ls hl => ?_)
  have hl : lv_has ls 8 [(5, .int k), (0, .ref b), (1, .ref x), (2, .ref (x + 21)), (3, .ref (x + 39)), (4, .int (nI i))] := hl
  refine lv_aload_n hx hb dL_law_618 rfl (lv_at hl 3 rfl) ?_
  refine lv_aload_n hx hb dL_law_619 rfl (lv_at hl 1 rfl) ?_
  refine lv_iload hx hb dL_law_620 (lv_at hl 5 rfl) ?_
  refine lv_iconst (v := 1) hx hb dL_law_622 (by decide) ?_
  refine lv_iadd hx hb dL_law_623 ?_
  refine lv_topi (fun t3 e_t3 => ?_)
  have e_t3 : t3 = nI (i + 1) := by rw [e_t3]; exact nI_add i 1
  subst e_t3
  refine va_sld hx hb hX hbl hbA hS (i := nI (i + 1)) (bm_ix_in (bm_ix_nI (k := i + 1) (by omega)) (by omega)) dL_law_624 ?_
  rw [show (nI (i + 1)).toNatClampNeg = i + 1 from nI_clamp (by omega)]
  refine lv_aload_n hx hb dL_law_625 rfl (lv_at hl 1 rfl) ?_
  refine lv_iload hx hb dL_law_626 (lv_at hl 5 rfl) ?_
  refine lv_iconst (v := 2) hx hb dL_law_628 (by decide) ?_
  refine lv_iadd hx hb dL_law_629 ?_
  refine lv_topi (fun t4 e_t4 => ?_)
  have e_t4 : t4 = nI (i + 2) := by rw [e_t4]; exact nI_add i 2
  subst e_t4
  refine va_sld hx hb hX hbl hbA hS (i := nI (i + 2)) (bm_ix_in (bm_ix_nI (k := i + 2) (by omega)) (by omega)) dL_law_630 ?_
  rw [show (nI (i + 2)).toNatClampNeg = i + 2 from nI_clamp (by omega)]
  obtain ⟨g11, g12, g13, g14, g15, f16, g17, hP⟩ := id hMS1
  refine bm_call (va_runV (As := [.int (xs (i + 1)), .int (xs (i + 2))]) (rest := []) ⟨hx, hb, hml, hown, hts⟩ (hMM th M1 z1 hMS1) (cwV 2 hts (bm_goodV bw_791 bw_792 bw_793 bw_5 bw_794) rfl rfl rfl (by decide +kernel) ⟨Nat.le_of_ble_eq_true rfl, Nat.le_of_ble_eq_true rfl⟩) (bm_preV hM hG hS hz hP.c0 rfl) rfl rfl hl.1 rfl (lv_room (Nat.le_of_ble_eq_true rfl)) dL_law_631 ⟨Nat.le_trans (show C + 3 + 0 ≤ C + 3 by omega) hC, Nat.le_trans (show Sl + 13 + 0 ≤ Sl + 30 by omega) hSl⟩) hS (fun v9 M2 H locs hq hM hS _ => ?_)
  obtain ⟨hz, ⟨rfl, hMS2⟩, hf2⟩ := hq
  refine lv_istore hx hb dL_law_634 hl (by decide) rfl (fun ls hl => ?_)
  have hl : lv_has ls 8 [(6, .int bv), (5, .int k), (0, .ref b), (1, .ref x), (2, .ref (x + 21)), (3, .ref (x + 39)), (4, .int (nI i))] := hl
  refine lv_aload_n hx hb dL_law_636 rfl (lv_at hl 4 rfl) ?_
  obtain ⟨g11, g12, g13, g14, g15, f16, g17, hP2⟩ := id hMS2
  refine bm_call (va_runV (As := []) (rest := []) ⟨hx, hb, hml, hown, hts⟩ (bc_M_thrown l D ct base ad M2 z1 (x + 21) k tr1 bl1 np1 (nI K1) p1 p2 p3 p4 q5 q6 p7 q8 q9 q10 g11 g12 g13 g14 g15 f16 g17 hP2) (cwV 0 hts (bm_goodV bw_671 bw_672 bw_673 bw_5 bw_674) rfl rfl rfl (by decide +kernel) ⟨Nat.le_of_ble_eq_true rfl, Nat.le_of_ble_eq_true rfl⟩) (bm_preV hM hG hS hz hP2.c0 rfl) rfl rfl hl.1 rfl (lv_room (Nat.le_of_ble_eq_true rfl)) dL_law_637 ⟨Nat.le_trans (show C + 3 + 0 + 0 ≤ C + 3 by omega) hC, Nat.le_trans (show Sl + 13 + 0 + 0 ≤ Sl + 30 by omega) hSl⟩) hS (fun v9 M3 H locs hq hM hS _ => ?_)
  obtain ⟨hz, ⟨rfl, hP3⟩, hf3⟩ := hq
  have ho3 : M3 (x + 39) = some (.inl (ct 1, 1, .inr (.inl w1))) := by rw [hf3 _ (by omega), hf2 _ (by omega)]; exact ho1
  refine lv_iload hx hb dL_law_640 (lv_at hl 1 rfl) ?_
  refine lv_icmp_eq (tgt := 647) hx hb dL_law_642 rfl (fun h642 => ?_) (fun h642 => absurd rfl h642)
  refine lv_iload hx hb dL_law_647 (lv_at hl 1 rfl) ?_
  refine lv_if_ne (tgt := 664) hx hb dL_law_649 rfl (fun h649 => ?_) (fun h649 => ?_)
  · refine lv_goto (tgt := 934) hx hb dL_law_664 rfl ?_
    have hl : lv_has ls 8 [(0, .ref b), (1, .ref x), (2, .ref (x + 21)), (3, .ref (x + 39)), (4, .int (nI i))] := lv_sub hl [2, 3, 4, 5, 6] rfl
    refine W.widen (k := C + 3) (n := Sl + 30) (by omega) (by omega) ?_
    exact next (tr1, bl1, np1, K1, p1, p2, p3, p4, q5, q6, p7, q8, q9, q10) k w1 M3 H locs ls (show K1 ≤ K + 1 by omega) hl hM hS (hB1.kept (fun c hc => by rw [hf3 c (by omega), hf2 c (by omega)])) ⟨g11, g12, g13, g14, g15, f16, g17, hP3⟩ ho3
  · refine lv_aload_n hx hb dL_law_652 rfl (lv_at hl 5 rfl) ?_
    refine lv_iconst (v := 0) hx hb dL_law_653 (by decide) ?_
    refine bm_lald hx hb hK hM 1 ho3 rfl 0 (bm_ix_nI (k := 0) (by decide)) (by decide) dL_law_654 ?_
    refine lv_iload hx hb dL_law_655 (lv_at hl 0 rfl) ?_
    refine lv_i2l hx hb dL_law_657 rfl ?_
    refine W.lcmp hx hb dL_law_658 ?_
    refine lv_if_eq (tgt := 664) hx hb dL_law_659 rfl (fun h659 => ?_) (fun h659 => absurd ((lg_cmp_eq _ _).mpr (hw1 h649)) h659)
    refine lv_goto (tgt := 934) hx hb dL_law_664 rfl ?_
    have hl : lv_has ls 8 [(0, .ref b), (1, .ref x), (2, .ref (x + 21)), (3, .ref (x + 39)), (4, .int (nI i))] := lv_sub hl [2, 3, 4, 5, 6] rfl
    refine W.widen (k := C + 3) (n := Sl + 30) (by omega) (by omega) ?_
    exact next (tr1, bl1, np1, K1, p1, p2, p3, p4, q5, q6, p7, q8, q9, q10) k w1 M3 H locs ls (show K1 ≤ K + 1 by omega) hl hM hS (hB1.kept (fun c hc => by rw [hf3 c (by omega), hf2 c (by omega)])) ⟨g11, g12, g13, g14, g15, f16, g17, hP3⟩ ho3
set_option maxHeartbeats 4000000 in
set_option maxRecDepth 100000 in
theorem bl_balance {vp : Program} {ve : Env} {s : State} {vm : MethodId} {below : List Frame} {meth : Method} {vc : Code} (l : Launch) {b L : Nat} {xs : Nat → Int32} {Q : State → Prop} {D : va_G} {ct : Nat → ClassId} {base : Nat} {ad : Nat → Nat} (hlt : l.stackTraces = false) (hx : vp.tables.exec = Jvm.exec) (hb : vc.code = cL_law) (hml : vc.maxLocals = 8) (hown : s.vm.findClass "BlindMintLaw" = some vm.cls) (hts : ∀ w ∈ bm_big, w.before #[Value.ref b] s = true) (hX : va_X b L xs s s.heap) (hbl : b < s.heap.size) (hbA : ¬ bm_A base b) (hG : bm_G D ct base ad s) (x i C Sl : Nat) (hi6 : i + 6 ≤ L) (hL : L ≤ 3072) (hC : C + 3 ≤ 601024) (hSl : Sl + 30 ≤ 7293034) (th : Int32) (tr : Int32) (bl : Int64) (np : Int32) (K : Nat) (f1 f2 f3 f4 : Nat → Int32) (g5 g6 : Nat → Int64) (f7 : Nat → Int32) (g8 g9 g10 : Nat → Int64) (w : Nat → Int64) (hK512 : K < 512) {H : Heap} {locs : List Loc} {M : bm_Map} {ls : Array Slot} (hl : lv_has ls 8 [(0, .ref b), (1, .ref x), (2, .ref (x + 21)), (3, .ref (x + 39)), (4, .int (nI i))]) (hM : bm_M D base M H) (hS : va_S (bm_A base) s.heap H locs) (hB : bm_BD ct x K tr bl np f1 f2 f3 f4 g5 g6 f7 g8 g9 g10 M) (hMS : bm_MS ct (x + 21) th (tr, bl, np, K, f1, f2, f3, f4, g5, g6, f7, g8, g9, g10) M) (ho : M (x + 39) = some (.inl (ct 1, 1, .inr (.inl w)))) (next : ∀ (t1 : bm_St) (th1 : Int32) (w1 : Nat → Int64) (M1 : bm_Map) (H1 : Heap) (locs1 : List Loc) (ls1 : Array Slot), t1.2.2.2.1 ≤ K + 1 → lv_has ls1 8 [(0, .ref b), (1, .ref x), (2, .ref (x + 21)), (3, .ref (x + 39)), (4, .int (nI i))] → bm_M D base M1 H1 → va_S (bm_A base) s.heap H1 locs1 → bm_BS ct x t1 M1 → bm_MS ct (x + 21) th1 t1 M1 → M1 (x + 39) = some (.inl (ct 1, 1, .inr (.inl w1))) → W vp l ve room_1 s vm #[Value.ref b] below meth vc H1 locs1 (C + 3) (Sl + 30) Q (F0 vm 934 ls1 [])) : W vp l ve room_1 s vm #[Value.ref b] below meth vc H locs C Sl Q (F0 vm 680 ls []) := by
  obtain ⟨sz, hz⟩ : ∃ z, H.size = z := ⟨_, rfl⟩
  have hK := hG.K
  obtain ⟨k, bv, ⟨tr1, bl1, np1, K1, p1, p2, p3, p4, q5, q6, p7, q8, q9, q10⟩, ⟨K9, hK9, hK8⟩, hW, hMM⟩ := bo_balance l hlt D ct base ad M sz x (xs (i + 1)) tr bl np K f1 f2 f3 f4 g5 g6 f7 g8 g9 g10 w ⟨H, hM, hz⟩ hB ho hK512
  replace hK8 : K1 = K9 := hK8
  refine lv_aload_n hx hb dL_law_680 rfl (lv_at hl 1 rfl) ?_
  refine lv_aload_n hx hb dL_law_681 rfl (lv_at hl 0 rfl) ?_
  refine lv_iload hx hb dL_law_682 (lv_at hl 4 rfl) ?_
  refine lv_iconst (v := 1) hx hb dL_law_684 (by decide) ?_
  refine lv_iadd hx hb dL_law_685 ?_
  refine lv_topi (fun t1 e_t1 => ?_)
  have e_t1 : t1 = nI (i + 1) := by rw [e_t1]; exact nI_add i 1
  subst e_t1
  refine va_sld hx hb hX hbl hbA hS (i := nI (i + 1)) (bm_ix_in (bm_ix_nI (k := i + 1) (by omega)) (by omega)) dL_law_686 ?_
  rw [show (nI (i + 1)).toNatClampNeg = i + 1 from nI_clamp (by omega)]
  refine lv_aload_n hx hb dL_law_687 rfl (lv_at hl 3 rfl) ?_
  refine bm_call (bm_runSL (n := 3) (As := [.ref x, .int (xs (i + 1)), .ref (x + 39)]) (rest := []) ⟨hx, hb, hml, hown, hts⟩ hW bm_Post.ret bw_574 bw_575 bw_0 bw_576 rfl rfl (by decide +kernel) ⟨Nat.le_of_ble_eq_true rfl, Nat.le_of_ble_eq_true rfl⟩ (bm_preS hM hG hS hz) rfl rfl hl.1 rfl (lv_room (Nat.le_of_ble_eq_true rfl)) dL_law_688 ⟨Nat.le_trans (show C + 1 ≤ C + 3 by omega) hC, Nat.le_trans (show Sl + 6 ≤ Sl + 30 by omega) hSl⟩) hS (fun v9 M1 H locs hq hM hS _ => ?_)
  obtain ⟨rfl, hB1, ⟨w1, ho1, hw1⟩, hf1⟩ := hq
  clear hz
  obtain ⟨z1, hz⟩ : ∃ z, H.size = z := ⟨_, rfl⟩
  have hMS1 := bm_MS.kept hMS (fun c a9 b9 => hf1 c a9 (by omega))
  refine lv_istore hx hb dL_law_691 hl (by decide) rfl (fun ls hl => ?_)
  have hl : lv_has ls 8 [(5, .int k), (0, .ref b), (1, .ref x), (2, .ref (x + 21)), (3, .ref (x + 39)), (4, .int (nI i))] := hl
  refine lv_aload_n hx hb dL_law_693 rfl (lv_at hl 3 rfl) ?_
  refine lv_aload_n hx hb dL_law_694 rfl (lv_at hl 1 rfl) ?_
  refine lv_iload hx hb dL_law_695 (lv_at hl 5 rfl) ?_
  refine lv_iconst (v := 1) hx hb dL_law_697 (by decide) ?_
  refine lv_iadd hx hb dL_law_698 ?_
  refine lv_topi (fun t2 e_t2 => ?_)
  have e_t2 : t2 = nI (i + 1) := by rw [e_t2]; exact nI_add i 1
  subst e_t2
  refine va_sld hx hb hX hbl hbA hS (i := nI (i + 1)) (bm_ix_in (bm_ix_nI (k := i + 1) (by omega)) (by omega)) dL_law_699 ?_
  rw [show (nI (i + 1)).toNatClampNeg = i + 1 from nI_clamp (by omega)]
  obtain ⟨g11, g12, g13, g14, g15, f16, g17, hP⟩ := id hMS1
  refine bm_call (va_runV (As := [.int (xs (i + 1))]) (rest := []) ⟨hx, hb, hml, hown, hts⟩ (hMM th M1 z1 hMS1) (cwV 1 hts (bm_goodV bw_809 bw_810 bw_811 bw_5 bw_812) rfl rfl rfl (by decide +kernel) ⟨Nat.le_of_ble_eq_true rfl, Nat.le_of_ble_eq_true rfl⟩) (bm_preV hM hG hS hz hP.c0 rfl) rfl rfl hl.1 rfl (lv_room (Nat.le_of_ble_eq_true rfl)) dL_law_700 ⟨Nat.le_trans (show C + 1 + 0 ≤ C + 3 by omega) hC, Nat.le_trans (show Sl + 6 + 0 ≤ Sl + 30 by omega) hSl⟩) hS (fun v9 M2 H locs hq hM hS _ => ?_)
  obtain ⟨hz, ⟨rfl, hMS2⟩, hf2⟩ := hq
  refine lv_istore hx hb dL_law_703 hl (by decide) rfl (fun ls hl => ?_)
  have hl : lv_has ls 8 [(6, .int bv), (5, .int k), (0, .ref b), (1, .ref x), (2, .ref (x + 21)), (3, .ref (x + 39)), (4, .int (nI i))] := hl
  refine lv_aload_n hx hb dL_law_705 rfl (lv_at hl 4 rfl) ?_
  obtain ⟨g11, g12, g13, g14, g15, f16, g17, hP2⟩ := id hMS2
  refine bm_call (va_runV (As := []) (rest := []) ⟨hx, hb, hml, hown, hts⟩ (bc_M_thrown l D ct base ad M2 z1 (x + 21) k tr1 bl1 np1 (nI K1) p1 p2 p3 p4 q5 q6 p7 q8 q9 q10 g11 g12 g13 g14 g15 f16 g17 hP2) (cwV 0 hts (bm_goodV bw_671 bw_672 bw_673 bw_5 bw_674) rfl rfl rfl (by decide +kernel) ⟨Nat.le_of_ble_eq_true rfl, Nat.le_of_ble_eq_true rfl⟩) (bm_preV hM hG hS hz hP2.c0 rfl) rfl rfl hl.1 rfl (lv_room (Nat.le_of_ble_eq_true rfl)) dL_law_706 ⟨Nat.le_trans (show C + 1 + 0 + 0 ≤ C + 3 by omega) hC, Nat.le_trans (show Sl + 6 + 0 + 0 ≤ Sl + 30 by omega) hSl⟩) hS (fun v9 M3 H locs hq hM hS _ => ?_)
  obtain ⟨hz, ⟨rfl, hP3⟩, hf3⟩ := hq
  have ho3 : M3 (x + 39) = some (.inl (ct 1, 1, .inr (.inl w1))) := by rw [hf3 _ (by omega), hf2 _ (by omega)]; exact ho1
  refine lv_iload hx hb dL_law_709 (lv_at hl 1 rfl) ?_
  refine lv_icmp_eq (tgt := 716) hx hb dL_law_711 rfl (fun h711 => ?_) (fun h711 => absurd rfl h711)
  refine lv_iload hx hb dL_law_716 (lv_at hl 1 rfl) ?_
  refine lv_if_ne (tgt := 733) hx hb dL_law_718 rfl (fun h718 => ?_) (fun h718 => ?_)
  · refine lv_goto (tgt := 934) hx hb dL_law_733 rfl ?_
    have hl : lv_has ls 8 [(0, .ref b), (1, .ref x), (2, .ref (x + 21)), (3, .ref (x + 39)), (4, .int (nI i))] := lv_sub hl [2, 3, 4, 5, 6] rfl
    refine W.widen (k := C + 3) (n := Sl + 30) (by omega) (by omega) ?_
    exact next (tr1, bl1, np1, K1, p1, p2, p3, p4, q5, q6, p7, q8, q9, q10) k w1 M3 H locs ls (show K1 ≤ K + 1 by omega) hl hM hS (hB1.kept (fun c hc => by rw [hf3 c (by omega), hf2 c (by omega)])) ⟨g11, g12, g13, g14, g15, f16, g17, hP3⟩ ho3
  · refine lv_aload_n hx hb dL_law_721 rfl (lv_at hl 5 rfl) ?_
    refine lv_iconst (v := 0) hx hb dL_law_722 (by decide) ?_
    refine bm_lald hx hb hK hM 1 ho3 rfl 0 (bm_ix_nI (k := 0) (by decide)) (by decide) dL_law_723 ?_
    refine lv_iload hx hb dL_law_724 (lv_at hl 0 rfl) ?_
    refine lv_i2l hx hb dL_law_726 rfl ?_
    refine W.lcmp hx hb dL_law_727 ?_
    refine lv_if_eq (tgt := 733) hx hb dL_law_728 rfl (fun h728 => ?_) (fun h728 => absurd ((lg_cmp_eq _ _).mpr (hw1 h718)) h728)
    refine lv_goto (tgt := 934) hx hb dL_law_733 rfl ?_
    have hl : lv_has ls 8 [(0, .ref b), (1, .ref x), (2, .ref (x + 21)), (3, .ref (x + 39)), (4, .int (nI i))] := lv_sub hl [2, 3, 4, 5, 6] rfl
    refine W.widen (k := C + 3) (n := Sl + 30) (by omega) (by omega) ?_
    exact next (tr1, bl1, np1, K1, p1, p2, p3, p4, q5, q6, p7, q8, q9, q10) k w1 M3 H locs ls (show K1 ≤ K + 1 by omega) hl hM hS (hB1.kept (fun c hc => by rw [hf3 c (by omega), hf2 c (by omega)])) ⟨g11, g12, g13, g14, g15, f16, g17, hP3⟩ ho3
set_option maxHeartbeats 4000000 in
set_option maxRecDepth 100000 in
theorem bl_coin {vp : Program} {ve : Env} {s : State} {vm : MethodId} {below : List Frame} {meth : Method} {vc : Code} (l : Launch) {b L : Nat} {xs : Nat → Int32} {Q : State → Prop} {D : va_G} {ct : Nat → ClassId} {base : Nat} {ad : Nat → Nat} (hlt : l.stackTraces = false) (hx : vp.tables.exec = Jvm.exec) (hb : vc.code = cL_law) (hml : vc.maxLocals = 8) (hown : s.vm.findClass "BlindMintLaw" = some vm.cls) (hts : ∀ w ∈ bm_big, w.before #[Value.ref b] s = true) (hX : va_X b L xs s s.heap) (hbl : b < s.heap.size) (hbA : ¬ bm_A base b) (hG : bm_G D ct base ad s) (x i C Sl : Nat) (hi6 : i + 6 ≤ L) (hL : L ≤ 3072) (hC : C + 3 ≤ 601024) (hSl : Sl + 30 ≤ 7293034) (th : Int32) (tr : Int32) (bl : Int64) (np : Int32) (K : Nat) (f1 f2 f3 f4 : Nat → Int32) (g5 g6 : Nat → Int64) (f7 : Nat → Int32) (g8 g9 g10 : Nat → Int64) (w : Nat → Int64) (hK512 : K < 512) {H : Heap} {locs : List Loc} {M : bm_Map} {ls : Array Slot} (hl : lv_has ls 8 [(0, .ref b), (1, .ref x), (2, .ref (x + 21)), (3, .ref (x + 39)), (4, .int (nI i))]) (hM : bm_M D base M H) (hS : va_S (bm_A base) s.heap H locs) (hB : bm_BD ct x K tr bl np f1 f2 f3 f4 g5 g6 f7 g8 g9 g10 M) (hMS : bm_MS ct (x + 21) th (tr, bl, np, K, f1, f2, f3, f4, g5, g6, f7, g8, g9, g10) M) (ho : M (x + 39) = some (.inl (ct 1, 1, .inr (.inl w)))) (next : ∀ (t1 : bm_St) (th1 : Int32) (w1 : Nat → Int64) (M1 : bm_Map) (H1 : Heap) (locs1 : List Loc) (ls1 : Array Slot), t1.2.2.2.1 ≤ K + 1 → lv_has ls1 8 [(0, .ref b), (1, .ref x), (2, .ref (x + 21)), (3, .ref (x + 39)), (4, .int (nI i))] → bm_M D base M1 H1 → va_S (bm_A base) s.heap H1 locs1 → bm_BS ct x t1 M1 → bm_MS ct (x + 21) th1 t1 M1 → M1 (x + 39) = some (.inl (ct 1, 1, .inr (.inl w1))) → W vp l ve room_1 s vm #[Value.ref b] below meth vc H1 locs1 (C + 3) (Sl + 30) Q (F0 vm 934 ls1 [])) : W vp l ve room_1 s vm #[Value.ref b] below meth vc H locs C Sl Q (F0 vm 761 ls []) := by
  obtain ⟨sz, hz⟩ : ∃ z, H.size = z := ⟨_, rfl⟩
  have hK := hG.K
  obtain ⟨k, bv, ⟨tr1, bl1, np1, K1, p1, p2, p3, p4, q5, q6, p7, q8, q9, q10⟩, ⟨K9, hK9, hK8⟩, hW, hMM⟩ := bo_coin l hlt D ct base ad M sz x (xs (i + 1)) (xs (i + 2)) tr bl np K f1 f2 f3 f4 g5 g6 f7 g8 g9 g10 w ⟨H, hM, hz⟩ hB ho hK512
  replace hK8 : K1 = K9 := hK8
  refine lv_aload_n hx hb dL_law_761 rfl (lv_at hl 1 rfl) ?_
  refine lv_aload_n hx hb dL_law_762 rfl (lv_at hl 0 rfl) ?_
  refine lv_iload hx hb dL_law_763 (lv_at hl 4 rfl) ?_
  refine lv_iconst (v := 1) hx hb dL_law_765 (by decide) ?_
  refine lv_iadd hx hb dL_law_766 ?_
  refine lv_topi (fun t1 e_t1 => ?_)
  have e_t1 : t1 = nI (i + 1) := by rw [e_t1]; exact nI_add i 1
  subst e_t1
  refine va_sld hx hb hX hbl hbA hS (i := nI (i + 1)) (bm_ix_in (bm_ix_nI (k := i + 1) (by omega)) (by omega)) dL_law_767 ?_
  rw [show (nI (i + 1)).toNatClampNeg = i + 1 from nI_clamp (by omega)]
  refine lv_aload_n hx hb dL_law_768 rfl (lv_at hl 0 rfl) ?_
  refine lv_iload hx hb dL_law_769 (lv_at hl 4 rfl) ?_
  refine lv_iconst (v := 2) hx hb dL_law_771 (by decide) ?_
  refine lv_iadd hx hb dL_law_772 ?_
  refine lv_topi (fun t2 e_t2 => ?_)
  have e_t2 : t2 = nI (i + 2) := by rw [e_t2]; exact nI_add i 2
  subst e_t2
  refine va_sld hx hb hX hbl hbA hS (i := nI (i + 2)) (bm_ix_in (bm_ix_nI (k := i + 2) (by omega)) (by omega)) dL_law_773 ?_
  rw [show (nI (i + 2)).toNatClampNeg = i + 2 from nI_clamp (by omega)]
  refine lv_aload_n hx hb dL_law_774 rfl (lv_at hl 3 rfl) ?_
  refine bm_call (bm_runSL (n := 4) (As := [.ref x, .int (xs (i + 1)), .int (xs (i + 2)), .ref (x + 39)]) (rest := []) ⟨hx, hb, hml, hown, hts⟩ hW bm_Post.ret bw_581 bw_582 bw_0 bw_583 rfl rfl (by decide +kernel) ⟨Nat.le_of_ble_eq_true rfl, Nat.le_of_ble_eq_true rfl⟩ (bm_preS hM hG hS hz) rfl rfl hl.1 rfl (lv_room (Nat.le_of_ble_eq_true rfl)) dL_law_775 ⟨Nat.le_trans (show C + 1 ≤ C + 3 by omega) hC, Nat.le_trans (show Sl + 6 ≤ Sl + 30 by omega) hSl⟩) hS (fun v9 M1 H locs hq hM hS _ => ?_)
  obtain ⟨rfl, hB1, ⟨w1, ho1, hw1⟩, hf1⟩ := hq
  clear hz
  obtain ⟨z1, hz⟩ : ∃ z, H.size = z := ⟨_, rfl⟩
  have hMS1 := bm_MS.kept hMS (fun c a9 b9 => hf1 c a9 (by omega))
  refine lv_istore hx hb dL_law_778 hl (by decide) rfl (fun ls hl => ?_)
  have hl : lv_has ls 8 [(5, .int k), (0, .ref b), (1, .ref x), (2, .ref (x + 21)), (3, .ref (x + 39)), (4, .int (nI i))] := hl
  refine lv_aload_n hx hb dL_law_780 rfl (lv_at hl 3 rfl) ?_
  refine lv_aload_n hx hb dL_law_781 rfl (lv_at hl 1 rfl) ?_
  refine lv_iload hx hb dL_law_782 (lv_at hl 5 rfl) ?_
  refine lv_iconst (v := 1) hx hb dL_law_784 (by decide) ?_
  refine lv_iadd hx hb dL_law_785 ?_
  refine lv_topi (fun t3 e_t3 => ?_)
  have e_t3 : t3 = nI (i + 1) := by rw [e_t3]; exact nI_add i 1
  subst e_t3
  refine va_sld hx hb hX hbl hbA hS (i := nI (i + 1)) (bm_ix_in (bm_ix_nI (k := i + 1) (by omega)) (by omega)) dL_law_786 ?_
  rw [show (nI (i + 1)).toNatClampNeg = i + 1 from nI_clamp (by omega)]
  refine lv_aload_n hx hb dL_law_787 rfl (lv_at hl 1 rfl) ?_
  refine lv_iload hx hb dL_law_788 (lv_at hl 5 rfl) ?_
  refine lv_iconst (v := 2) hx hb dL_law_790 (by decide) ?_
  refine lv_iadd hx hb dL_law_791 ?_
  refine lv_topi (fun t4 e_t4 => ?_)
  have e_t4 : t4 = nI (i + 2) := by rw [e_t4]; exact nI_add i 2
  subst e_t4
  refine va_sld hx hb hX hbl hbA hS (i := nI (i + 2)) (bm_ix_in (bm_ix_nI (k := i + 2) (by omega)) (by omega)) dL_law_792 ?_
  rw [show (nI (i + 2)).toNatClampNeg = i + 2 from nI_clamp (by omega)]
  obtain ⟨g11, g12, g13, g14, g15, f16, g17, hP⟩ := id hMS1
  refine bm_call (va_runV (As := [.int (xs (i + 1)), .int (xs (i + 2))]) (rest := []) ⟨hx, hb, hml, hown, hts⟩ (hMM th M1 z1 hMS1) (cwV 2 hts (bm_goodV bw_817 bw_818 bw_819 bw_5 bw_820) rfl rfl rfl (by decide +kernel) ⟨Nat.le_of_ble_eq_true rfl, Nat.le_of_ble_eq_true rfl⟩) (bm_preV hM hG hS hz hP.c0 rfl) rfl rfl hl.1 rfl (lv_room (Nat.le_of_ble_eq_true rfl)) dL_law_793 ⟨Nat.le_trans (show C + 1 + 0 ≤ C + 3 by omega) hC, Nat.le_trans (show Sl + 6 + 0 ≤ Sl + 30 by omega) hSl⟩) hS (fun v9 M2 H locs hq hM hS _ => ?_)
  obtain ⟨hz, ⟨rfl, hMS2⟩, hf2⟩ := hq
  refine lv_lstore hx hb dL_law_796 hl (by decide) rfl (fun ls hl => ?_)
  have hl : lv_has ls 8 [(6, .long bv), (5, .int k), (0, .ref b), (1, .ref x), (2, .ref (x + 21)), (3, .ref (x + 39)), (4, .int (nI i))] := hl
  refine lv_aload_n hx hb dL_law_798 rfl (lv_at hl 4 rfl) ?_
  obtain ⟨g11, g12, g13, g14, g15, f16, g17, hP2⟩ := id hMS2
  refine bm_call (va_runV (As := []) (rest := []) ⟨hx, hb, hml, hown, hts⟩ (bc_M_thrown l D ct base ad M2 z1 (x + 21) k tr1 bl1 np1 (nI K1) p1 p2 p3 p4 q5 q6 p7 q8 q9 q10 g11 g12 g13 g14 g15 f16 g17 hP2) (cwV 0 hts (bm_goodV bw_671 bw_672 bw_673 bw_5 bw_674) rfl rfl rfl (by decide +kernel) ⟨Nat.le_of_ble_eq_true rfl, Nat.le_of_ble_eq_true rfl⟩) (bm_preV hM hG hS hz hP2.c0 rfl) rfl rfl hl.1 rfl (lv_room (Nat.le_of_ble_eq_true rfl)) dL_law_799 ⟨Nat.le_trans (show C + 1 + 0 + 0 ≤ C + 3 by omega) hC, Nat.le_trans (show Sl + 6 + 0 + 0 ≤ Sl + 30 by omega) hSl⟩) hS (fun v9 M3 H locs hq hM hS _ => ?_)
  obtain ⟨hz, ⟨rfl, hP3⟩, hf3⟩ := hq
  have ho3 : M3 (x + 39) = some (.inl (ct 1, 1, .inr (.inl w1))) := by rw [hf3 _ (by omega), hf2 _ (by omega)]; exact ho1
  refine lv_iload hx hb dL_law_802 (lv_at hl 1 rfl) ?_
  refine lv_icmp_eq (tgt := 809) hx hb dL_law_804 rfl (fun h804 => ?_) (fun h804 => absurd rfl h804)
  refine lv_iload hx hb dL_law_809 (lv_at hl 1 rfl) ?_
  refine lv_if_ne (tgt := 825) hx hb dL_law_811 rfl (fun h811 => ?_) (fun h811 => ?_)
  · refine lv_goto (tgt := 934) hx hb dL_law_825 rfl ?_
    have hl : lv_has ls 8 [(0, .ref b), (1, .ref x), (2, .ref (x + 21)), (3, .ref (x + 39)), (4, .int (nI i))] := lv_sub hl [2, 3, 4, 5, 6] rfl
    refine W.widen (k := C + 3) (n := Sl + 30) (by omega) (by omega) ?_
    exact next (tr1, bl1, np1, K1, p1, p2, p3, p4, q5, q6, p7, q8, q9, q10) k w1 M3 H locs ls (show K1 ≤ K + 1 by omega) hl hM hS (hB1.kept (fun c hc => by rw [hf3 c (by omega), hf2 c (by omega)])) ⟨g11, g12, g13, g14, g15, f16, g17, hP3⟩ ho3
  · refine lv_aload_n hx hb dL_law_814 rfl (lv_at hl 5 rfl) ?_
    refine lv_iconst (v := 0) hx hb dL_law_815 (by decide) ?_
    refine bm_lald hx hb hK hM 1 ho3 rfl 0 (bm_ix_nI (k := 0) (by decide)) (by decide) dL_law_816 ?_
    refine lv_lload hx hb dL_law_817 (lv_at hl 0 rfl) ?_
    refine W.lcmp hx hb dL_law_819 ?_
    refine lv_if_eq (tgt := 825) hx hb dL_law_820 rfl (fun h820 => ?_) (fun h820 => absurd ((lg_cmp_eq _ _).mpr (hw1 h811)) h820)
    refine lv_goto (tgt := 934) hx hb dL_law_825 rfl ?_
    have hl : lv_has ls 8 [(0, .ref b), (1, .ref x), (2, .ref (x + 21)), (3, .ref (x + 39)), (4, .int (nI i))] := lv_sub hl [2, 3, 4, 5, 6] rfl
    refine W.widen (k := C + 3) (n := Sl + 30) (by omega) (by omega) ?_
    exact next (tr1, bl1, np1, K1, p1, p2, p3, p4, q5, q6, p7, q8, q9, q10) k w1 M3 H locs ls (show K1 ≤ K + 1 by omega) hl hM hS (hB1.kept (fun c hc => by rw [hf3 c (by omega), hf2 c (by omega)])) ⟨g11, g12, g13, g14, g15, f16, g17, hP3⟩ ho3
set_option maxHeartbeats 4000000 in
set_option maxRecDepth 100000 in
theorem bl_signature {vp : Program} {ve : Env} {s : State} {vm : MethodId} {below : List Frame} {meth : Method} {vc : Code} (l : Launch) {b L : Nat} {xs : Nat → Int32} {Q : State → Prop} {D : va_G} {ct : Nat → ClassId} {base : Nat} {ad : Nat → Nat} (hlt : l.stackTraces = false) (hx : vp.tables.exec = Jvm.exec) (hb : vc.code = cL_law) (hml : vc.maxLocals = 8) (hown : s.vm.findClass "BlindMintLaw" = some vm.cls) (hts : ∀ w ∈ bm_big, w.before #[Value.ref b] s = true) (hX : va_X b L xs s s.heap) (hbl : b < s.heap.size) (hbA : ¬ bm_A base b) (hG : bm_G D ct base ad s) (x i C Sl : Nat) (hi6 : i + 6 ≤ L) (hL : L ≤ 3072) (hC : C + 3 ≤ 601024) (hSl : Sl + 30 ≤ 7293034) (th : Int32) (tr : Int32) (bl : Int64) (np : Int32) (K : Nat) (f1 f2 f3 f4 : Nat → Int32) (g5 g6 : Nat → Int64) (f7 : Nat → Int32) (g8 g9 g10 : Nat → Int64) (w : Nat → Int64) (hK512 : K < 512) {H : Heap} {locs : List Loc} {M : bm_Map} {ls : Array Slot} (hl : lv_has ls 8 [(0, .ref b), (1, .ref x), (2, .ref (x + 21)), (3, .ref (x + 39)), (4, .int (nI i))]) (hM : bm_M D base M H) (hS : va_S (bm_A base) s.heap H locs) (hB : bm_BD ct x K tr bl np f1 f2 f3 f4 g5 g6 f7 g8 g9 g10 M) (hMS : bm_MS ct (x + 21) th (tr, bl, np, K, f1, f2, f3, f4, g5, g6, f7, g8, g9, g10) M) (ho : M (x + 39) = some (.inl (ct 1, 1, .inr (.inl w)))) (next : ∀ (t1 : bm_St) (th1 : Int32) (w1 : Nat → Int64) (M1 : bm_Map) (H1 : Heap) (locs1 : List Loc) (ls1 : Array Slot), t1.2.2.2.1 ≤ K + 1 → lv_has ls1 8 [(0, .ref b), (1, .ref x), (2, .ref (x + 21)), (3, .ref (x + 39)), (4, .int (nI i))] → bm_M D base M1 H1 → va_S (bm_A base) s.heap H1 locs1 → bm_BS ct x t1 M1 → bm_MS ct (x + 21) th1 t1 M1 → M1 (x + 39) = some (.inl (ct 1, 1, .inr (.inl w1))) → W vp l ve room_1 s vm #[Value.ref b] below meth vc H1 locs1 (C + 3) (Sl + 30) Q (F0 vm 934 ls1 [])) : W vp l ve room_1 s vm #[Value.ref b] below meth vc H locs C Sl Q (F0 vm 828 ls []) := by
  obtain ⟨sz, hz⟩ : ∃ z, H.size = z := ⟨_, rfl⟩
  have hK := hG.K
  obtain ⟨k, bv, ⟨tr1, bl1, np1, K1, p1, p2, p3, p4, q5, q6, p7, q8, q9, q10⟩, ⟨K9, hK9, hK8⟩, hW, hMM⟩ := bo_signature l hlt D ct base ad M sz x (xs (i + 1)) (xs (i + 2)) tr bl np K f1 f2 f3 f4 g5 g6 f7 g8 g9 g10 w ⟨H, hM, hz⟩ hB ho hK512
  replace hK8 : K1 = K9 := hK8
  refine lv_aload_n hx hb dL_law_828 rfl (lv_at hl 1 rfl) ?_
  refine lv_aload_n hx hb dL_law_829 rfl (lv_at hl 0 rfl) ?_
  refine lv_iload hx hb dL_law_830 (lv_at hl 4 rfl) ?_
  refine lv_iconst (v := 1) hx hb dL_law_832 (by decide) ?_
  refine lv_iadd hx hb dL_law_833 ?_
  refine lv_topi (fun t1 e_t1 => ?_)
  have e_t1 : t1 = nI (i + 1) := by rw [e_t1]; exact nI_add i 1
  subst e_t1
  refine va_sld hx hb hX hbl hbA hS (i := nI (i + 1)) (bm_ix_in (bm_ix_nI (k := i + 1) (by omega)) (by omega)) dL_law_834 ?_
  rw [show (nI (i + 1)).toNatClampNeg = i + 1 from nI_clamp (by omega)]
  refine lv_aload_n hx hb dL_law_835 rfl (lv_at hl 0 rfl) ?_
  refine lv_iload hx hb dL_law_836 (lv_at hl 4 rfl) ?_
  refine lv_iconst (v := 2) hx hb dL_law_838 (by decide) ?_
  refine lv_iadd hx hb dL_law_839 ?_
  refine lv_topi (fun t2 e_t2 => ?_)
  have e_t2 : t2 = nI (i + 2) := by rw [e_t2]; exact nI_add i 2
  subst e_t2
  refine va_sld hx hb hX hbl hbA hS (i := nI (i + 2)) (bm_ix_in (bm_ix_nI (k := i + 2) (by omega)) (by omega)) dL_law_840 ?_
  rw [show (nI (i + 2)).toNatClampNeg = i + 2 from nI_clamp (by omega)]
  refine lv_aload_n hx hb dL_law_841 rfl (lv_at hl 3 rfl) ?_
  refine bm_call (bm_runSL (n := 4) (As := [.ref x, .int (xs (i + 1)), .int (xs (i + 2)), .ref (x + 39)]) (rest := []) ⟨hx, hb, hml, hown, hts⟩ hW bm_Post.ret bw_588 bw_589 bw_0 bw_590 rfl rfl (by decide +kernel) ⟨Nat.le_of_ble_eq_true rfl, Nat.le_of_ble_eq_true rfl⟩ (bm_preS hM hG hS hz) rfl rfl hl.1 rfl (lv_room (Nat.le_of_ble_eq_true rfl)) dL_law_842 ⟨Nat.le_trans (show C + 1 ≤ C + 3 by omega) hC, Nat.le_trans (show Sl + 6 ≤ Sl + 30 by omega) hSl⟩) hS (fun v9 M1 H locs hq hM hS _ => ?_)
  obtain ⟨rfl, hB1, ⟨w1, ho1, hw1⟩, hf1⟩ := hq
  clear hz
  obtain ⟨z1, hz⟩ : ∃ z, H.size = z := ⟨_, rfl⟩
  have hMS1 := bm_MS.kept hMS (fun c a9 b9 => hf1 c a9 (by omega))
  refine lv_istore hx hb dL_law_845 hl (by decide) rfl (fun ls hl => ?_)
  have hl : lv_has ls 8 [(5, .int k), (0, .ref b), (1, .ref x), (2, .ref (x + 21)), (3, .ref (x + 39)), (4, .int (nI i))] := hl
  refine lv_aload_n hx hb dL_law_847 rfl (lv_at hl 3 rfl) ?_
  refine lv_aload_n hx hb dL_law_848 rfl (lv_at hl 1 rfl) ?_
  refine lv_iload hx hb dL_law_849 (lv_at hl 5 rfl) ?_
  refine lv_iconst (v := 1) hx hb dL_law_851 (by decide) ?_
  refine lv_iadd hx hb dL_law_852 ?_
  refine lv_topi (fun t3 e_t3 => ?_)
  have e_t3 : t3 = nI (i + 1) := by rw [e_t3]; exact nI_add i 1
  subst e_t3
  refine va_sld hx hb hX hbl hbA hS (i := nI (i + 1)) (bm_ix_in (bm_ix_nI (k := i + 1) (by omega)) (by omega)) dL_law_853 ?_
  rw [show (nI (i + 1)).toNatClampNeg = i + 1 from nI_clamp (by omega)]
  refine lv_aload_n hx hb dL_law_854 rfl (lv_at hl 1 rfl) ?_
  refine lv_iload hx hb dL_law_855 (lv_at hl 5 rfl) ?_
  refine lv_iconst (v := 2) hx hb dL_law_857 (by decide) ?_
  refine lv_iadd hx hb dL_law_858 ?_
  refine lv_topi (fun t4 e_t4 => ?_)
  have e_t4 : t4 = nI (i + 2) := by rw [e_t4]; exact nI_add i 2
  subst e_t4
  refine va_sld hx hb hX hbl hbA hS (i := nI (i + 2)) (bm_ix_in (bm_ix_nI (k := i + 2) (by omega)) (by omega)) dL_law_859 ?_
  rw [show (nI (i + 2)).toNatClampNeg = i + 2 from nI_clamp (by omega)]
  obtain ⟨g11, g12, g13, g14, g15, f16, g17, hP⟩ := id hMS1
  refine bm_call (va_runV (As := [.int (xs (i + 1)), .int (xs (i + 2))]) (rest := []) ⟨hx, hb, hml, hown, hts⟩ (hMM th M1 z1 hMS1) (cwV 2 hts (bm_goodV bw_821 bw_822 bw_823 bw_5 bw_824) rfl rfl rfl (by decide +kernel) ⟨Nat.le_of_ble_eq_true rfl, Nat.le_of_ble_eq_true rfl⟩) (bm_preV hM hG hS hz hP.c0 rfl) rfl rfl hl.1 rfl (lv_room (Nat.le_of_ble_eq_true rfl)) dL_law_860 ⟨Nat.le_trans (show C + 1 + 0 ≤ C + 3 by omega) hC, Nat.le_trans (show Sl + 6 + 0 ≤ Sl + 30 by omega) hSl⟩) hS (fun v9 M2 H locs hq hM hS _ => ?_)
  obtain ⟨hz, ⟨rfl, hMS2⟩, hf2⟩ := hq
  refine lv_lstore hx hb dL_law_863 hl (by decide) rfl (fun ls hl => ?_)
  have hl : lv_has ls 8 [(6, .long bv), (5, .int k), (0, .ref b), (1, .ref x), (2, .ref (x + 21)), (3, .ref (x + 39)), (4, .int (nI i))] := hl
  refine lv_aload_n hx hb dL_law_865 rfl (lv_at hl 4 rfl) ?_
  obtain ⟨g11, g12, g13, g14, g15, f16, g17, hP2⟩ := id hMS2
  refine bm_call (va_runV (As := []) (rest := []) ⟨hx, hb, hml, hown, hts⟩ (bc_M_thrown l D ct base ad M2 z1 (x + 21) k tr1 bl1 np1 (nI K1) p1 p2 p3 p4 q5 q6 p7 q8 q9 q10 g11 g12 g13 g14 g15 f16 g17 hP2) (cwV 0 hts (bm_goodV bw_671 bw_672 bw_673 bw_5 bw_674) rfl rfl rfl (by decide +kernel) ⟨Nat.le_of_ble_eq_true rfl, Nat.le_of_ble_eq_true rfl⟩) (bm_preV hM hG hS hz hP2.c0 rfl) rfl rfl hl.1 rfl (lv_room (Nat.le_of_ble_eq_true rfl)) dL_law_866 ⟨Nat.le_trans (show C + 1 + 0 + 0 ≤ C + 3 by omega) hC, Nat.le_trans (show Sl + 6 + 0 + 0 ≤ Sl + 30 by omega) hSl⟩) hS (fun v9 M3 H locs hq hM hS _ => ?_)
  obtain ⟨hz, ⟨rfl, hP3⟩, hf3⟩ := hq
  have ho3 : M3 (x + 39) = some (.inl (ct 1, 1, .inr (.inl w1))) := by rw [hf3 _ (by omega), hf2 _ (by omega)]; exact ho1
  refine lv_iload hx hb dL_law_869 (lv_at hl 1 rfl) ?_
  refine lv_icmp_eq (tgt := 876) hx hb dL_law_871 rfl (fun h871 => ?_) (fun h871 => absurd rfl h871)
  refine lv_iload hx hb dL_law_876 (lv_at hl 1 rfl) ?_
  refine lv_if_ne (tgt := 892) hx hb dL_law_878 rfl (fun h878 => ?_) (fun h878 => ?_)
  · refine lv_goto (tgt := 934) hx hb dL_law_892 rfl ?_
    have hl : lv_has ls 8 [(0, .ref b), (1, .ref x), (2, .ref (x + 21)), (3, .ref (x + 39)), (4, .int (nI i))] := lv_sub hl [2, 3, 4, 5, 6] rfl
    refine W.widen (k := C + 3) (n := Sl + 30) (by omega) (by omega) ?_
    exact next (tr1, bl1, np1, K1, p1, p2, p3, p4, q5, q6, p7, q8, q9, q10) k w1 M3 H locs ls (show K1 ≤ K + 1 by omega) hl hM hS (hB1.kept (fun c hc => by rw [hf3 c (by omega), hf2 c (by omega)])) ⟨g11, g12, g13, g14, g15, f16, g17, hP3⟩ ho3
  · refine lv_aload_n hx hb dL_law_881 rfl (lv_at hl 5 rfl) ?_
    refine lv_iconst (v := 0) hx hb dL_law_882 (by decide) ?_
    refine bm_lald hx hb hK hM 1 ho3 rfl 0 (bm_ix_nI (k := 0) (by decide)) (by decide) dL_law_883 ?_
    refine lv_lload hx hb dL_law_884 (lv_at hl 0 rfl) ?_
    refine W.lcmp hx hb dL_law_886 ?_
    refine lv_if_eq (tgt := 892) hx hb dL_law_887 rfl (fun h887 => ?_) (fun h887 => absurd ((lg_cmp_eq _ _).mpr (hw1 h878)) h887)
    refine lv_goto (tgt := 934) hx hb dL_law_892 rfl ?_
    have hl : lv_has ls 8 [(0, .ref b), (1, .ref x), (2, .ref (x + 21)), (3, .ref (x + 39)), (4, .int (nI i))] := lv_sub hl [2, 3, 4, 5, 6] rfl
    refine W.widen (k := C + 3) (n := Sl + 30) (by omega) (by omega) ?_
    exact next (tr1, bl1, np1, K1, p1, p2, p3, p4, q5, q6, p7, q8, q9, q10) k w1 M3 H locs ls (show K1 ≤ K + 1 by omega) hl hM hS (hB1.kept (fun c hc => by rw [hf3 c (by omega), hf2 c (by omega)])) ⟨g11, g12, g13, g14, g15, f16, g17, hP3⟩ ho3
set_option maxHeartbeats 4000000 in
set_option maxRecDepth 100000 in
theorem bl_good {vp : Program} {ve : Env} {s : State} {vm : MethodId} {below : List Frame} {meth : Method} {vc : Code} (l : Launch) {b L : Nat} {xs : Nat → Int32} {Q : State → Prop} {D : va_G} {ct : Nat → ClassId} {base : Nat} {ad : Nat → Nat} (hlt : l.stackTraces = false) (hx : vp.tables.exec = Jvm.exec) (hb : vc.code = cL_law) (hml : vc.maxLocals = 8) (hown : s.vm.findClass "BlindMintLaw" = some vm.cls) (hts : ∀ w ∈ bm_big, w.before #[Value.ref b] s = true) (hX : va_X b L xs s s.heap) (hbl : b < s.heap.size) (hbA : ¬ bm_A base b) (hG : bm_G D ct base ad s) (x i C Sl : Nat) (hi6 : i + 6 ≤ L) (hL : L ≤ 3072) (hC : C + 3 ≤ 601024) (hSl : Sl + 30 ≤ 7293034) (th : Int32) (tr : Int32) (bl : Int64) (np : Int32) (K : Nat) (f1 f2 f3 f4 : Nat → Int32) (g5 g6 : Nat → Int64) (f7 : Nat → Int32) (g8 g9 g10 : Nat → Int64) (w : Nat → Int64) (hK512 : K < 512) {H : Heap} {locs : List Loc} {M : bm_Map} {ls : Array Slot} (hl : lv_has ls 8 [(0, .ref b), (1, .ref x), (2, .ref (x + 21)), (3, .ref (x + 39)), (4, .int (nI i))]) (hM : bm_M D base M H) (hS : va_S (bm_A base) s.heap H locs) (hB : bm_BD ct x K tr bl np f1 f2 f3 f4 g5 g6 f7 g8 g9 g10 M) (hMS : bm_MS ct (x + 21) th (tr, bl, np, K, f1, f2, f3, f4, g5, g6, f7, g8, g9, g10) M) (ho : M (x + 39) = some (.inl (ct 1, 1, .inr (.inl w)))) (next : ∀ (t1 : bm_St) (th1 : Int32) (w1 : Nat → Int64) (M1 : bm_Map) (H1 : Heap) (locs1 : List Loc) (ls1 : Array Slot), t1.2.2.2.1 ≤ K + 1 → lv_has ls1 8 [(0, .ref b), (1, .ref x), (2, .ref (x + 21)), (3, .ref (x + 39)), (4, .int (nI i))] → bm_M D base M1 H1 → va_S (bm_A base) s.heap H1 locs1 → bm_BS ct x t1 M1 → bm_MS ct (x + 21) th1 t1 M1 → M1 (x + 39) = some (.inl (ct 1, 1, .inr (.inl w1))) → W vp l ve room_1 s vm #[Value.ref b] below meth vc H1 locs1 (C + 3) (Sl + 30) Q (F0 vm 934 ls1 [])) : W vp l ve room_1 s vm #[Value.ref b] below meth vc H locs C Sl Q (F0 vm 574 ls []) := by
  obtain ⟨sz, hz⟩ : ∃ z, H.size = z := ⟨_, rfl⟩
  have hK := hG.K
  obtain ⟨fs, hx0⟩ := bm_BD.x0 hB
  obtain ⟨bv, hW, hMM⟩ := bo_good l D ct base ad M sz x (xs (i + 1)) tr bl np K f1 f2 f3 f4 g5 g6 f7 g8 g9 g10 hB
  refine lv_aload_n hx hb dL_law_574 rfl (lv_at hl 1 rfl) ?_
  refine lv_aload_n hx hb dL_law_575 rfl (lv_at hl 0 rfl) ?_
  refine lv_iload hx hb dL_law_576 (lv_at hl 4 rfl) ?_
  refine lv_iconst (v := 1) hx hb dL_law_578 (by decide) ?_
  refine lv_iadd hx hb dL_law_579 ?_
  refine lv_topi (fun t1 e_t1 => ?_)
  have e_t1 : t1 = nI (i + 1) := by rw [e_t1]; exact nI_add i 1
  subst e_t1
  refine va_sld hx hb hX hbl hbA hS (i := nI (i + 1)) (bm_ix_in (bm_ix_nI (k := i + 1) (by omega)) (by omega)) dL_law_580 ?_
  rw [show (nI (i + 1)).toNatClampNeg = i + 1 from nI_clamp (by omega)]
  refine bm_call (va_runV (As := [.int (xs (i + 1))]) (rest := []) ⟨hx, hb, hml, hown, hts⟩ hW (cwV 1 hts (bm_goodV bw_146 bw_147 bw_148 bw_1 bw_149) rfl rfl rfl (by decide +kernel) ⟨Nat.le_of_ble_eq_true rfl, Nat.le_of_ble_eq_true rfl⟩) (bm_preV hM hG hS hz hx0 rfl) rfl rfl hl.1 rfl (lv_room (Nat.le_of_ble_eq_true rfl)) dL_law_581 ⟨Nat.le_trans (show C + 0 ≤ C + 3 by omega) hC, Nat.le_trans (show Sl + 0 ≤ Sl + 30 by omega) hSl⟩) hS (fun v9 M1 H locs hq hM hS _ => ?_)
  obtain ⟨rfl, hB1, hf1⟩ := hq
  clear hz
  obtain ⟨z1, hz⟩ : ∃ z, H.size = z := ⟨_, rfl⟩
  have hMS1 := bm_MS.kept hMS (fun c a9 b9 => hf1 c a9 (by omega))
  refine lv_aload_n hx hb dL_law_584 rfl (lv_at hl 2 rfl) ?_
  refine lv_aload_n hx hb dL_law_585 rfl (lv_at hl 0 rfl) ?_
  refine lv_iload hx hb dL_law_586 (lv_at hl 4 rfl) ?_
  refine lv_iconst (v := 1) hx hb dL_law_588 (by decide) ?_
  refine lv_iadd hx hb dL_law_589 ?_
  refine lv_topi (fun t2 e_t2 => ?_)
  have e_t2 : t2 = nI (i + 1) := by rw [e_t2]; exact nI_add i 1
  subst e_t2
  refine va_sld hx hb hX hbl hbA hS (i := nI (i + 1)) (bm_ix_in (bm_ix_nI (k := i + 1) (by omega)) (by omega)) dL_law_590 ?_
  rw [show (nI (i + 1)).toNatClampNeg = i + 1 from nI_clamp (by omega)]
  obtain ⟨g11, g12, g13, g14, g15, f16, g17, hP⟩ := id hMS1
  refine bm_call (va_runV (As := [.int (xs (i + 1))]) (rest := [.int bv]) ⟨hx, hb, hml, hown, hts⟩ (hMM th M1 z1 hMS1) (cwV 1 hts (bm_goodV bw_776 bw_777 bw_778 bw_5 bw_779) rfl rfl rfl (by decide +kernel) ⟨Nat.le_of_ble_eq_true rfl, Nat.le_of_ble_eq_true rfl⟩) (bm_preV hM hG hS hz hP.c0 rfl) rfl rfl hl.1 rfl (lv_room (Nat.le_of_ble_eq_true rfl)) dL_law_591 ⟨Nat.le_trans (show C + 0 + 0 ≤ C + 3 by omega) hC, Nat.le_trans (show Sl + 0 + 0 ≤ Sl + 30 by omega) hSl⟩) hS (fun v9 M2 H locs hq hM hS _ => ?_)
  obtain ⟨hz, ⟨rfl, hMS2⟩, hf2⟩ := hq
  refine lv_icmp_eq (tgt := 934) hx hb dL_law_594 rfl (fun h594 => ?_) (fun h594 => absurd rfl h594)
  have hl : lv_has ls 8 [(0, .ref b), (1, .ref x), (2, .ref (x + 21)), (3, .ref (x + 39)), (4, .int (nI i))] := lv_sub hl [0, 1, 2, 3, 4] rfl
  refine W.widen (k := C + 3) (n := Sl + 30) (by omega) (by omega) ?_
  exact next (tr, bl, np, K, f1, f2, f3, f4, g5, g6, f7, g8, g9, g10) 0 w M2 H locs ls (Nat.le_succ K) hl hM hS (hB1.kept (fun c hc => hf2 c (by omega))) hMS2 ((hf2 _ (by omega)).trans ((hf1 _ (by omega) (by omega)).trans ho))
set_option maxHeartbeats 4000000 in
set_option maxRecDepth 100000 in
theorem bl_traced {vp : Program} {ve : Env} {s : State} {vm : MethodId} {below : List Frame} {meth : Method} {vc : Code} (l : Launch) {b L : Nat} {xs : Nat → Int32} {Q : State → Prop} {D : va_G} {ct : Nat → ClassId} {base : Nat} {ad : Nat → Nat} (hlt : l.stackTraces = false) (hx : vp.tables.exec = Jvm.exec) (hb : vc.code = cL_law) (hml : vc.maxLocals = 8) (hown : s.vm.findClass "BlindMintLaw" = some vm.cls) (hts : ∀ w ∈ bm_big, w.before #[Value.ref b] s = true) (hX : va_X b L xs s s.heap) (hbl : b < s.heap.size) (hbA : ¬ bm_A base b) (hG : bm_G D ct base ad s) (x i C Sl : Nat) (hi6 : i + 6 ≤ L) (hL : L ≤ 3072) (hC : C + 3 ≤ 601024) (hSl : Sl + 30 ≤ 7293034) (th : Int32) (tr : Int32) (bl : Int64) (np : Int32) (K : Nat) (f1 f2 f3 f4 : Nat → Int32) (g5 g6 : Nat → Int64) (f7 : Nat → Int32) (g8 g9 g10 : Nat → Int64) (w : Nat → Int64) (hK512 : K < 512) {H : Heap} {locs : List Loc} {M : bm_Map} {ls : Array Slot} (hl : lv_has ls 8 [(0, .ref b), (1, .ref x), (2, .ref (x + 21)), (3, .ref (x + 39)), (4, .int (nI i))]) (hM : bm_M D base M H) (hS : va_S (bm_A base) s.heap H locs) (hB : bm_BD ct x K tr bl np f1 f2 f3 f4 g5 g6 f7 g8 g9 g10 M) (hMS : bm_MS ct (x + 21) th (tr, bl, np, K, f1, f2, f3, f4, g5, g6, f7, g8, g9, g10) M) (ho : M (x + 39) = some (.inl (ct 1, 1, .inr (.inl w)))) (next : ∀ (t1 : bm_St) (th1 : Int32) (w1 : Nat → Int64) (M1 : bm_Map) (H1 : Heap) (locs1 : List Loc) (ls1 : Array Slot), t1.2.2.2.1 ≤ K + 1 → lv_has ls1 8 [(0, .ref b), (1, .ref x), (2, .ref (x + 21)), (3, .ref (x + 39)), (4, .int (nI i))] → bm_M D base M1 H1 → va_S (bm_A base) s.heap H1 locs1 → bm_BS ct x t1 M1 → bm_MS ct (x + 21) th1 t1 M1 → M1 (x + 39) = some (.inl (ct 1, 1, .inr (.inl w1))) → W vp l ve room_1 s vm #[Value.ref b] below meth vc H1 locs1 (C + 3) (Sl + 30) Q (F0 vm 934 ls1 [])) : W vp l ve room_1 s vm #[Value.ref b] below meth vc H locs C Sl Q (F0 vm 667 ls []) := by
  obtain ⟨sz, hz⟩ : ∃ z, H.size = z := ⟨_, rfl⟩
  have hK := hG.K
  obtain ⟨fs, hx0⟩ := bm_BD.x0 hB
  obtain ⟨bv, hW, hMM⟩ := bo_traced l D ct base ad M sz x  tr bl np K f1 f2 f3 f4 g5 g6 f7 g8 g9 g10 hB
  refine lv_aload_n hx hb dL_law_667 rfl (lv_at hl 1 rfl) ?_
  refine bm_call (va_runV (As := []) (rest := []) ⟨hx, hb, hml, hown, hts⟩ hW (cwV 0 hts (bm_goodV bw_213 bw_214 bw_215 bw_1 bw_216) rfl rfl rfl (by decide +kernel) ⟨Nat.le_of_ble_eq_true rfl, Nat.le_of_ble_eq_true rfl⟩) (bm_preV hM hG hS hz hx0 rfl) rfl rfl hl.1 rfl (lv_room (Nat.le_of_ble_eq_true rfl)) dL_law_668 ⟨Nat.le_trans (show C + 0 ≤ C + 3 by omega) hC, Nat.le_trans (show Sl + 0 ≤ Sl + 30 by omega) hSl⟩) hS (fun v9 M1 H locs hq hM hS _ => ?_)
  obtain ⟨rfl, hB1, hf1⟩ := hq
  clear hz
  obtain ⟨z1, hz⟩ : ∃ z, H.size = z := ⟨_, rfl⟩
  have hMS1 := bm_MS.kept hMS (fun c a9 b9 => hf1 c a9 (by omega))
  refine lv_aload_n hx hb dL_law_671 rfl (lv_at hl 2 rfl) ?_
  obtain ⟨g11, g12, g13, g14, g15, f16, g17, hP⟩ := id hMS1
  refine bm_call (va_runV (As := []) (rest := [.int bv]) ⟨hx, hb, hml, hown, hts⟩ (hMM th M1 z1 hMS1) (cwV 0 hts (bm_goodV bw_805 bw_806 bw_807 bw_5 bw_808) rfl rfl rfl (by decide +kernel) ⟨Nat.le_of_ble_eq_true rfl, Nat.le_of_ble_eq_true rfl⟩) (bm_preV hM hG hS hz hP.c0 rfl) rfl rfl hl.1 rfl (lv_room (Nat.le_of_ble_eq_true rfl)) dL_law_672 ⟨Nat.le_trans (show C + 0 + 0 ≤ C + 3 by omega) hC, Nat.le_trans (show Sl + 0 + 0 ≤ Sl + 30 by omega) hSl⟩) hS (fun v9 M2 H locs hq hM hS _ => ?_)
  obtain ⟨hz, ⟨rfl, hMS2⟩, hf2⟩ := hq
  refine lv_icmp_eq (tgt := 934) hx hb dL_law_675 rfl (fun h675 => ?_) (fun h675 => absurd rfl h675)
  have hl : lv_has ls 8 [(0, .ref b), (1, .ref x), (2, .ref (x + 21)), (3, .ref (x + 39)), (4, .int (nI i))] := lv_sub hl [0, 1, 2, 3, 4] rfl
  refine W.widen (k := C + 3) (n := Sl + 30) (by omega) (by omega) ?_
  exact next (tr, bl, np, K, f1, f2, f3, f4, g5, g6, f7, g8, g9, g10) 0 w M2 H locs ls (Nat.le_succ K) hl hM hS (hB1.kept (fun c hc => hf2 c (by omega))) hMS2 ((hf2 _ (by omega)).trans ((hf1 _ (by omega) (by omega)).trans ho))
set_option maxHeartbeats 4000000 in
set_option maxRecDepth 100000 in
theorem bl_coins {vp : Program} {ve : Env} {s : State} {vm : MethodId} {below : List Frame} {meth : Method} {vc : Code} (l : Launch) {b L : Nat} {xs : Nat → Int32} {Q : State → Prop} {D : va_G} {ct : Nat → ClassId} {base : Nat} {ad : Nat → Nat} (hlt : l.stackTraces = false) (hx : vp.tables.exec = Jvm.exec) (hb : vc.code = cL_law) (hml : vc.maxLocals = 8) (hown : s.vm.findClass "BlindMintLaw" = some vm.cls) (hts : ∀ w ∈ bm_big, w.before #[Value.ref b] s = true) (hX : va_X b L xs s s.heap) (hbl : b < s.heap.size) (hbA : ¬ bm_A base b) (hG : bm_G D ct base ad s) (x i C Sl : Nat) (hi6 : i + 6 ≤ L) (hL : L ≤ 3072) (hC : C + 3 ≤ 601024) (hSl : Sl + 30 ≤ 7293034) (th : Int32) (tr : Int32) (bl : Int64) (np : Int32) (K : Nat) (f1 f2 f3 f4 : Nat → Int32) (g5 g6 : Nat → Int64) (f7 : Nat → Int32) (g8 g9 g10 : Nat → Int64) (w : Nat → Int64) (hK512 : K < 512) {H : Heap} {locs : List Loc} {M : bm_Map} {ls : Array Slot} (hl : lv_has ls 8 [(0, .ref b), (1, .ref x), (2, .ref (x + 21)), (3, .ref (x + 39)), (4, .int (nI i))]) (hM : bm_M D base M H) (hS : va_S (bm_A base) s.heap H locs) (hB : bm_BD ct x K tr bl np f1 f2 f3 f4 g5 g6 f7 g8 g9 g10 M) (hMS : bm_MS ct (x + 21) th (tr, bl, np, K, f1, f2, f3, f4, g5, g6, f7, g8, g9, g10) M) (ho : M (x + 39) = some (.inl (ct 1, 1, .inr (.inl w)))) (next : ∀ (t1 : bm_St) (th1 : Int32) (w1 : Nat → Int64) (M1 : bm_Map) (H1 : Heap) (locs1 : List Loc) (ls1 : Array Slot), t1.2.2.2.1 ≤ K + 1 → lv_has ls1 8 [(0, .ref b), (1, .ref x), (2, .ref (x + 21)), (3, .ref (x + 39)), (4, .int (nI i))] → bm_M D base M1 H1 → va_S (bm_A base) s.heap H1 locs1 → bm_BS ct x t1 M1 → bm_MS ct (x + 21) th1 t1 M1 → M1 (x + 39) = some (.inl (ct 1, 1, .inr (.inl w1))) → W vp l ve room_1 s vm #[Value.ref b] below meth vc H1 locs1 (C + 3) (Sl + 30) Q (F0 vm 934 ls1 [])) : W vp l ve room_1 s vm #[Value.ref b] below meth vc H locs C Sl Q (F0 vm 736 ls []) := by
  obtain ⟨sz, hz⟩ : ∃ z, H.size = z := ⟨_, rfl⟩
  have hK := hG.K
  obtain ⟨fs, hx0⟩ := bm_BD.x0 hB
  obtain ⟨bv, hW, hMM⟩ := bo_coins l D ct base ad M sz x (xs (i + 1)) tr bl np K f1 f2 f3 f4 g5 g6 f7 g8 g9 g10 hB
  refine lv_aload_n hx hb dL_law_736 rfl (lv_at hl 1 rfl) ?_
  refine lv_aload_n hx hb dL_law_737 rfl (lv_at hl 0 rfl) ?_
  refine lv_iload hx hb dL_law_738 (lv_at hl 4 rfl) ?_
  refine lv_iconst (v := 1) hx hb dL_law_740 (by decide) ?_
  refine lv_iadd hx hb dL_law_741 ?_
  refine lv_topi (fun t1 e_t1 => ?_)
  have e_t1 : t1 = nI (i + 1) := by rw [e_t1]; exact nI_add i 1
  subst e_t1
  refine va_sld hx hb hX hbl hbA hS (i := nI (i + 1)) (bm_ix_in (bm_ix_nI (k := i + 1) (by omega)) (by omega)) dL_law_742 ?_
  rw [show (nI (i + 1)).toNatClampNeg = i + 1 from nI_clamp (by omega)]
  refine bm_call (va_runV (As := [.int (xs (i + 1))]) (rest := []) ⟨hx, hb, hml, hown, hts⟩ hW (cwV 1 hts (bm_goodV bw_217 bw_218 bw_219 bw_1 bw_220) rfl rfl rfl (by decide +kernel) ⟨Nat.le_of_ble_eq_true rfl, Nat.le_of_ble_eq_true rfl⟩) (bm_preV hM hG hS hz hx0 rfl) rfl rfl hl.1 rfl (lv_room (Nat.le_of_ble_eq_true rfl)) dL_law_743 ⟨Nat.le_trans (show C + 0 ≤ C + 3 by omega) hC, Nat.le_trans (show Sl + 0 ≤ Sl + 30 by omega) hSl⟩) hS (fun v9 M1 H locs hq hM hS _ => ?_)
  obtain ⟨rfl, hB1, hf1⟩ := hq
  clear hz
  obtain ⟨z1, hz⟩ : ∃ z, H.size = z := ⟨_, rfl⟩
  have hMS1 := bm_MS.kept hMS (fun c a9 b9 => hf1 c a9 (by omega))
  refine lv_aload_n hx hb dL_law_746 rfl (lv_at hl 2 rfl) ?_
  refine lv_aload_n hx hb dL_law_747 rfl (lv_at hl 0 rfl) ?_
  refine lv_iload hx hb dL_law_748 (lv_at hl 4 rfl) ?_
  refine lv_iconst (v := 1) hx hb dL_law_750 (by decide) ?_
  refine lv_iadd hx hb dL_law_751 ?_
  refine lv_topi (fun t2 e_t2 => ?_)
  have e_t2 : t2 = nI (i + 1) := by rw [e_t2]; exact nI_add i 1
  subst e_t2
  refine va_sld hx hb hX hbl hbA hS (i := nI (i + 1)) (bm_ix_in (bm_ix_nI (k := i + 1) (by omega)) (by omega)) dL_law_752 ?_
  rw [show (nI (i + 1)).toNatClampNeg = i + 1 from nI_clamp (by omega)]
  obtain ⟨g11, g12, g13, g14, g15, f16, g17, hP⟩ := id hMS1
  refine bm_call (va_runV (As := [.int (xs (i + 1))]) (rest := [.int bv]) ⟨hx, hb, hml, hown, hts⟩ (hMM th M1 z1 hMS1) (cwV 1 hts (bm_goodV bw_813 bw_814 bw_815 bw_5 bw_816) rfl rfl rfl (by decide +kernel) ⟨Nat.le_of_ble_eq_true rfl, Nat.le_of_ble_eq_true rfl⟩) (bm_preV hM hG hS hz hP.c0 rfl) rfl rfl hl.1 rfl (lv_room (Nat.le_of_ble_eq_true rfl)) dL_law_753 ⟨Nat.le_trans (show C + 0 + 0 ≤ C + 3 by omega) hC, Nat.le_trans (show Sl + 0 + 0 ≤ Sl + 30 by omega) hSl⟩) hS (fun v9 M2 H locs hq hM hS _ => ?_)
  obtain ⟨hz, ⟨rfl, hMS2⟩, hf2⟩ := hq
  refine lv_icmp_eq (tgt := 934) hx hb dL_law_756 rfl (fun h756 => ?_) (fun h756 => absurd rfl h756)
  have hl : lv_has ls 8 [(0, .ref b), (1, .ref x), (2, .ref (x + 21)), (3, .ref (x + 39)), (4, .int (nI i))] := lv_sub hl [0, 1, 2, 3, 4] rfl
  refine W.widen (k := C + 3) (n := Sl + 30) (by omega) (by omega) ?_
  exact next (tr, bl, np, K, f1, f2, f3, f4, g5, g6, f7, g8, g9, g10) 0 w M2 H locs ls (Nat.le_succ K) hl hM hS (hB1.kept (fun c hc => hf2 c (by omega))) hMS2 ((hf2 _ (by omega)).trans ((hf1 _ (by omega) (by omega)).trans ho))
set_option maxHeartbeats 4000000 in
set_option maxRecDepth 100000 in
theorem bl_blinded {vp : Program} {ve : Env} {s : State} {vm : MethodId} {below : List Frame} {meth : Method} {vc : Code} (l : Launch) {b L : Nat} {xs : Nat → Int32} {Q : State → Prop} {D : va_G} {ct : Nat → ClassId} {base : Nat} {ad : Nat → Nat} (hlt : l.stackTraces = false) (hx : vp.tables.exec = Jvm.exec) (hb : vc.code = cL_law) (hml : vc.maxLocals = 8) (hown : s.vm.findClass "BlindMintLaw" = some vm.cls) (hts : ∀ w ∈ bm_big, w.before #[Value.ref b] s = true) (hX : va_X b L xs s s.heap) (hbl : b < s.heap.size) (hbA : ¬ bm_A base b) (hG : bm_G D ct base ad s) (x i C Sl : Nat) (hi6 : i + 6 ≤ L) (hL : L ≤ 3072) (hC : C + 3 ≤ 601024) (hSl : Sl + 30 ≤ 7293034) (th : Int32) (tr : Int32) (bl : Int64) (np : Int32) (K : Nat) (f1 f2 f3 f4 : Nat → Int32) (g5 g6 : Nat → Int64) (f7 : Nat → Int32) (g8 g9 g10 : Nat → Int64) (w : Nat → Int64) (hK512 : K < 512) {H : Heap} {locs : List Loc} {M : bm_Map} {ls : Array Slot} (hl : lv_has ls 8 [(0, .ref b), (1, .ref x), (2, .ref (x + 21)), (3, .ref (x + 39)), (4, .int (nI i))]) (hM : bm_M D base M H) (hS : va_S (bm_A base) s.heap H locs) (hB : bm_BD ct x K tr bl np f1 f2 f3 f4 g5 g6 f7 g8 g9 g10 M) (hMS : bm_MS ct (x + 21) th (tr, bl, np, K, f1, f2, f3, f4, g5, g6, f7, g8, g9, g10) M) (ho : M (x + 39) = some (.inl (ct 1, 1, .inr (.inl w)))) (next : ∀ (t1 : bm_St) (th1 : Int32) (w1 : Nat → Int64) (M1 : bm_Map) (H1 : Heap) (locs1 : List Loc) (ls1 : Array Slot), t1.2.2.2.1 ≤ K + 1 → lv_has ls1 8 [(0, .ref b), (1, .ref x), (2, .ref (x + 21)), (3, .ref (x + 39)), (4, .int (nI i))] → bm_M D base M1 H1 → va_S (bm_A base) s.heap H1 locs1 → bm_BS ct x t1 M1 → bm_MS ct (x + 21) th1 t1 M1 → M1 (x + 39) = some (.inl (ct 1, 1, .inr (.inl w1))) → W vp l ve room_1 s vm #[Value.ref b] below meth vc H1 locs1 (C + 3) (Sl + 30) Q (F0 vm 934 ls1 [])) : W vp l ve room_1 s vm #[Value.ref b] below meth vc H locs C Sl Q (F0 vm 895 ls []) := by
  obtain ⟨sz, hz⟩ : ∃ z, H.size = z := ⟨_, rfl⟩
  have hK := hG.K
  obtain ⟨fs, hx0⟩ := bm_BD.x0 hB
  obtain ⟨bv, hW, hMM⟩ := bo_blinded l D ct base ad M sz x  tr bl np K f1 f2 f3 f4 g5 g6 f7 g8 g9 g10 hB
  refine lv_aload_n hx hb dL_law_895 rfl (lv_at hl 1 rfl) ?_
  refine bm_call (va_runV (As := []) (rest := []) ⟨hx, hb, hml, hown, hts⟩ hW (cwV 0 hts (bm_goodV bw_224 bw_225 bw_226 bw_1 bw_227) rfl rfl rfl (by decide +kernel) ⟨Nat.le_of_ble_eq_true rfl, Nat.le_of_ble_eq_true rfl⟩) (bm_preV hM hG hS hz hx0 rfl) rfl rfl hl.1 rfl (lv_room (Nat.le_of_ble_eq_true rfl)) dL_law_896 ⟨Nat.le_trans (show C + 0 ≤ C + 3 by omega) hC, Nat.le_trans (show Sl + 0 ≤ Sl + 30 by omega) hSl⟩) hS (fun v9 M1 H locs hq hM hS _ => ?_)
  obtain ⟨rfl, hB1, hf1⟩ := hq
  clear hz
  obtain ⟨z1, hz⟩ : ∃ z, H.size = z := ⟨_, rfl⟩
  have hMS1 := bm_MS.kept hMS (fun c a9 b9 => hf1 c a9 (by omega))
  refine lv_aload_n hx hb dL_law_899 rfl (lv_at hl 2 rfl) ?_
  obtain ⟨g11, g12, g13, g14, g15, f16, g17, hP⟩ := id hMS1
  refine bm_call (va_runV (As := []) (rest := [.long bv]) ⟨hx, hb, hml, hown, hts⟩ (hMM th M1 z1 hMS1) (cwV 0 hts (bm_goodV bw_825 bw_826 bw_827 bw_5 bw_828) rfl rfl rfl (by decide +kernel) ⟨Nat.le_of_ble_eq_true rfl, Nat.le_of_ble_eq_true rfl⟩) (bm_preV hM hG hS hz hP.c0 rfl) rfl rfl hl.1 rfl (lv_room (Nat.le_of_ble_eq_true rfl)) dL_law_900 ⟨Nat.le_trans (show C + 0 + 0 ≤ C + 3 by omega) hC, Nat.le_trans (show Sl + 0 + 0 ≤ Sl + 30 by omega) hSl⟩) hS (fun v9 M2 H locs hq hM hS _ => ?_)
  obtain ⟨hz, ⟨rfl, hMS2⟩, hf2⟩ := hq
  refine W.lcmp hx hb dL_law_903 ?_
  refine lv_if_eq (tgt := 934) hx hb dL_law_904 rfl (fun h904 => ?_) (fun h904 => absurd ((lg_cmp_eq _ _).mpr rfl) h904)
  have hl : lv_has ls 8 [(0, .ref b), (1, .ref x), (2, .ref (x + 21)), (3, .ref (x + 39)), (4, .int (nI i))] := lv_sub hl [0, 1, 2, 3, 4] rfl
  refine W.widen (k := C + 3) (n := Sl + 30) (by omega) (by omega) ?_
  exact next (tr, bl, np, K, f1, f2, f3, f4, g5, g6, f7, g8, g9, g10) 0 w M2 H locs ls (Nat.le_succ K) hl hM hS (hB1.kept (fun c hc => hf2 c (by omega))) hMS2 ((hf2 _ (by omega)).trans ((hf1 _ (by omega) (by omega)).trans ho))
set_option maxHeartbeats 4000000 in
set_option maxRecDepth 100000 in
theorem bl_count {vp : Program} {ve : Env} {s : State} {vm : MethodId} {below : List Frame} {meth : Method} {vc : Code} (l : Launch) {b L : Nat} {xs : Nat → Int32} {Q : State → Prop} {D : va_G} {ct : Nat → ClassId} {base : Nat} {ad : Nat → Nat} (hlt : l.stackTraces = false) (hx : vp.tables.exec = Jvm.exec) (hb : vc.code = cL_law) (hml : vc.maxLocals = 8) (hown : s.vm.findClass "BlindMintLaw" = some vm.cls) (hts : ∀ w ∈ bm_big, w.before #[Value.ref b] s = true) (hX : va_X b L xs s s.heap) (hbl : b < s.heap.size) (hbA : ¬ bm_A base b) (hG : bm_G D ct base ad s) (x i C Sl : Nat) (hi6 : i + 6 ≤ L) (hL : L ≤ 3072) (hC : C + 3 ≤ 601024) (hSl : Sl + 30 ≤ 7293034) (th : Int32) (tr : Int32) (bl : Int64) (np : Int32) (K : Nat) (f1 f2 f3 f4 : Nat → Int32) (g5 g6 : Nat → Int64) (f7 : Nat → Int32) (g8 g9 g10 : Nat → Int64) (w : Nat → Int64) (hK512 : K < 512) {H : Heap} {locs : List Loc} {M : bm_Map} {ls : Array Slot} (hl : lv_has ls 8 [(0, .ref b), (1, .ref x), (2, .ref (x + 21)), (3, .ref (x + 39)), (4, .int (nI i))]) (hM : bm_M D base M H) (hS : va_S (bm_A base) s.heap H locs) (hB : bm_BD ct x K tr bl np f1 f2 f3 f4 g5 g6 f7 g8 g9 g10 M) (hMS : bm_MS ct (x + 21) th (tr, bl, np, K, f1, f2, f3, f4, g5, g6, f7, g8, g9, g10) M) (ho : M (x + 39) = some (.inl (ct 1, 1, .inr (.inl w)))) (next : ∀ (t1 : bm_St) (th1 : Int32) (w1 : Nat → Int64) (M1 : bm_Map) (H1 : Heap) (locs1 : List Loc) (ls1 : Array Slot), t1.2.2.2.1 ≤ K + 1 → lv_has ls1 8 [(0, .ref b), (1, .ref x), (2, .ref (x + 21)), (3, .ref (x + 39)), (4, .int (nI i))] → bm_M D base M1 H1 → va_S (bm_A base) s.heap H1 locs1 → bm_BS ct x t1 M1 → bm_MS ct (x + 21) th1 t1 M1 → M1 (x + 39) = some (.inl (ct 1, 1, .inr (.inl w1))) → W vp l ve room_1 s vm #[Value.ref b] below meth vc H1 locs1 (C + 3) (Sl + 30) Q (F0 vm 934 ls1 [])) : W vp l ve room_1 s vm #[Value.ref b] below meth vc H locs C Sl Q (F0 vm 909 ls []) := by
  obtain ⟨sz, hz⟩ : ∃ z, H.size = z := ⟨_, rfl⟩
  have hK := hG.K
  obtain ⟨fs, hx0⟩ := bm_BD.x0 hB
  obtain ⟨bv, hW, hMM⟩ := bo_count l D ct base ad M sz x (xs (i + 1)) tr bl np K f1 f2 f3 f4 g5 g6 f7 g8 g9 g10 hB
  refine lv_aload_n hx hb dL_law_909 rfl (lv_at hl 1 rfl) ?_
  refine lv_aload_n hx hb dL_law_910 rfl (lv_at hl 0 rfl) ?_
  refine lv_iload hx hb dL_law_911 (lv_at hl 4 rfl) ?_
  refine lv_iconst (v := 1) hx hb dL_law_913 (by decide) ?_
  refine lv_iadd hx hb dL_law_914 ?_
  refine lv_topi (fun t1 e_t1 => ?_)
  have e_t1 : t1 = nI (i + 1) := by rw [e_t1]; exact nI_add i 1
  subst e_t1
  refine va_sld hx hb hX hbl hbA hS (i := nI (i + 1)) (bm_ix_in (bm_ix_nI (k := i + 1) (by omega)) (by omega)) dL_law_915 ?_
  rw [show (nI (i + 1)).toNatClampNeg = i + 1 from nI_clamp (by omega)]
  refine bm_call (va_runV (As := [.int (xs (i + 1))]) (rest := []) ⟨hx, hb, hml, hown, hts⟩ hW (cwV 1 hts (bm_goodV bw_228 bw_229 bw_230 bw_1 bw_231) rfl rfl rfl (by decide +kernel) ⟨Nat.le_of_ble_eq_true rfl, Nat.le_of_ble_eq_true rfl⟩) (bm_preV hM hG hS hz hx0 rfl) rfl rfl hl.1 rfl (lv_room (Nat.le_of_ble_eq_true rfl)) dL_law_916 ⟨Nat.le_trans (show C + 0 ≤ C + 3 by omega) hC, Nat.le_trans (show Sl + 0 ≤ Sl + 30 by omega) hSl⟩) hS (fun v9 M1 H locs hq hM hS _ => ?_)
  obtain ⟨rfl, hB1, hf1⟩ := hq
  clear hz
  obtain ⟨z1, hz⟩ : ∃ z, H.size = z := ⟨_, rfl⟩
  have hMS1 := bm_MS.kept hMS (fun c a9 b9 => hf1 c a9 (by omega))
  refine lv_aload_n hx hb dL_law_919 rfl (lv_at hl 2 rfl) ?_
  refine lv_aload_n hx hb dL_law_920 rfl (lv_at hl 0 rfl) ?_
  refine lv_iload hx hb dL_law_921 (lv_at hl 4 rfl) ?_
  refine lv_iconst (v := 1) hx hb dL_law_923 (by decide) ?_
  refine lv_iadd hx hb dL_law_924 ?_
  refine lv_topi (fun t2 e_t2 => ?_)
  have e_t2 : t2 = nI (i + 1) := by rw [e_t2]; exact nI_add i 1
  subst e_t2
  refine va_sld hx hb hX hbl hbA hS (i := nI (i + 1)) (bm_ix_in (bm_ix_nI (k := i + 1) (by omega)) (by omega)) dL_law_925 ?_
  rw [show (nI (i + 1)).toNatClampNeg = i + 1 from nI_clamp (by omega)]
  obtain ⟨g11, g12, g13, g14, g15, f16, g17, hP⟩ := id hMS1
  refine bm_call (va_runV (As := [.int (xs (i + 1))]) (rest := [.int bv]) ⟨hx, hb, hml, hown, hts⟩ (hMM th M1 z1 hMS1) (cwV 1 hts (bm_goodV bw_829 bw_830 bw_831 bw_5 bw_832) rfl rfl rfl (by decide +kernel) ⟨Nat.le_of_ble_eq_true rfl, Nat.le_of_ble_eq_true rfl⟩) (bm_preV hM hG hS hz hP.c0 rfl) rfl rfl hl.1 rfl (lv_room (Nat.le_of_ble_eq_true rfl)) dL_law_926 ⟨Nat.le_trans (show C + 0 + 0 ≤ C + 3 by omega) hC, Nat.le_trans (show Sl + 0 + 0 ≤ Sl + 30 by omega) hSl⟩) hS (fun v9 M2 H locs hq hM hS _ => ?_)
  obtain ⟨hz, ⟨rfl, hMS2⟩, hf2⟩ := hq
  refine lv_icmp_eq (tgt := 934) hx hb dL_law_929 rfl (fun h929 => ?_) (fun h929 => absurd rfl h929)
  have hl : lv_has ls 8 [(0, .ref b), (1, .ref x), (2, .ref (x + 21)), (3, .ref (x + 39)), (4, .int (nI i))] := lv_sub hl [0, 1, 2, 3, 4] rfl
  refine W.widen (k := C + 3) (n := Sl + 30) (by omega) (by omega) ?_
  exact next (tr, bl, np, K, f1, f2, f3, f4, g5, g6, f7, g8, g9, g10) 0 w M2 H locs ls (Nat.le_succ K) hl hM hS (hB1.kept (fun c hc => hf2 c (by omega))) hMS2 ((hf2 _ (by omega)).trans ((hf1 _ (by omega) (by omega)).trans ho))
