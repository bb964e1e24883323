set_option maxHeartbeats 4000000 in
set_option maxRecDepth 100000 in
theorem bc_M_candidates (l : Launch) (D : va_G) (ct : Nat → ClassId) (base : Nat) (ad : Nat → Nat) (M : bm_Map) (sz : Nat) (m : Nat) (th : Int32) (tr : Int32) (bl : Int64) (np : Int32) (nd : Int32) (f1 : Nat → Int32) (f2 : Nat → Int32) (f3 : Nat → Int32) (f4 : Nat → Int32) (g5 : Nat → Int64) (g6 : Nat → Int64) (f7 : Nat → Int32) (g8 : Nat → Int64) (g9 : Nat → Int64) (g10 : Nat → Int64) (g11 : Nat → Int64) (g12 : Nat → Int64) (g13 : Nat → Int64) (g14 : Nat → Int64) (g15 : Nat → Int64) (f16 : Nat → Int32) (g17 : Nat → Int64) (a : Nat) (seed : Int64) (ch : Int32) (hP : bm_MD ct m th tr bl np nd f1 f2 f3 f4 g5 g6 f7 g8 g9 g10 g11 g12 g13 g14 g15 f16 g17 M) (ha : a < 4) : Met l yM_candidates (bm_ws yM_candidates cM_candidates 8 none) { frames := 2, cells := 0, slots := 0, locals := 48 } (bm_Pre D ct base ad M sz [.ref m, .int (nI a), .long seed, .int ch]) (bm_Post D base (bm_Pm m M sz (fun v M1 => v = none ∧ ∃ (y11 y12 y13 y14 y15 : Nat → Int64) (y16 : Nat → Int32), bm_MD ct m th tr bl np nd f1 f2 f3 f4 g5 g6 f7 g8 g9 g10 y11 y12 y13 y14 y15 y16 g17 M1 ∧ (∀ j, j < 6 → y11 j = bm_ca seed j) ∧ (∀ j, j < 6 → y12 j = bm_cb seed a ch j) ∧ (∀ j, j < 6 → y13 j = bm_cc seed j) ∧ (∀ j, j < 6 → y14 j = bm_ce seed j) ∧ (∀ j, j < 6 → y15 j = bm_cp seed a ch j) ∧ ∀ j, j < 6 → y16 j = 1))) 0 0 (bm_A base) := by
  refine bm_ofB (cc := cM_candidates) (maxL := 8) (ret := none) (by decide +kernel) (Nat.le_of_ble_eq_true rfl) ?_
  intro vp ve s vm args below meth vc hx hb hr hlk hts hown hml hnm ls hl hz hM hG R Q hR hQ
  have hown : s.vm.findClass "BlindMintModel" = some vm.cls := hown
  have hK := hG.K
  have hS : va_S (bm_A base) s.heap s.heap [] := va_S.rf
  have hl : lv_has ls 8 [(0, .ref m), (1, .int (nI a)), (2, .long seed), (4, .int ch)] := hl
  have hF : bm_fr m M M := bm_fr.rf
  refine lv_iconst (v := 0) hx hb dM_candidates_0 (by decide) ?_
  refine lv_istore hx hb dM_candidates_1 hl (by decide) rfl (fun ls hl => ?_)
  have hl : lv_has ls 8 [(5, .int 0), (0, .ref m), (1, .int (nI a)), (2, .long seed), (4, .int ch)] := hl
  refine lv_iload hx hb dM_candidates_3 (lv_at hl 0 rfl) ?_
  refine lv_bipush (v := 6) hx hb dM_candidates_5 (by decide) ?_
  refine lv_icmp_ge (tgt := 162) hx hb dM_candidates_7 rfl (fun h => absurd h (by decide)) (fun _ => ?_)
  refine lv_aload_n hx hb dM_candidates_10 rfl (lv_at hl 1 rfl) ?_
  refine bm_get (ci := 7) (v := .ref (m + 11)) (C := "BlindMintModel") (T := bt_M) (N := 22) hx hb hts bu_M hown hK hM hP.c0 rfl 15 (by decide) (hts _ bw_617) (fun _ h9 => h9) rfl dM_candidates_11 ?_
  refine lv_iload hx hb dM_candidates_14 (lv_at hl 0 rfl) ?_
  refine lv_lload_n hx hb dM_candidates_16 rfl (lv_at hl 3 rfl) ?_
  refine lv_ldc2 hx hb hown (hts _ bw_693) dM_candidates_17 ?_
  refine lv_iload hx hb dM_candidates_20 (lv_at hl 0 rfl) ?_
  refine lv_i2l (v := 0) hx hb dM_candidates_22 (by decide) ?_
  refine lv_lmul hx hb dM_candidates_23 ?_
  refine lv_topl (fun t1 e_t1 => ?_)
  have e_t1 : t1 = lN (3 * 0) := by rw [e_t1]; decide
  subst e_t1
  refine bm_callE (va_runS (As := [.long seed, .long (lN (3 * 0))]) (rest := [.int 0, .ref (m + 11)]) ⟨hx, hb, hml, hown, hts⟩ (bc_M_hash2 l D ct base ad M sz seed (lN (3 * 0))) (va_cwS 2 hts (bm_goodS bw_694 bw_695 bw_5 bw_696) rfl rfl rfl (by decide +kernel) (by rw [← hR]; exact ⟨Nat.le_of_ble_eq_true rfl, Nat.le_of_ble_eq_true rfl⟩)) (bm_preS hM hG hS hz) rfl rfl hl.1 rfl (lv_room (Nat.le_of_ble_eq_true rfl)) dM_candidates_24 (by rw [← hR]; exact ⟨Nat.le_of_ble_eq_true rfl, Nat.le_of_ble_eq_true rfl⟩)) hS (fun H locs hz hM hS => ?_)
  refine bm_last hx hb hK hM hS 1 hP.c11 rfl 0 (bm_ix_nI (k := 0) (by decide)) (by decide) dM_candidates_27 (fun H locs hz1 hM hS => ?_)
  have hz := hz1.trans hz
  obtain ⟨M2, hM, hP, hF⟩ : ∃ X, bm_M D base X H ∧ bm_MD ct m th tr bl np nd f1 f2 f3 f4 g5 g6 f7 g8 g9 g10 (vp_updL g11 0 (bm_ca seed 0)) g12 g13 g14 g15 f16 g17 X ∧ bm_fr m M X := ⟨_, hM, hP.s11 _, hF.up (by decide)⟩
  refine lv_aload_n hx hb dM_candidates_28 rfl (lv_at hl 1 rfl) ?_
  refine bm_get (ci := 7) (v := .ref (m + 13)) (C := "BlindMintModel") (T := bt_M) (N := 22) hx hb hts bu_M hown hK hM hP.c0 rfl 17 (by decide) (hts _ bw_619) (fun _ h9 => h9) rfl dM_candidates_29 ?_
  refine lv_iload hx hb dM_candidates_32 (lv_at hl 0 rfl) ?_
  refine lv_lload_n hx hb dM_candidates_34 rfl (lv_at hl 3 rfl) ?_
  refine lv_ldc2 hx hb hown (hts _ bw_693) dM_candidates_35 ?_
  refine lv_iload hx hb dM_candidates_38 (lv_at hl 0 rfl) ?_
  refine lv_i2l (v := 0) hx hb dM_candidates_40 (by decide) ?_
  refine lv_lmul hx hb dM_candidates_41 ?_
  refine lv_lconst (v := 1) hx hb dM_candidates_42 (by decide) ?_
  refine lv_ladd hx hb dM_candidates_43 ?_
  refine lv_topl (fun t3 e_t3 => ?_)
  have e_t3 : t3 = lN (3 * 0 + 1) := by rw [e_t3]; decide
  subst e_t3
  refine bm_callE (va_runS (As := [.long seed, .long (lN (3 * 0 + 1))]) (rest := [.int 0, .ref (m + 13)]) ⟨hx, hb, hml, hown, hts⟩ (bc_M_hash2 l D ct base ad M2 sz seed (lN (3 * 0 + 1))) (va_cwS 2 hts (bm_goodS bw_694 bw_695 bw_5 bw_696) rfl rfl rfl (by decide +kernel) (by rw [← hR]; exact ⟨Nat.le_of_ble_eq_true rfl, Nat.le_of_ble_eq_true rfl⟩)) (bm_preS hM hG hS hz) rfl rfl hl.1 rfl (lv_room (Nat.le_of_ble_eq_true rfl)) dM_candidates_44 (by rw [← hR]; exact ⟨Nat.le_of_ble_eq_true rfl, Nat.le_of_ble_eq_true rfl⟩)) hS (fun H locs hz hM hS => ?_)
  refine bm_last hx hb hK hM hS 1 hP.c13 rfl 0 (bm_ix_nI (k := 0) (by decide)) (by decide) dM_candidates_47 (fun H locs hz1 hM hS => ?_)
  have hz := hz1.trans hz
  obtain ⟨M4, hM, hP, hF⟩ : ∃ X, bm_M D base X H ∧ bm_MD ct m th tr bl np nd f1 f2 f3 f4 g5 g6 f7 g8 g9 g10 (vp_updL g11 0 (bm_ca seed 0)) g12 (vp_updL g13 0 (bm_cc seed 0)) g14 g15 f16 g17 X ∧ bm_fr m M X := ⟨_, hM, hP.s13 _, hF.up (by decide)⟩
  refine lv_aload_n hx hb dM_candidates_48 rfl (lv_at hl 1 rfl) ?_
  refine bm_get (ci := 7) (v := .ref (m + 14)) (C := "BlindMintModel") (T := bt_M) (N := 22) hx hb hts bu_M hown hK hM hP.c0 rfl 18 (by decide) (hts _ bw_620) (fun _ h9 => h9) rfl dM_candidates_49 ?_
  refine lv_iload hx hb dM_candidates_52 (lv_at hl 0 rfl) ?_
  refine lv_lload_n hx hb dM_candidates_54 rfl (lv_at hl 3 rfl) ?_
  refine lv_ldc2 hx hb hown (hts _ bw_693) dM_candidates_55 ?_
  refine lv_iload hx hb dM_candidates_58 (lv_at hl 0 rfl) ?_
  refine lv_i2l (v := 0) hx hb dM_candidates_60 (by decide) ?_
  refine lv_lmul hx hb dM_candidates_61 ?_
  refine lv_ldc2 hx hb hown (hts _ bw_707) dM_candidates_62 ?_
  refine lv_ladd hx hb dM_candidates_65 ?_
  refine lv_topl (fun t5 e_t5 => ?_)
  have e_t5 : t5 = lN (3 * 0 + 2) := by rw [e_t5]; decide
  subst e_t5
  refine bm_callE (va_runS (As := [.long seed, .long (lN (3 * 0 + 2))]) (rest := [.int 0, .ref (m + 14)]) ⟨hx, hb, hml, hown, hts⟩ (bc_M_hash2 l D ct base ad M4 sz seed (lN (3 * 0 + 2))) (va_cwS 2 hts (bm_goodS bw_694 bw_695 bw_5 bw_696) rfl rfl rfl (by decide +kernel) (by rw [← hR]; exact ⟨Nat.le_of_ble_eq_true rfl, Nat.le_of_ble_eq_true rfl⟩)) (bm_preS hM hG hS hz) rfl rfl hl.1 rfl (lv_room (Nat.le_of_ble_eq_true rfl)) dM_candidates_66 (by rw [← hR]; exact ⟨Nat.le_of_ble_eq_true rfl, Nat.le_of_ble_eq_true rfl⟩)) hS (fun H locs hz hM hS => ?_)
  refine bm_last hx hb hK hM hS 1 hP.c14 rfl 0 (bm_ix_nI (k := 0) (by decide)) (by decide) dM_candidates_69 (fun H locs hz1 hM hS => ?_)
  have hz := hz1.trans hz
  obtain ⟨M6, hM, hP, hF⟩ : ∃ X, bm_M D base X H ∧ bm_MD ct m th tr bl np nd f1 f2 f3 f4 g5 g6 f7 g8 g9 g10 (vp_updL g11 0 (bm_ca seed 0)) g12 (vp_updL g13 0 (bm_cc seed 0)) (vp_updL g14 0 (bm_ce seed 0)) g15 f16 g17 X ∧ bm_fr m M X := ⟨_, hM, hP.s14 _, hF.up (by decide)⟩
  refine lv_aload_n hx hb dM_candidates_70 rfl (lv_at hl 1 rfl) ?_
  refine bm_get (ci := 7) (v := .ref (m + 12)) (C := "BlindMintModel") (T := bt_M) (N := 22) hx hb hts bu_M hown hK hM hP.c0 rfl 16 (by decide) (hts _ bw_618) (fun _ h9 => h9) rfl dM_candidates_71 ?_
  refine lv_iload hx hb dM_candidates_74 (lv_at hl 0 rfl) ?_
  refine lv_aload_n hx hb dM_candidates_76 rfl (lv_at hl 1 rfl) ?_
  refine bm_get (ci := 7) (v := .ref (m + 11)) (C := "BlindMintModel") (T := bt_M) (N := 22) hx hb hts bu_M hown hK hM hP.c0 rfl 15 (by decide) (hts _ bw_617) (fun _ h9 => h9) rfl dM_candidates_77 ?_
  refine lv_iload hx hb dM_candidates_80 (lv_at hl 0 rfl) ?_
  refine bm_lald hx hb hK hM 1 hP.c11 rfl 0 (bm_ix_nI (k := 0) (by decide)) (by decide) dM_candidates_82 ?_
  refine lv_topl (fun t7 e_t7 => ?_)
  have e_t7 : t7 = bm_ca seed 0 := by rw [e_t7]; rfl
  subst e_t7
  refine lv_ldc2 hx hb hown (hts _ bw_708) dM_candidates_83 ?_
  refine lv_iload_n hx hb dM_candidates_86 rfl (lv_at hl 2 rfl) ?_
  refine lv_i2l (v := lN a) hx hb dM_candidates_87 (nI_l (by omega)) ?_
  refine lv_ladd hx hb dM_candidates_88 ?_
  refine lv_topl (fun t8 e_t8 => ?_)
  have e_t8 : t8 = lN (1000 + a) := by rw [e_t8]; exact lN_add 1000 a
  subst e_t8
  refine lv_lxor hx hb dM_candidates_89 ?_
  refine lv_iload hx hb dM_candidates_90 (lv_at hl 4 rfl) ?_
  refine lv_iload hx hb dM_candidates_92 (lv_at hl 0 rfl) ?_
  refine lv_ishr hx hb dM_candidates_94 ?_
  refine lv_iconst (v := 1) hx hb dM_candidates_95 (by decide) ?_
  refine lv_iand hx hb dM_candidates_96 ?_
  refine lv_i2l hx hb dM_candidates_97 rfl ?_
  refine lv_lxor hx hb dM_candidates_98 ?_
  refine lv_topl (fun t9 e_t9 => ?_)
  have e_t9 : t9 = bm_cb seed a ch 0 := by rw [e_t9]; rfl
  subst e_t9
  refine bm_last hx hb hK hM hS 1 hP.c12 rfl 0 (bm_ix_nI (k := 0) (by decide)) (by decide) dM_candidates_99 (fun H locs hz1 hM hS => ?_)
  have hz := hz1.trans hz
  obtain ⟨M10, hM, hP, hF⟩ : ∃ X, bm_M D base X H ∧ bm_MD ct m th tr bl np nd f1 f2 f3 f4 g5 g6 f7 g8 g9 g10 (vp_updL g11 0 (bm_ca seed 0)) (vp_updL g12 0 (bm_cb seed a ch 0)) (vp_updL g13 0 (bm_cc seed 0)) (vp_updL g14 0 (bm_ce seed 0)) g15 f16 g17 X ∧ bm_fr m M X := ⟨_, hM, hP.s12 _, hF.up (by decide)⟩
  refine lv_aload_n hx hb dM_candidates_100 rfl (lv_at hl 1 rfl) ?_
  refine bm_get (ci := 7) (v := .ref (m + 11)) (C := "BlindMintModel") (T := bt_M) (N := 22) hx hb hts bu_M hown hK hM hP.c0 rfl 15 (by decide) (hts _ bw_617) (fun _ h9 => h9) rfl dM_candidates_101 ?_
  refine lv_iload hx hb dM_candidates_104 (lv_at hl 0 rfl) ?_
  refine bm_lald hx hb hK hM 1 hP.c11 rfl 0 (bm_ix_nI (k := 0) (by decide)) (by decide) dM_candidates_106 ?_
  refine lv_topl (fun t11 e_t11 => ?_)
  have e_t11 : t11 = bm_ca seed 0 := by rw [e_t11]; rfl
  subst e_t11
  refine lv_aload_n hx hb dM_candidates_107 rfl (lv_at hl 1 rfl) ?_
  refine bm_get (ci := 7) (v := .ref (m + 13)) (C := "BlindMintModel") (T := bt_M) (N := 22) hx hb hts bu_M hown hK hM hP.c0 rfl 17 (by decide) (hts _ bw_619) (fun _ h9 => h9) rfl dM_candidates_108 ?_
  refine lv_iload hx hb dM_candidates_111 (lv_at hl 0 rfl) ?_
  refine bm_lald hx hb hK hM 1 hP.c13 rfl 0 (bm_ix_nI (k := 0) (by decide)) (by decide) dM_candidates_113 ?_
  refine lv_topl (fun t12 e_t12 => ?_)
  have e_t12 : t12 = bm_cc seed 0 := by rw [e_t12]; rfl
  subst e_t12
  refine bm_callE (va_runS (As := [.long (bm_ca seed 0), .long (bm_cc seed 0)]) (rest := []) ⟨hx, hb, hml, hown, hts⟩ (bc_M_hash2 l D ct base ad M10 sz (bm_ca seed 0) (bm_cc seed 0)) (va_cwS 2 hts (bm_goodS bw_694 bw_695 bw_5 bw_696) rfl rfl rfl (by decide +kernel) (by rw [← hR]; exact ⟨Nat.le_of_ble_eq_true rfl, Nat.le_of_ble_eq_true rfl⟩)) (bm_preS hM hG hS hz) rfl rfl hl.1 rfl (lv_room (Nat.le_of_ble_eq_true rfl)) dM_candidates_114 (by rw [← hR]; exact ⟨Nat.le_of_ble_eq_true rfl, Nat.le_of_ble_eq_true rfl⟩)) hS (fun H locs hz hM hS => ?_)
  refine lv_lstore hx hb dM_candidates_117 hl (by decide) rfl (fun ls hl => ?_)
  have hl : lv_has ls 8 [(6, .long (bm_h2 (bm_ca seed 0) (bm_cc seed 0))), (5, .int 0), (0, .ref m), (1, .int (nI a)), (2, .long seed), (4, .int ch)] := hl
  refine lv_aload_n hx hb dM_candidates_119 rfl (lv_at hl 2 rfl) ?_
  refine bm_get (ci := 7) (v := .ref (m + 15)) (C := "BlindMintModel") (T := bt_M) (N := 22) hx hb hts bu_M hown hK hM hP.c0 rfl 19 (by decide) (hts _ bw_621) (fun _ h9 => h9) rfl dM_candidates_120 ?_
  refine lv_iload hx hb dM_candidates_123 (lv_at hl 1 rfl) ?_
  refine lv_lload hx hb dM_candidates_125 (lv_at hl 0 rfl) ?_
  refine lv_aload_n hx hb dM_candidates_127 rfl (lv_at hl 2 rfl) ?_
  refine bm_get (ci := 7) (v := .ref (m + 12)) (C := "BlindMintModel") (T := bt_M) (N := 22) hx hb hts bu_M hown hK hM hP.c0 rfl 16 (by decide) (hts _ bw_618) (fun _ h9 => h9) rfl dM_candidates_128 ?_
  refine lv_iload hx hb dM_candidates_131 (lv_at hl 1 rfl) ?_
  refine bm_lald hx hb hK hM 1 hP.c12 rfl 0 (bm_ix_nI (k := 0) (by decide)) (by decide) dM_candidates_133 ?_
  refine lv_topl (fun t13 e_t13 => ?_)
  have e_t13 : t13 = bm_cb seed a ch 0 := by rw [e_t13]; rfl
  subst e_t13
  refine lv_aload_n hx hb dM_candidates_134 rfl (lv_at hl 2 rfl) ?_
  refine bm_get (ci := 7) (v := .ref (m + 14)) (C := "BlindMintModel") (T := bt_M) (N := 22) hx hb hts bu_M hown hK hM hP.c0 rfl 18 (by decide) (hts _ bw_620) (fun _ h9 => h9) rfl dM_candidates_135 ?_
  refine lv_iload hx hb dM_candidates_138 (lv_at hl 1 rfl) ?_
  refine bm_lald hx hb hK hM 1 hP.c14 rfl 0 (bm_ix_nI (k := 0) (by decide)) (by decide) dM_candidates_140 ?_
  refine lv_topl (fun t14 e_t14 => ?_)
  have e_t14 : t14 = bm_ce seed 0 := by rw [e_t14]; rfl
  subst e_t14
  refine bm_callE (va_runS (As := [.long (bm_cb seed a ch 0), .long (bm_ce seed 0)]) (rest := [.long (bm_h2 (bm_ca seed 0) (bm_cc seed 0)), .int 0, .ref (m + 15)]) ⟨hx, hb, hml, hown, hts⟩ (bc_M_hash2 l D ct base ad M10 sz (bm_cb seed a ch 0) (bm_ce seed 0)) (va_cwS 2 hts (bm_goodS bw_694 bw_695 bw_5 bw_696) rfl rfl rfl (by decide +kernel) (by rw [← hR]; exact ⟨Nat.le_of_ble_eq_true rfl, Nat.le_of_ble_eq_true rfl⟩)) (bm_preS hM hG hS hz) rfl rfl hl.1 rfl (lv_room (Nat.le_of_ble_eq_true rfl)) dM_candidates_141 (by rw [← hR]; exact ⟨Nat.le_of_ble_eq_true rfl, Nat.le_of_ble_eq_true rfl⟩)) hS (fun H locs hz hM hS => ?_)
  refine bm_callE (va_runS (As := [.long (bm_h2 (bm_ca seed 0) (bm_cc seed 0)), .long (bm_h2 (bm_cb seed a ch 0) (bm_ce seed 0))]) (rest := [.int 0, .ref (m + 15)]) ⟨hx, hb, hml, hown, hts⟩ (bc_M_hash2 l D ct base ad M10 sz (bm_h2 (bm_ca seed 0) (bm_cc seed 0)) (bm_h2 (bm_cb seed a ch 0) (bm_ce seed 0))) (va_cwS 2 hts (bm_goodS bw_694 bw_695 bw_5 bw_696) rfl rfl rfl (by decide +kernel) (by rw [← hR]; exact ⟨Nat.le_of_ble_eq_true rfl, Nat.le_of_ble_eq_true rfl⟩)) (bm_preS hM hG hS hz) rfl rfl hl.1 rfl (lv_room (Nat.le_of_ble_eq_true rfl)) dM_candidates_144 (by rw [← hR]; exact ⟨Nat.le_of_ble_eq_true rfl, Nat.le_of_ble_eq_true rfl⟩)) hS (fun H locs hz hM hS => ?_)
  refine bm_last hx hb hK hM hS 1 hP.c15 rfl 0 (bm_ix_nI (k := 0) (by decide)) (by decide) dM_candidates_147 (fun H locs hz1 hM hS => ?_)
  have hz := hz1.trans hz
  obtain ⟨M15, hM, hP, hF⟩ : ∃ X, bm_M D base X H ∧ bm_MD ct m th tr bl np nd f1 f2 f3 f4 g5 g6 f7 g8 g9 g10 (vp_updL g11 0 (bm_ca seed 0)) (vp_updL g12 0 (bm_cb seed a ch 0)) (vp_updL g13 0 (bm_cc seed 0)) (vp_updL g14 0 (bm_ce seed 0)) (vp_updL g15 0 (bm_cp seed a ch 0)) f16 g17 X ∧ bm_fr m M X := ⟨_, hM, hP.s15 _, hF.up (by decide)⟩
  refine lv_aload_n hx hb dM_candidates_148 rfl (lv_at hl 2 rfl) ?_
  refine bm_get (ci := 7) (v := .ref (m + 16)) (C := "BlindMintModel") (T := bt_M) (N := 22) hx hb hts bu_M hown hK hM hP.c0 rfl 20 (by decide) (hts _ bw_622) (fun _ h9 => h9) rfl dM_candidates_149 ?_
  refine lv_iload hx hb dM_candidates_152 (lv_at hl 1 rfl) ?_
  refine lv_iconst (v := 1) hx hb dM_candidates_154 (by decide) ?_
  refine bm_zast hx hb hK hM hS 2 hP.c16 rfl 0 (bm_ix_nI (k := 0) (by decide)) (by decide) dM_candidates_155 (fun H locs hz1 hM hS => ?_)
  have hz := hz1.trans hz
  obtain ⟨M16, hM, hP, hF⟩ : ∃ X, bm_M D base X H ∧ bm_MD ct m th tr bl np nd f1 f2 f3 f4 g5 g6 f7 g8 g9 g10 (vp_updL g11 0 (bm_ca seed 0)) (vp_updL g12 0 (bm_cb seed a ch 0)) (vp_updL g13 0 (bm_cc seed 0)) (vp_updL g14 0 (bm_ce seed 0)) (vp_updL g15 0 (bm_cp seed a ch 0)) (upd f16 0 (vp_nar .boolean 1)) g17 X ∧ bm_fr m M X := ⟨_, hM, hP.s16 _, hF.up (by decide)⟩
  refine lv_iinc (v := 1) (k := 1) hx hb dM_candidates_156 hl rfl (by decide) (by decide) rfl (fun ls hl => ?_)
  have hl : lv_has ls 8 [(5, .int 1), (6, .long (bm_h2 (bm_ca seed 0) (bm_cc seed 0))), (0, .ref m), (1, .int (nI a)), (2, .long seed), (4, .int ch)] := hl
  refine lv_goto (tgt := 3) hx hb dM_candidates_159 rfl ?_
  refine lv_iload hx hb dM_candidates_3 (lv_at hl 0 rfl) ?_
  refine lv_bipush (v := 6) hx hb dM_candidates_5 (by decide) ?_
  refine lv_icmp_ge (tgt := 162) hx hb dM_candidates_7 rfl (fun h => absurd h (by decide)) (fun _ => ?_)
  refine lv_aload_n hx hb dM_candidates_10 rfl (lv_at hl 2 rfl) ?_
  refine bm_get (ci := 7) (v := .ref (m + 11)) (C := "BlindMintModel") (T := bt_M) (N := 22) hx hb hts bu_M hown hK hM hP.c0 rfl 15 (by decide) (hts _ bw_617) (fun _ h9 => h9) rfl dM_candidates_11 ?_
  refine lv_iload hx hb dM_candidates_14 (lv_at hl 0 rfl) ?_
  refine lv_lload_n hx hb dM_candidates_16 rfl (lv_at hl 4 rfl) ?_
  refine lv_ldc2 hx hb hown (hts _ bw_693) dM_candidates_17 ?_
  refine lv_iload hx hb dM_candidates_20 (lv_at hl 0 rfl) ?_
  refine lv_i2l (v := 1) hx hb dM_candidates_22 (by decide) ?_
  refine lv_lmul hx hb dM_candidates_23 ?_
  refine lv_topl (fun t17 e_t17 => ?_)
  have e_t17 : t17 = lN (3 * 1) := by rw [e_t17]; decide
  subst e_t17
  refine bm_callE (va_runS (As := [.long seed, .long (lN (3 * 1))]) (rest := [.int 1, .ref (m + 11)]) ⟨hx, hb, hml, hown, hts⟩ (bc_M_hash2 l D ct base ad M16 sz seed (lN (3 * 1))) (va_cwS 2 hts (bm_goodS bw_694 bw_695 bw_5 bw_696) rfl rfl rfl (by decide +kernel) (by rw [← hR]; exact ⟨Nat.le_of_ble_eq_true rfl, Nat.le_of_ble_eq_true rfl⟩)) (bm_preS hM hG hS hz) rfl rfl hl.1 rfl (lv_room (Nat.le_of_ble_eq_true rfl)) dM_candidates_24 (by rw [← hR]; exact ⟨Nat.le_of_ble_eq_true rfl, Nat.le_of_ble_eq_true rfl⟩)) hS (fun H locs hz hM hS => ?_)
  refine bm_last hx hb hK hM hS 1 hP.c11 rfl 1 (bm_ix_nI (k := 1) (by decide)) (by decide) dM_candidates_27 (fun H locs hz1 hM hS => ?_)
  have hz := hz1.trans hz
  obtain ⟨M18, hM, hP, hF⟩ : ∃ X, bm_M D base X H ∧ bm_MD ct m th tr bl np nd f1 f2 f3 f4 g5 g6 f7 g8 g9 g10 (vp_updL (vp_updL g11 0 (bm_ca seed 0)) 1 (bm_ca seed 1)) (vp_updL g12 0 (bm_cb seed a ch 0)) (vp_updL g13 0 (bm_cc seed 0)) (vp_updL g14 0 (bm_ce seed 0)) (vp_updL g15 0 (bm_cp seed a ch 0)) (upd f16 0 (vp_nar .boolean 1)) g17 X ∧ bm_fr m M X := ⟨_, hM, hP.s11 _, hF.up (by decide)⟩
  refine lv_aload_n hx hb dM_candidates_28 rfl (lv_at hl 2 rfl) ?_
  refine bm_get (ci := 7) (v := .ref (m + 13)) (C := "BlindMintModel") (T := bt_M) (N := 22) hx hb hts bu_M hown hK hM hP.c0 rfl 17 (by decide) (hts _ bw_619) (fun _ h9 => h9) rfl dM_candidates_29 ?_
  refine lv_iload hx hb dM_candidates_32 (lv_at hl 0 rfl) ?_
  refine lv_lload_n hx hb dM_candidates_34 rfl (lv_at hl 4 rfl) ?_
  refine lv_ldc2 hx hb hown (hts _ bw_693) dM_candidates_35 ?_
  refine lv_iload hx hb dM_candidates_38 (lv_at hl 0 rfl) ?_
  refine lv_i2l (v := 1) hx hb dM_candidates_40 (by decide) ?_
  refine lv_lmul hx hb dM_candidates_41 ?_
  refine lv_lconst (v := 1) hx hb dM_candidates_42 (by decide) ?_
  refine lv_ladd hx hb dM_candidates_43 ?_
  refine lv_topl (fun t19 e_t19 => ?_)
  have e_t19 : t19 = lN (3 * 1 + 1) := by rw [e_t19]; decide
  subst e_t19
  refine bm_callE (va_runS (As := [.long seed, .long (lN (3 * 1 + 1))]) (rest := [.int 1, .ref (m + 13)]) ⟨hx, hb, hml, hown, hts⟩ (bc_M_hash2 l D ct base ad M18 sz seed (lN (3 * 1 + 1))) (va_cwS 2 hts (bm_goodS bw_694 bw_695 bw_5 bw_696) rfl rfl rfl (by decide +kernel) (by rw [← hR]; exact ⟨Nat.le_of_ble_eq_true rfl, Nat.le_of_ble_eq_true rfl⟩)) (bm_preS hM hG hS hz) rfl rfl hl.1 rfl (lv_room (Nat.le_of_ble_eq_true rfl)) dM_candidates_44 (by rw [← hR]; exact ⟨Nat.le_of_ble_eq_true rfl, Nat.le_of_ble_eq_true rfl⟩)) hS (fun H locs hz hM hS => ?_)
  refine bm_last hx hb hK hM hS 1 hP.c13 rfl 1 (bm_ix_nI (k := 1) (by decide)) (by decide) dM_candidates_47 (fun H locs hz1 hM hS => ?_)
  have hz := hz1.trans hz
  obtain ⟨M20, hM, hP, hF⟩ : ∃ X, bm_M D base X H ∧ bm_MD ct m th tr bl np nd f1 f2 f3 f4 g5 g6 f7 g8 g9 g10 (vp_updL (vp_updL g11 0 (bm_ca seed 0)) 1 (bm_ca seed 1)) (vp_updL g12 0 (bm_cb seed a ch 0)) (vp_updL (vp_updL g13 0 (bm_cc seed 0)) 1 (bm_cc seed 1)) (vp_updL g14 0 (bm_ce seed 0)) (vp_updL g15 0 (bm_cp seed a ch 0)) (upd f16 0 (vp_nar .boolean 1)) g17 X ∧ bm_fr m M X := ⟨_, hM, hP.s13 _, hF.up (by decide)⟩
  refine lv_aload_n hx hb dM_candidates_48 rfl (lv_at hl 2 rfl) ?_
  refine bm_get (ci := 7) (v := .ref (m + 14)) (C := "BlindMintModel") (T := bt_M) (N := 22) hx hb hts bu_M hown hK hM hP.c0 rfl 18 (by decide) (hts _ bw_620) (fun _ h9 => h9) rfl dM_candidates_49 ?_
  refine lv_iload hx hb dM_candidates_52 (lv_at hl 0 rfl) ?_
  refine lv_lload_n hx hb dM_candidates_54 rfl (lv_at hl 4 rfl) ?_
  refine lv_ldc2 hx hb hown (hts _ bw_693) dM_candidates_55 ?_
  refine lv_iload hx hb dM_candidates_58 (lv_at hl 0 rfl) ?_
  refine lv_i2l (v := 1) hx hb dM_candidates_60 (by decide) ?_
  refine lv_lmul hx hb dM_candidates_61 ?_
  refine lv_ldc2 hx hb hown (hts _ bw_707) dM_candidates_62 ?_
  refine lv_ladd hx hb dM_candidates_65 ?_
  refine lv_topl (fun t21 e_t21 => ?_)
  have e_t21 : t21 = lN (3 * 1 + 2) := by rw [e_t21]; decide
  subst e_t21
  refine bm_callE (va_runS (As := [.long seed, .long (lN (3 * 1 + 2))]) (rest := [.int 1, .ref (m + 14)]) ⟨hx, hb, hml, hown, hts⟩ (bc_M_hash2 l D ct base ad M20 sz seed (lN (3 * 1 + 2))) (va_cwS 2 hts (bm_goodS bw_694 bw_695 bw_5 bw_696) rfl rfl rfl (by decide +kernel) (by rw [← hR]; exact ⟨Nat.le_of_ble_eq_true rfl, Nat.le_of_ble_eq_true rfl⟩)) (bm_preS hM hG hS hz) rfl rfl hl.1 rfl (lv_room (Nat.le_of_ble_eq_true rfl)) dM_candidates_66 (by rw [← hR]; exact ⟨Nat.le_of_ble_eq_true rfl, Nat.le_of_ble_eq_true rfl⟩)) hS (fun H locs hz hM hS => ?_)
  refine bm_last hx hb hK hM hS 1 hP.c14 rfl 1 (bm_ix_nI (k := 1) (by decide)) (by decide) dM_candidates_69 (fun H locs hz1 hM hS => ?_)
  have hz := hz1.trans hz
  obtain ⟨M22, hM, hP, hF⟩ : ∃ X, bm_M D base X H ∧ bm_MD ct m th tr bl np nd f1 f2 f3 f4 g5 g6 f7 g8 g9 g10 (vp_updL (vp_updL g11 0 (bm_ca seed 0)) 1 (bm_ca seed 1)) (vp_updL g12 0 (bm_cb seed a ch 0)) (vp_updL (vp_updL g13 0 (bm_cc seed 0)) 1 (bm_cc seed 1)) (vp_updL (vp_updL g14 0 (bm_ce seed 0)) 1 (bm_ce seed 1)) (vp_updL g15 0 (bm_cp seed a ch 0)) (upd f16 0 (vp_nar .boolean 1)) g17 X ∧ bm_fr m M X := ⟨_, hM, hP.s14 _, hF.up (by decide)⟩
  refine lv_aload_n hx hb dM_candidates_70 rfl (lv_at hl 2 rfl) ?_
  refine bm_get (ci := 7) (v := .ref (m + 12)) (C := "BlindMintModel") (T := bt_M) (N := 22) hx hb hts bu_M hown hK hM hP.c0 rfl 16 (by decide) (hts _ bw_618) (fun _ h9 => h9) rfl dM_candidates_71 ?_
  refine lv_iload hx hb dM_candidates_74 (lv_at hl 0 rfl) ?_
  refine lv_aload_n hx hb dM_candidates_76 rfl (lv_at hl 2 rfl) ?_
  refine bm_get (ci := 7) (v := .ref (m + 11)) (C := "BlindMintModel") (T := bt_M) (N := 22) hx hb hts bu_M hown hK hM hP.c0 rfl 15 (by decide) (hts _ bw_617) (fun _ h9 => h9) rfl dM_candidates_77 ?_
  refine lv_iload hx hb dM_candidates_80 (lv_at hl 0 rfl) ?_
  refine bm_lald hx hb hK hM 1 hP.c11 rfl 1 (bm_ix_nI (k := 1) (by decide)) (by decide) dM_candidates_82 ?_
  refine lv_topl (fun t23 e_t23 => ?_)
  have e_t23 : t23 = bm_ca seed 1 := by rw [e_t23]; rfl
  subst e_t23
  refine lv_ldc2 hx hb hown (hts _ bw_708) dM_candidates_83 ?_
  refine lv_iload_n hx hb dM_candidates_86 rfl (lv_at hl 3 rfl) ?_
  refine lv_i2l (v := lN a) hx hb dM_candidates_87 (nI_l (by omega)) ?_
  refine lv_ladd hx hb dM_candidates_88 ?_
  refine lv_topl (fun t24 e_t24 => ?_)
  have e_t24 : t24 = lN (1000 + a) := by rw [e_t24]; exact lN_add 1000 a
  subst e_t24
  refine lv_lxor hx hb dM_candidates_89 ?_
  refine lv_iload hx hb dM_candidates_90 (lv_at hl 5 rfl) ?_
  refine lv_iload hx hb dM_candidates_92 (lv_at hl 0 rfl) ?_
  refine lv_ishr hx hb dM_candidates_94 ?_
  refine lv_iconst (v := 1) hx hb dM_candidates_95 (by decide) ?_
  refine lv_iand hx hb dM_candidates_96 ?_
  refine lv_i2l hx hb dM_candidates_97 rfl ?_
  refine lv_lxor hx hb dM_candidates_98 ?_
  refine lv_topl (fun t25 e_t25 => ?_)
  have e_t25 : t25 = bm_cb seed a ch 1 := by rw [e_t25]; rfl
  subst e_t25
  refine bm_last hx hb hK hM hS 1 hP.c12 rfl 1 (bm_ix_nI (k := 1) (by decide)) (by decide) dM_candidates_99 (fun H locs hz1 hM hS => ?_)
  have hz := hz1.trans hz
  obtain ⟨M26, hM, hP, hF⟩ : ∃ X, bm_M D base X H ∧ bm_MD ct m th tr bl np nd f1 f2 f3 f4 g5 g6 f7 g8 g9 g10 (vp_updL (vp_updL g11 0 (bm_ca seed 0)) 1 (bm_ca seed 1)) (vp_updL (vp_updL g12 0 (bm_cb seed a ch 0)) 1 (bm_cb seed a ch 1)) (vp_updL (vp_updL g13 0 (bm_cc seed 0)) 1 (bm_cc seed 1)) (vp_updL (vp_updL g14 0 (bm_ce seed 0)) 1 (bm_ce seed 1)) (vp_updL g15 0 (bm_cp seed a ch 0)) (upd f16 0 (vp_nar .boolean 1)) g17 X ∧ bm_fr m M X := ⟨_, hM, hP.s12 _, hF.up (by decide)⟩
  refine lv_aload_n hx hb dM_candidates_100 rfl (lv_at hl 2 rfl) ?_
  refine bm_get (ci := 7) (v := .ref (m + 11)) (C := "BlindMintModel") (T := bt_M) (N := 22) hx hb hts bu_M hown hK hM hP.c0 rfl 15 (by decide) (hts _ bw_617) (fun _ h9 => h9) rfl dM_candidates_101 ?_
  refine lv_iload hx hb dM_candidates_104 (lv_at hl 0 rfl) ?_
  refine bm_lald hx hb hK hM 1 hP.c11 rfl 1 (bm_ix_nI (k := 1) (by decide)) (by decide) dM_candidates_106 ?_
  refine lv_topl (fun t27 e_t27 => ?_)
  have e_t27 : t27 = bm_ca seed 1 := by rw [e_t27]; rfl
  subst e_t27
  refine lv_aload_n hx hb dM_candidates_107 rfl (lv_at hl 2 rfl) ?_
  refine bm_get (ci := 7) (v := .ref (m + 13)) (C := "BlindMintModel") (T := bt_M) (N := 22) hx hb hts bu_M hown hK hM hP.c0 rfl 17 (by decide) (hts _ bw_619) (fun _ h9 => h9) rfl dM_candidates_108 ?_
  refine lv_iload hx hb dM_candidates_111 (lv_at hl 0 rfl) ?_
  refine bm_lald hx hb hK hM 1 hP.c13 rfl 1 (bm_ix_nI (k := 1) (by decide)) (by decide) dM_candidates_113 ?_
  refine lv_topl (fun t28 e_t28 => ?_)
  have e_t28 : t28 = bm_cc seed 1 := by rw [e_t28]; rfl
  subst e_t28
  refine bm_callE (va_runS (As := [.long (bm_ca seed 1), .long (bm_cc seed 1)]) (rest := []) ⟨hx, hb, hml, hown, hts⟩ (bc_M_hash2 l D ct base ad M26 sz (bm_ca seed 1) (bm_cc seed 1)) (va_cwS 2 hts (bm_goodS bw_694 bw_695 bw_5 bw_696) rfl rfl rfl (by decide +kernel) (by rw [← hR]; exact ⟨Nat.le_of_ble_eq_true rfl, Nat.le_of_ble_eq_true rfl⟩)) (bm_preS hM hG hS hz) rfl rfl hl.1 rfl (lv_room (Nat.le_of_ble_eq_true rfl)) dM_candidates_114 (by rw [← hR]; exact ⟨Nat.le_of_ble_eq_true rfl, Nat.le_of_ble_eq_true rfl⟩)) hS (fun H locs hz hM hS => ?_)
  refine lv_lstore hx hb dM_candidates_117 hl (by decide) rfl (fun ls hl => ?_)
  have hl : lv_has ls 8 [(6, .long (bm_h2 (bm_ca seed 1) (bm_cc seed 1))), (5, .int 1), (0, .ref m), (1, .int (nI a)), (2, .long seed), (4, .int ch)] := hl
  refine lv_aload_n hx hb dM_candidates_119 rfl (lv_at hl 2 rfl) ?_
  refine bm_get (ci := 7) (v := .ref (m + 15)) (C := "BlindMintModel") (T := bt_M) (N := 22) hx hb hts bu_M hown hK hM hP.c0 rfl 19 (by decide) (hts _ bw_621) (fun _ h9 => h9) rfl dM_candidates_120 ?_
  refine lv_iload hx hb dM_candidates_123 (lv_at hl 1 rfl) ?_
  refine lv_lload hx hb dM_candidates_125 (lv_at hl 0 rfl) ?_
  refine lv_aload_n hx hb dM_candidates_127 rfl (lv_at hl 2 rfl) ?_
  refine bm_get (ci := 7) (v := .ref (m + 12)) (C := "BlindMintModel") (T := bt_M) (N := 22) hx hb hts bu_M hown hK hM hP.c0 rfl 16 (by decide) (hts _ bw_618) (fun _ h9 => h9) rfl dM_candidates_128 ?_
  refine lv_iload hx hb dM_candidates_131 (lv_at hl 1 rfl) ?_
  refine bm_lald hx hb hK hM 1 hP.c12 rfl 1 (bm_ix_nI (k := 1) (by decide)) (by decide) dM_candidates_133 ?_
  refine lv_topl (fun t29 e_t29 => ?_)
  have e_t29 : t29 = bm_cb seed a ch 1 := by rw [e_t29]; rfl
  subst e_t29
  refine lv_aload_n hx hb dM_candidates_134 rfl (lv_at hl 2 rfl) ?_
  refine bm_get (ci := 7) (v := .ref (m + 14)) (C := "BlindMintModel") (T := bt_M) (N := 22) hx hb hts bu_M hown hK hM hP.c0 rfl 18 (by decide) (hts _ bw_620) (fun _ h9 => h9) rfl dM_candidates_135 ?_
  refine lv_iload hx hb dM_candidates_138 (lv_at hl 1 rfl) ?_
  refine bm_lald hx hb hK hM 1 hP.c14 rfl 1 (bm_ix_nI (k := 1) (by decide)) (by decide) dM_candidates_140 ?_
  refine lv_topl (fun t30 e_t30 => ?_)
  have e_t30 : t30 = bm_ce seed 1 := by rw [e_t30]; rfl
  subst e_t30
  refine bm_callE (va_runS (As := [.long (bm_cb seed a ch 1), .long (bm_ce seed 1)]) (rest := [.long (bm_h2 (bm_ca seed 1) (bm_cc seed 1)), .int 1, .ref (m + 15)]) ⟨hx, hb, hml, hown, hts⟩ (bc_M_hash2 l D ct base ad M26 sz (bm_cb seed a ch 1) (bm_ce seed 1)) (va_cwS 2 hts (bm_goodS bw_694 bw_695 bw_5 bw_696) rfl rfl rfl (by decide +kernel) (by rw [← hR]; exact ⟨Nat.le_of_ble_eq_true rfl, Nat.le_of_ble_eq_true rfl⟩)) (bm_preS hM hG hS hz) rfl rfl hl.1 rfl (lv_room (Nat.le_of_ble_eq_true rfl)) dM_candidates_141 (by rw [← hR]; exact ⟨Nat.le_of_ble_eq_true rfl, Nat.le_of_ble_eq_true rfl⟩)) hS (fun H locs hz hM hS => ?_)
  refine bm_callE (va_runS (As := [.long (bm_h2 (bm_ca seed 1) (bm_cc seed 1)), .long (bm_h2 (bm_cb seed a ch 1) (bm_ce seed 1))]) (rest := [.int 1, .ref (m + 15)]) ⟨hx, hb, hml, hown, hts⟩ (bc_M_hash2 l D ct base ad M26 sz (bm_h2 (bm_ca seed 1) (bm_cc seed 1)) (bm_h2 (bm_cb seed a ch 1) (bm_ce seed 1))) (va_cwS 2 hts (bm_goodS bw_694 bw_695 bw_5 bw_696) rfl rfl rfl (by decide +kernel) (by rw [← hR]; exact ⟨Nat.le_of_ble_eq_true rfl, Nat.le_of_ble_eq_true rfl⟩)) (bm_preS hM hG hS hz) rfl rfl hl.1 rfl (lv_room (Nat.le_of_ble_eq_true rfl)) dM_candidates_144 (by rw [← hR]; exact ⟨Nat.le_of_ble_eq_true rfl, Nat.le_of_ble_eq_true rfl⟩)) hS (fun H locs hz hM hS => ?_)
  refine bm_last hx hb hK hM hS 1 hP.c15 rfl 1 (bm_ix_nI (k := 1) (by decide)) (by decide) dM_candidates_147 (fun H locs hz1 hM hS => ?_)
  have hz := hz1.trans hz
  obtain ⟨M31, hM, hP, hF⟩ : ∃ X, bm_M D base X H ∧ bm_MD ct m th tr bl np nd f1 f2 f3 f4 g5 g6 f7 g8 g9 g10 (vp_updL (vp_updL g11 0 (bm_ca seed 0)) 1 (bm_ca seed 1)) (vp_updL (vp_updL g12 0 (bm_cb seed a ch 0)) 1 (bm_cb seed a ch 1)) (vp_updL (vp_updL g13 0 (bm_cc seed 0)) 1 (bm_cc seed 1)) (vp_updL (vp_updL g14 0 (bm_ce seed 0)) 1 (bm_ce seed 1)) (vp_updL (vp_updL g15 0 (bm_cp seed a ch 0)) 1 (bm_cp seed a ch 1)) (upd f16 0 (vp_nar .boolean 1)) g17 X ∧ bm_fr m M X := ⟨_, hM, hP.s15 _, hF.up (by decide)⟩
  refine lv_aload_n hx hb dM_candidates_148 rfl (lv_at hl 2 rfl) ?_
  refine bm_get (ci := 7) (v := .ref (m + 16)) (C := "BlindMintModel") (T := bt_M) (N := 22) hx hb hts bu_M hown hK hM hP.c0 rfl 20 (by decide) (hts _ bw_622) (fun _ h9 => h9) rfl dM_candidates_149 ?_
  refine lv_iload hx hb dM_candidates_152 (lv_at hl 1 rfl) ?_
  refine lv_iconst (v := 1) hx hb dM_candidates_154 (by decide) ?_
  refine bm_zast hx hb hK hM hS 2 hP.c16 rfl 1 (bm_ix_nI (k := 1) (by decide)) (by decide) dM_candidates_155 (fun H locs hz1 hM hS => ?_)
  have hz := hz1.trans hz
  obtain ⟨M32, hM, hP, hF⟩ : ∃ X, bm_M D base X H ∧ bm_MD ct m th tr bl np nd f1 f2 f3 f4 g5 g6 f7 g8 g9 g10 (vp_updL (vp_updL g11 0 (bm_ca seed 0)) 1 (bm_ca seed 1)) (vp_updL (vp_updL g12 0 (bm_cb seed a ch 0)) 1 (bm_cb seed a ch 1)) (vp_updL (vp_updL g13 0 (bm_cc seed 0)) 1 (bm_cc seed 1)) (vp_updL (vp_updL g14 0 (bm_ce seed 0)) 1 (bm_ce seed 1)) (vp_updL (vp_updL g15 0 (bm_cp seed a ch 0)) 1 (bm_cp seed a ch 1)) (upd (upd f16 0 (vp_nar .boolean 1)) 1 (vp_nar .boolean 1)) g17 X ∧ bm_fr m M X := ⟨_, hM, hP.s16 _, hF.up (by decide)⟩
  refine lv_iinc (v := 2) (k := 1) hx hb dM_candidates_156 hl rfl (by decide) (by decide) rfl (fun ls hl => ?_)
  have hl : lv_has ls 8 [(5, .int 2), (6, .long (bm_h2 (bm_ca seed 1) (bm_cc seed 1))), (0, .ref m), (1, .int (nI a)), (2, .long seed), (4, .int ch)] := hl
  refine lv_goto (tgt := 3) hx hb dM_candidates_159 rfl ?_
  refine lv_iload hx hb dM_candidates_3 (lv_at hl 0 rfl) ?_
  refine lv_bipush (v := 6) hx hb dM_candidates_5 (by decide) ?_
  refine lv_icmp_ge (tgt := 162) hx hb dM_candidates_7 rfl (fun h => absurd h (by decide)) (fun _ => ?_)
  refine lv_aload_n hx hb dM_candidates_10 rfl (lv_at hl 2 rfl) ?_
  refine bm_get (ci := 7) (v := .ref (m + 11)) (C := "BlindMintModel") (T := bt_M) (N := 22) hx hb hts bu_M hown hK hM hP.c0 rfl 15 (by decide) (hts _ bw_617) (fun _ h9 => h9) rfl dM_candidates_11 ?_
  refine lv_iload hx hb dM_candidates_14 (lv_at hl 0 rfl) ?_
  refine lv_lload_n hx hb dM_candidates_16 rfl (lv_at hl 4 rfl) ?_
  refine lv_ldc2 hx hb hown (hts _ bw_693) dM_candidates_17 ?_
  refine lv_iload hx hb dM_candidates_20 (lv_at hl 0 rfl) ?_
  refine lv_i2l (v := 2) hx hb dM_candidates_22 (by decide) ?_
  refine lv_lmul hx hb dM_candidates_23 ?_
  refine lv_topl (fun t33 e_t33 => ?_)
  have e_t33 : t33 = lN (3 * 2) := by rw [e_t33]; decide
  subst e_t33
  refine bm_callE (va_runS (As := [.long seed, .long (lN (3 * 2))]) (rest := [.int 2, .ref (m + 11)]) ⟨hx, hb, hml, hown, hts⟩ (bc_M_hash2 l D ct base ad M32 sz seed (lN (3 * 2))) (va_cwS 2 hts (bm_goodS bw_694 bw_695 bw_5 bw_696) rfl rfl rfl (by decide +kernel) (by rw [← hR]; exact ⟨Nat.le_of_ble_eq_true rfl, Nat.le_of_ble_eq_true rfl⟩)) (bm_preS hM hG hS hz) rfl rfl hl.1 rfl (lv_room (Nat.le_of_ble_eq_true rfl)) dM_candidates_24 (by rw [← hR]; exact ⟨Nat.le_of_ble_eq_true rfl, Nat.le_of_ble_eq_true rfl⟩)) hS (fun H locs hz hM hS => ?_)
  refine bm_last hx hb hK hM hS 1 hP.c11 rfl 2 (bm_ix_nI (k := 2) (by decide)) (by decide) dM_candidates_27 (fun H locs hz1 hM hS => ?_)
  have hz := hz1.trans hz
  obtain ⟨M34, hM, hP, hF⟩ : ∃ X, bm_M D base X H ∧ bm_MD ct m th tr bl np nd f1 f2 f3 f4 g5 g6 f7 g8 g9 g10 (vp_updL (vp_updL (vp_updL g11 0 (bm_ca seed 0)) 1 (bm_ca seed 1)) 2 (bm_ca seed 2)) (vp_updL (vp_updL g12 0 (bm_cb seed a ch 0)) 1 (bm_cb seed a ch 1)) (vp_updL (vp_updL g13 0 (bm_cc seed 0)) 1 (bm_cc seed 1)) (vp_updL (vp_updL g14 0 (bm_ce seed 0)) 1 (bm_ce seed 1)) (vp_updL (vp_updL g15 0 (bm_cp seed a ch 0)) 1 (bm_cp seed a ch 1)) (upd (upd f16 0 (vp_nar .boolean 1)) 1 (vp_nar .boolean 1)) g17 X ∧ bm_fr m M X := ⟨_, hM, hP.s11 _, hF.up (by decide)⟩
  refine lv_aload_n hx hb dM_candidates_28 rfl (lv_at hl 2 rfl) ?_
  refine bm_get (ci := 7) (v := .ref (m + 13)) (C := "BlindMintModel") (T := bt_M) (N := 22) hx hb hts bu_M hown hK hM hP.c0 rfl 17 (by decide) (hts _ bw_619) (fun _ h9 => h9) rfl dM_candidates_29 ?_
  refine lv_iload hx hb dM_candidates_32 (lv_at hl 0 rfl) ?_
  refine lv_lload_n hx hb dM_candidates_34 rfl (lv_at hl 4 rfl) ?_
  refine lv_ldc2 hx hb hown (hts _ bw_693) dM_candidates_35 ?_
  refine lv_iload hx hb dM_candidates_38 (lv_at hl 0 rfl) ?_
  refine lv_i2l (v := 2) hx hb dM_candidates_40 (by decide) ?_
  refine lv_lmul hx hb dM_candidates_41 ?_
  refine lv_lconst (v := 1) hx hb dM_candidates_42 (by decide) ?_
  refine lv_ladd hx hb dM_candidates_43 ?_
  refine lv_topl (fun t35 e_t35 => ?_)
  have e_t35 : t35 = lN (3 * 2 + 1) := by rw [e_t35]; decide
  subst e_t35
  refine bm_callE (va_runS (As := [.long seed, .long (lN (3 * 2 + 1))]) (rest := [.int 2, .ref (m + 13)]) ⟨hx, hb, hml, hown, hts⟩ (bc_M_hash2 l D ct base ad M34 sz seed (lN (3 * 2 + 1))) (va_cwS 2 hts (bm_goodS bw_694 bw_695 bw_5 bw_696) rfl rfl rfl (by decide +kernel) (by rw [← hR]; exact ⟨Nat.le_of_ble_eq_true rfl, Nat.le_of_ble_eq_true rfl⟩)) (bm_preS hM hG hS hz) rfl rfl hl.1 rfl (lv_room (Nat.le_of_ble_eq_true rfl)) dM_candidates_44 (by rw [← hR]; exact ⟨Nat.le_of_ble_eq_true rfl, Nat.le_of_ble_eq_true rfl⟩)) hS (fun H locs hz hM hS => ?_)
  refine bm_last hx hb hK hM hS 1 hP.c13 rfl 2 (bm_ix_nI (k := 2) (by decide)) (by decide) dM_candidates_47 (fun H locs hz1 hM hS => ?_)
  have hz := hz1.trans hz
  obtain ⟨M36, hM, hP, hF⟩ : ∃ X, bm_M D base X H ∧ bm_MD ct m th tr bl np nd f1 f2 f3 f4 g5 g6 f7 g8 g9 g10 (vp_updL (vp_updL (vp_updL g11 0 (bm_ca seed 0)) 1 (bm_ca seed 1)) 2 (bm_ca seed 2)) (vp_updL (vp_updL g12 0 (bm_cb seed a ch 0)) 1 (bm_cb seed a ch 1)) (vp_updL (vp_updL (vp_updL g13 0 (bm_cc seed 0)) 1 (bm_cc seed 1)) 2 (bm_cc seed 2)) (vp_updL (vp_updL g14 0 (bm_ce seed 0)) 1 (bm_ce seed 1)) (vp_updL (vp_updL g15 0 (bm_cp seed a ch 0)) 1 (bm_cp seed a ch 1)) (upd (upd f16 0 (vp_nar .boolean 1)) 1 (vp_nar .boolean 1)) g17 X ∧ bm_fr m M X := ⟨_, hM, hP.s13 _, hF.up (by decide)⟩
  refine lv_aload_n hx hb dM_candidates_48 rfl (lv_at hl 2 rfl) ?_
  refine bm_get (ci := 7) (v := .ref (m + 14)) (C := "BlindMintModel") (T := bt_M) (N := 22) hx hb hts bu_M hown hK hM hP.c0 rfl 18 (by decide) (hts _ bw_620) (fun _ h9 => h9) rfl dM_candidates_49 ?_
  refine lv_iload hx hb dM_candidates_52 (lv_at hl 0 rfl) ?_
  refine lv_lload_n hx hb dM_candidates_54 rfl (lv_at hl 4 rfl) ?_
  refine lv_ldc2 hx hb hown (hts _ bw_693) dM_candidates_55 ?_
  refine lv_iload hx hb dM_candidates_58 (lv_at hl 0 rfl) ?_
  refine lv_i2l (v := 2) hx hb dM_candidates_60 (by decide) ?_
  refine lv_lmul hx hb dM_candidates_61 ?_
  refine lv_ldc2 hx hb hown (hts _ bw_707) dM_candidates_62 ?_
  refine lv_ladd hx hb dM_candidates_65 ?_
  refine lv_topl (fun t37 e_t37 => ?_)
  have e_t37 : t37 = lN (3 * 2 + 2) := by rw [e_t37]; decide
  subst e_t37
  refine bm_callE (va_runS (As := [.long seed, .long (lN (3 * 2 + 2))]) (rest := [.int 2, .ref (m + 14)]) ⟨hx, hb, hml, hown, hts⟩ (bc_M_hash2 l D ct base ad M36 sz seed (lN (3 * 2 + 2))) (va_cwS 2 hts (bm_goodS bw_694 bw_695 bw_5 bw_696) rfl rfl rfl (by decide +kernel) (by rw [← hR]; exact ⟨Nat.le_of_ble_eq_true rfl, Nat.le_of_ble_eq_true rfl⟩)) (bm_preS hM hG hS hz) rfl rfl hl.1 rfl (lv_room (Nat.le_of_ble_eq_true rfl)) dM_candidates_66 (by rw [← hR]; exact ⟨Nat.le_of_ble_eq_true rfl, Nat.le_of_ble_eq_true rfl⟩)) hS (fun H locs hz hM hS => ?_)
  refine bm_last hx hb hK hM hS 1 hP.c14 rfl 2 (bm_ix_nI (k := 2) (by decide)) (by decide) dM_candidates_69 (fun H locs hz1 hM hS => ?_)
  have hz := hz1.trans hz
  obtain ⟨M38, hM, hP, hF⟩ : ∃ X, bm_M D base X H ∧ bm_MD ct m th tr bl np nd f1 f2 f3 f4 g5 g6 f7 g8 g9 g10 (vp_updL (vp_updL (vp_updL g11 0 (bm_ca seed 0)) 1 (bm_ca seed 1)) 2 (bm_ca seed 2)) (vp_updL (vp_updL g12 0 (bm_cb seed a ch 0)) 1 (bm_cb seed a ch 1)) (vp_updL (vp_updL (vp_updL g13 0 (bm_cc seed 0)) 1 (bm_cc seed 1)) 2 (bm_cc seed 2)) (vp_updL (vp_updL (vp_updL g14 0 (bm_ce seed 0)) 1 (bm_ce seed 1)) 2 (bm_ce seed 2)) (vp_updL (vp_updL g15 0 (bm_cp seed a ch 0)) 1 (bm_cp seed a ch 1)) (upd (upd f16 0 (vp_nar .boolean 1)) 1 (vp_nar .boolean 1)) g17 X ∧ bm_fr m M X := ⟨_, hM, hP.s14 _, hF.up (by decide)⟩
  refine lv_aload_n hx hb dM_candidates_70 rfl (lv_at hl 2 rfl) ?_
  refine bm_get (ci := 7) (v := .ref (m + 12)) (C := "BlindMintModel") (T := bt_M) (N := 22) hx hb hts bu_M hown hK hM hP.c0 rfl 16 (by decide) (hts _ bw_618) (fun _ h9 => h9) rfl dM_candidates_71 ?_
  refine lv_iload hx hb dM_candidates_74 (lv_at hl 0 rfl) ?_
  refine lv_aload_n hx hb dM_candidates_76 rfl (lv_at hl 2 rfl) ?_
  refine bm_get (ci := 7) (v := .ref (m + 11)) (C := "BlindMintModel") (T := bt_M) (N := 22) hx hb hts bu_M hown hK hM hP.c0 rfl 15 (by decide) (hts _ bw_617) (fun _ h9 => h9) rfl dM_candidates_77 ?_
  refine lv_iload hx hb dM_candidates_80 (lv_at hl 0 rfl) ?_
  refine bm_lald hx hb hK hM 1 hP.c11 rfl 2 (bm_ix_nI (k := 2) (by decide)) (by decide) dM_candidates_82 ?_
  refine lv_topl (fun t39 e_t39 => ?_)
  have e_t39 : t39 = bm_ca seed 2 := by rw [e_t39]; rfl
  subst e_t39
  refine lv_ldc2 hx hb hown (hts _ bw_708) dM_candidates_83 ?_
  refine lv_iload_n hx hb dM_candidates_86 rfl (lv_at hl 3 rfl) ?_
  refine lv_i2l (v := lN a) hx hb dM_candidates_87 (nI_l (by omega)) ?_
  refine lv_ladd hx hb dM_candidates_88 ?_
  refine lv_topl (fun t40 e_t40 => ?_)
  have e_t40 : t40 = lN (1000 + a) := by rw [e_t40]; exact lN_add 1000 a
  subst e_t40
  refine lv_lxor hx hb dM_candidates_89 ?_
  refine lv_iload hx hb dM_candidates_90 (lv_at hl 5 rfl) ?_
  refine lv_iload hx hb dM_candidates_92 (lv_at hl 0 rfl) ?_
  refine lv_ishr hx hb dM_candidates_94 ?_
  refine lv_iconst (v := 1) hx hb dM_candidates_95 (by decide) ?_
  refine lv_iand hx hb dM_candidates_96 ?_
  refine lv_i2l hx hb dM_candidates_97 rfl ?_
  refine lv_lxor hx hb dM_candidates_98 ?_
  refine lv_topl (fun t41 e_t41 => ?_)
  have e_t41 : t41 = bm_cb seed a ch 2 := by rw [e_t41]; rfl
  subst e_t41
  refine bm_last hx hb hK hM hS 1 hP.c12 rfl 2 (bm_ix_nI (k := 2) (by decide)) (by decide) dM_candidates_99 (fun H locs hz1 hM hS => ?_)
  have hz := hz1.trans hz
  obtain ⟨M42, hM, hP, hF⟩ : ∃ X, bm_M D base X H ∧ bm_MD ct m th tr bl np nd f1 f2 f3 f4 g5 g6 f7 g8 g9 g10 (vp_updL (vp_updL (vp_updL g11 0 (bm_ca seed 0)) 1 (bm_ca seed 1)) 2 (bm_ca seed 2)) (vp_updL (vp_updL (vp_updL g12 0 (bm_cb seed a ch 0)) 1 (bm_cb seed a ch 1)) 2 (bm_cb seed a ch 2)) (vp_updL (vp_updL (vp_updL g13 0 (bm_cc seed 0)) 1 (bm_cc seed 1)) 2 (bm_cc seed 2)) (vp_updL (vp_updL (vp_updL g14 0 (bm_ce seed 0)) 1 (bm_ce seed 1)) 2 (bm_ce seed 2)) (vp_updL (vp_updL g15 0 (bm_cp seed a ch 0)) 1 (bm_cp seed a ch 1)) (upd (upd f16 0 (vp_nar .boolean 1)) 1 (vp_nar .boolean 1)) g17 X ∧ bm_fr m M X := ⟨_, hM, hP.s12 _, hF.up (by decide)⟩
  refine lv_aload_n hx hb dM_candidates_100 rfl (lv_at hl 2 rfl) ?_
  refine bm_get (ci := 7) (v := .ref (m + 11)) (C := "BlindMintModel") (T := bt_M) (N := 22) hx hb hts bu_M hown hK hM hP.c0 rfl 15 (by decide) (hts _ bw_617) (fun _ h9 => h9) rfl dM_candidates_101 ?_
  refine lv_iload hx hb dM_candidates_104 (lv_at hl 0 rfl) ?_
  refine bm_lald hx hb hK hM 1 hP.c11 rfl 2 (bm_ix_nI (k := 2) (by decide)) (by decide) dM_candidates_106 ?_
  refine lv_topl (fun t43 e_t43 => ?_)
  have e_t43 : t43 = bm_ca seed 2 := by rw [e_t43]; rfl
  subst e_t43
  refine lv_aload_n hx hb dM_candidates_107 rfl (lv_at hl 2 rfl) ?_
  refine bm_get (ci := 7) (v := .ref (m + 13)) (C := "BlindMintModel") (T := bt_M) (N := 22) hx hb hts bu_M hown hK hM hP.c0 rfl 17 (by decide) (hts _ bw_619) (fun _ h9 => h9) rfl dM_candidates_108 ?_
  refine lv_iload hx hb dM_candidates_111 (lv_at hl 0 rfl) ?_
  refine bm_lald hx hb hK hM 1 hP.c13 rfl 2 (bm_ix_nI (k := 2) (by decide)) (by decide) dM_candidates_113 ?_
  refine lv_topl (fun t44 e_t44 => ?_)
  have e_t44 : t44 = bm_cc seed 2 := by rw [e_t44]; rfl
  subst e_t44
  refine bm_callE (va_runS (As := [.long (bm_ca seed 2), .long (bm_cc seed 2)]) (rest := []) ⟨hx, hb, hml, hown, hts⟩ (bc_M_hash2 l D ct base ad M42 sz (bm_ca seed 2) (bm_cc seed 2)) (va_cwS 2 hts (bm_goodS bw_694 bw_695 bw_5 bw_696) rfl rfl rfl (by decide +kernel) (by rw [← hR]; exact ⟨Nat.le_of_ble_eq_true rfl, Nat.le_of_ble_eq_true rfl⟩)) (bm_preS hM hG hS hz) rfl rfl hl.1 rfl (lv_room (Nat.le_of_ble_eq_true rfl)) dM_candidates_114 (by rw [← hR]; exact ⟨Nat.le_of_ble_eq_true rfl, Nat.le_of_ble_eq_true rfl⟩)) hS (fun H locs hz hM hS => ?_)
  refine lv_lstore hx hb dM_candidates_117 hl (by decide) rfl (fun ls hl => ?_)
  have hl : lv_has ls 8 [(6, .long (bm_h2 (bm_ca seed 2) (bm_cc seed 2))), (5, .int 2), (0, .ref m), (1, .int (nI a)), (2, .long seed), (4, .int ch)] := hl
  refine lv_aload_n hx hb dM_candidates_119 rfl (lv_at hl 2 rfl) ?_
  refine bm_get (ci := 7) (v := .ref (m + 15)) (C := "BlindMintModel") (T := bt_M) (N := 22) hx hb hts bu_M hown hK hM hP.c0 rfl 19 (by decide) (hts _ bw_621) (fun _ h9 => h9) rfl dM_candidates_120 ?_
  refine lv_iload hx hb dM_candidates_123 (lv_at hl 1 rfl) ?_
  refine lv_lload hx hb dM_candidates_125 (lv_at hl 0 rfl) ?_
  refine lv_aload_n hx hb dM_candidates_127 rfl (lv_at hl 2 rfl) ?_
  refine bm_get (ci := 7) (v := .ref (m + 12)) (C := "BlindMintModel") (T := bt_M) (N := 22) hx hb hts bu_M hown hK hM hP.c0 rfl 16 (by decide) (hts _ bw_618) (fun _ h9 => h9) rfl dM_candidates_128 ?_
  refine lv_iload hx hb dM_candidates_131 (lv_at hl 1 rfl) ?_
  refine bm_lald hx hb hK hM 1 hP.c12 rfl 2 (bm_ix_nI (k := 2) (by decide)) (by decide) dM_candidates_133 ?_
  refine lv_topl (fun t45 e_t45 => ?_)
  have e_t45 : t45 = bm_cb seed a ch 2 := by rw [e_t45]; rfl
  subst e_t45
  refine lv_aload_n hx hb dM_candidates_134 rfl (lv_at hl 2 rfl) ?_
  refine bm_get (ci := 7) (v := .ref (m + 14)) (C := "BlindMintModel") (T := bt_M) (N := 22) hx hb hts bu_M hown hK hM hP.c0 rfl 18 (by decide) (hts _ bw_620) (fun _ h9 => h9) rfl dM_candidates_135 ?_
  refine lv_iload hx hb dM_candidates_138 (lv_at hl 1 rfl) ?_
  refine bm_lald hx hb hK hM 1 hP.c14 rfl 2 (bm_ix_nI (k := 2) (by decide)) (by decide) dM_candidates_140 ?_
  refine lv_topl (fun t46 e_t46 => ?_)
  have e_t46 : t46 = bm_ce seed 2 := by rw [e_t46]; rfl
  subst e_t46
  refine bm_callE (va_runS (As := [.long (bm_cb seed a ch 2), .long (bm_ce seed 2)]) (rest := [.long (bm_h2 (bm_ca seed 2) (bm_cc seed 2)), .int 2, .ref (m + 15)]) ⟨hx, hb, hml, hown, hts⟩ (bc_M_hash2 l D ct base ad M42 sz (bm_cb seed a ch 2) (bm_ce seed 2)) (va_cwS 2 hts (bm_goodS bw_694 bw_695 bw_5 bw_696) rfl rfl rfl (by decide +kernel) (by rw [← hR]; exact ⟨Nat.le_of_ble_eq_true rfl, Nat.le_of_ble_eq_true rfl⟩)) (bm_preS hM hG hS hz) rfl rfl hl.1 rfl (lv_room (Nat.le_of_ble_eq_true rfl)) dM_candidates_141 (by rw [← hR]; exact ⟨Nat.le_of_ble_eq_true rfl, Nat.le_of_ble_eq_true rfl⟩)) hS (fun H locs hz hM hS => ?_)
  refine bm_callE (va_runS (As := [.long (bm_h2 (bm_ca seed 2) (bm_cc seed 2)), .long (bm_h2 (bm_cb seed a ch 2) (bm_ce seed 2))]) (rest := [.int 2, .ref (m + 15)]) ⟨hx, hb, hml, hown, hts⟩ (bc_M_hash2 l D ct base ad M42 sz (bm_h2 (bm_ca seed 2) (bm_cc seed 2)) (bm_h2 (bm_cb seed a ch 2) (bm_ce seed 2))) (va_cwS 2 hts (bm_goodS bw_694 bw_695 bw_5 bw_696) rfl rfl rfl (by decide +kernel) (by rw [← hR]; exact ⟨Nat.le_of_ble_eq_true rfl, Nat.le_of_ble_eq_true rfl⟩)) (bm_preS hM hG hS hz) rfl rfl hl.1 rfl (lv_room (Nat.le_of_ble_eq_true rfl)) dM_candidates_144 (by rw [← hR]; exact ⟨Nat.le_of_ble_eq_true rfl, Nat.le_of_ble_eq_true rfl⟩)) hS (fun H locs hz hM hS => ?_)
  refine bm_last hx hb hK hM hS 1 hP.c15 rfl 2 (bm_ix_nI (k := 2) (by decide)) (by decide) dM_candidates_147 (fun H locs hz1 hM hS => ?_)
  have hz := hz1.trans hz
  obtain ⟨M47, hM, hP, hF⟩ : ∃ X, bm_M D base X H ∧ bm_MD ct m th tr bl np nd f1 f2 f3 f4 g5 g6 f7 g8 g9 g10 (vp_updL (vp_updL (vp_updL g11 0 (bm_ca seed 0)) 1 (bm_ca seed 1)) 2 (bm_ca seed 2)) (vp_updL (vp_updL (vp_updL g12 0 (bm_cb seed a ch 0)) 1 (bm_cb seed a ch 1)) 2 (bm_cb seed a ch 2)) (vp_updL (vp_updL (vp_updL g13 0 (bm_cc seed 0)) 1 (bm_cc seed 1)) 2 (bm_cc seed 2)) (vp_updL (vp_updL (vp_updL g14 0 (bm_ce seed 0)) 1 (bm_ce seed 1)) 2 (bm_ce seed 2)) (vp_updL (vp_updL (vp_updL g15 0 (bm_cp seed a ch 0)) 1 (bm_cp seed a ch 1)) 2 (bm_cp seed a ch 2)) (upd (upd f16 0 (vp_nar .boolean 1)) 1 (vp_nar .boolean 1)) g17 X ∧ bm_fr m M X := ⟨_, hM, hP.s15 _, hF.up (by decide)⟩
  refine lv_aload_n hx hb dM_candidates_148 rfl (lv_at hl 2 rfl) ?_
  refine bm_get (ci := 7) (v := .ref (m + 16)) (C := "BlindMintModel") (T := bt_M) (N := 22) hx hb hts bu_M hown hK hM hP.c0 rfl 20 (by decide) (hts _ bw_622) (fun _ h9 => h9) rfl dM_candidates_149 ?_
  refine lv_iload hx hb dM_candidates_152 (lv_at hl 1 rfl) ?_
  refine lv_iconst (v := 1) hx hb dM_candidates_154 (by decide) ?_
  refine bm_zast hx hb hK hM hS 2 hP.c16 rfl 2 (bm_ix_nI (k := 2) (by decide)) (by decide) dM_candidates_155 (fun H locs hz1 hM hS => ?_)
  have hz := hz1.trans hz
  obtain ⟨M48, hM, hP, hF⟩ : ∃ X, bm_M D base X H ∧ bm_MD ct m th tr bl np nd f1 f2 f3 f4 g5 g6 f7 g8 g9 g10 (vp_updL (vp_updL (vp_updL g11 0 (bm_ca seed 0)) 1 (bm_ca seed 1)) 2 (bm_ca seed 2)) (vp_updL (vp_updL (vp_updL g12 0 (bm_cb seed a ch 0)) 1 (bm_cb seed a ch 1)) 2 (bm_cb seed a ch 2)) (vp_updL (vp_updL (vp_updL g13 0 (bm_cc seed 0)) 1 (bm_cc seed 1)) 2 (bm_cc seed 2)) (vp_updL (vp_updL (vp_updL g14 0 (bm_ce seed 0)) 1 (bm_ce seed 1)) 2 (bm_ce seed 2)) (vp_updL (vp_updL (vp_updL g15 0 (bm_cp seed a ch 0)) 1 (bm_cp seed a ch 1)) 2 (bm_cp seed a ch 2)) (upd (upd (upd f16 0 (vp_nar .boolean 1)) 1 (vp_nar .boolean 1)) 2 (vp_nar .boolean 1)) g17 X ∧ bm_fr m M X := ⟨_, hM, hP.s16 _, hF.up (by decide)⟩
  refine lv_iinc (v := 3) (k := 1) hx hb dM_candidates_156 hl rfl (by decide) (by decide) rfl (fun ls hl => ?_)
  have hl : lv_has ls 8 [(5, .int 3), (6, .long (bm_h2 (bm_ca seed 2) (bm_cc seed 2))), (0, .ref m), (1, .int (nI a)), (2, .long seed), (4, .int ch)] := hl
  refine lv_goto (tgt := 3) hx hb dM_candidates_159 rfl ?_
  refine lv_iload hx hb dM_candidates_3 (lv_at hl 0 rfl) ?_
  refine lv_bipush (v := 6) hx hb dM_candidates_5 (by decide) ?_
  refine lv_icmp_ge (tgt := 162) hx hb dM_candidates_7 rfl (fun h => absurd h (by decide)) (fun _ => ?_)
  refine lv_aload_n hx hb dM_candidates_10 rfl (lv_at hl 2 rfl) ?_
  refine bm_get (ci := 7) (v := .ref (m + 11)) (C := "BlindMintModel") (T := bt_M) (N := 22) hx hb hts bu_M hown hK hM hP.c0 rfl 15 (by decide) (hts _ bw_617) (fun _ h9 => h9) rfl dM_candidates_11 ?_
  refine lv_iload hx hb dM_candidates_14 (lv_at hl 0 rfl) ?_
  refine lv_lload_n hx hb dM_candidates_16 rfl (lv_at hl 4 rfl) ?_
  refine lv_ldc2 hx hb hown (hts _ bw_693) dM_candidates_17 ?_
  refine lv_iload hx hb dM_candidates_20 (lv_at hl 0 rfl) ?_
  refine lv_i2l (v := 3) hx hb dM_candidates_22 (by decide) ?_
  refine lv_lmul hx hb dM_candidates_23 ?_
  refine lv_topl (fun t49 e_t49 => ?_)
  have e_t49 : t49 = lN (3 * 3) := by rw [e_t49]; decide
  subst e_t49
  refine bm_callE (va_runS (As := [.long seed, .long (lN (3 * 3))]) (rest := [.int 3, .ref (m + 11)]) ⟨hx, hb, hml, hown, hts⟩ (bc_M_hash2 l D ct base ad M48 sz seed (lN (3 * 3))) (va_cwS 2 hts (bm_goodS bw_694 bw_695 bw_5 bw_696) rfl rfl rfl (by decide +kernel) (by rw [← hR]; exact ⟨Nat.le_of_ble_eq_true rfl, Nat.le_of_ble_eq_true rfl⟩)) (bm_preS hM hG hS hz) rfl rfl hl.1 rfl (lv_room (Nat.le_of_ble_eq_true rfl)) dM_candidates_24 (by rw [← hR]; exact ⟨Nat.le_of_ble_eq_true rfl, Nat.le_of_ble_eq_true rfl⟩)) hS (fun H locs hz hM hS => ?_)
  refine bm_last hx hb hK hM hS 1 hP.c11 rfl 3 (bm_ix_nI (k := 3) (by decide)) (by decide) dM_candidates_27 (fun H locs hz1 hM hS => ?_)
  have hz := hz1.trans hz
  obtain ⟨M50, hM, hP, hF⟩ : ∃ X, bm_M D base X H ∧ bm_MD ct m th tr bl np nd f1 f2 f3 f4 g5 g6 f7 g8 g9 g10 (vp_updL (vp_updL (vp_updL (vp_updL g11 0 (bm_ca seed 0)) 1 (bm_ca seed 1)) 2 (bm_ca seed 2)) 3 (bm_ca seed 3)) (vp_updL (vp_updL (vp_updL g12 0 (bm_cb seed a ch 0)) 1 (bm_cb seed a ch 1)) 2 (bm_cb seed a ch 2)) (vp_updL (vp_updL (vp_updL g13 0 (bm_cc seed 0)) 1 (bm_cc seed 1)) 2 (bm_cc seed 2)) (vp_updL (vp_updL (vp_updL g14 0 (bm_ce seed 0)) 1 (bm_ce seed 1)) 2 (bm_ce seed 2)) (vp_updL (vp_updL (vp_updL g15 0 (bm_cp seed a ch 0)) 1 (bm_cp seed a ch 1)) 2 (bm_cp seed a ch 2)) (upd (upd (upd f16 0 (vp_nar .boolean 1)) 1 (vp_nar .boolean 1)) 2 (vp_nar .boolean 1)) g17 X ∧ bm_fr m M X := ⟨_, hM, hP.s11 _, hF.up (by decide)⟩
  refine lv_aload_n hx hb dM_candidates_28 rfl (lv_at hl 2 rfl) ?_
  refine bm_get (ci := 7) (v := .ref (m + 13)) (C := "BlindMintModel") (T := bt_M) (N := 22) hx hb hts bu_M hown hK hM hP.c0 rfl 17 (by decide) (hts _ bw_619) (fun _ h9 => h9) rfl dM_candidates_29 ?_
  refine lv_iload hx hb dM_candidates_32 (lv_at hl 0 rfl) ?_
  refine lv_lload_n hx hb dM_candidates_34 rfl (lv_at hl 4 rfl) ?_
  refine lv_ldc2 hx hb hown (hts _ bw_693) dM_candidates_35 ?_
  refine lv_iload hx hb dM_candidates_38 (lv_at hl 0 rfl) ?_
  refine lv_i2l (v := 3) hx hb dM_candidates_40 (by decide) ?_
  refine lv_lmul hx hb dM_candidates_41 ?_
  refine lv_lconst (v := 1) hx hb dM_candidates_42 (by decide) ?_
  refine lv_ladd hx hb dM_candidates_43 ?_
  refine lv_topl (fun t51 e_t51 => ?_)
  have e_t51 : t51 = lN (3 * 3 + 1) := by rw [e_t51]; decide
  subst e_t51
  refine bm_callE (va_runS (As := [.long seed, .long (lN (3 * 3 + 1))]) (rest := [.int 3, .ref (m + 13)]) ⟨hx, hb, hml, hown, hts⟩ (bc_M_hash2 l D ct base ad M50 sz seed (lN (3 * 3 + 1))) (va_cwS 2 hts (bm_goodS bw_694 bw_695 bw_5 bw_696) rfl rfl rfl (by decide +kernel) (by rw [← hR]; exact ⟨Nat.le_of_ble_eq_true rfl, Nat.le_of_ble_eq_true rfl⟩)) (bm_preS hM hG hS hz) rfl rfl hl.1 rfl (lv_room (Nat.le_of_ble_eq_true rfl)) dM_candidates_44 (by rw [← hR]; exact ⟨Nat.le_of_ble_eq_true rfl, Nat.le_of_ble_eq_true rfl⟩)) hS (fun H locs hz hM hS => ?_)
  refine bm_last hx hb hK hM hS 1 hP.c13 rfl 3 (bm_ix_nI (k := 3) (by decide)) (by decide) dM_candidates_47 (fun H locs hz1 hM hS => ?_)
  have hz := hz1.trans hz
  obtain ⟨M52, hM, hP, hF⟩ : ∃ X, bm_M D base X H ∧ bm_MD ct m th tr bl np nd f1 f2 f3 f4 g5 g6 f7 g8 g9 g10 (vp_updL (vp_updL (vp_updL (vp_updL g11 0 (bm_ca seed 0)) 1 (bm_ca seed 1)) 2 (bm_ca seed 2)) 3 (bm_ca seed 3)) (vp_updL (vp_updL (vp_updL g12 0 (bm_cb seed a ch 0)) 1 (bm_cb seed a ch 1)) 2 (bm_cb seed a ch 2)) (vp_updL (vp_updL (vp_updL (vp_updL g13 0 (bm_cc seed 0)) 1 (bm_cc seed 1)) 2 (bm_cc seed 2)) 3 (bm_cc seed 3)) (vp_updL (vp_updL (vp_updL g14 0 (bm_ce seed 0)) 1 (bm_ce seed 1)) 2 (bm_ce seed 2)) (vp_updL (vp_updL (vp_updL g15 0 (bm_cp seed a ch 0)) 1 (bm_cp seed a ch 1)) 2 (bm_cp seed a ch 2)) (upd (upd (upd f16 0 (vp_nar .boolean 1)) 1 (vp_nar .boolean 1)) 2 (vp_nar .boolean 1)) g17 X ∧ bm_fr m M X := ⟨_, hM, hP.s13 _, hF.up (by decide)⟩
  refine lv_aload_n hx hb dM_candidates_48 rfl (lv_at hl 2 rfl) ?_
  refine bm_get (ci := 7) (v := .ref (m + 14)) (C := "BlindMintModel") (T := bt_M) (N := 22) hx hb hts bu_M hown hK hM hP.c0 rfl 18 (by decide) (hts _ bw_620) (fun _ h9 => h9) rfl dM_candidates_49 ?_
  refine lv_iload hx hb dM_candidates_52 (lv_at hl 0 rfl) ?_
  refine lv_lload_n hx hb dM_candidates_54 rfl (lv_at hl 4 rfl) ?_
  refine lv_ldc2 hx hb hown (hts _ bw_693) dM_candidates_55 ?_
  refine lv_iload hx hb dM_candidates_58 (lv_at hl 0 rfl) ?_
  refine lv_i2l (v := 3) hx hb dM_candidates_60 (by decide) ?_
  refine lv_lmul hx hb dM_candidates_61 ?_
  refine lv_ldc2 hx hb hown (hts _ bw_707) dM_candidates_62 ?_
  refine lv_ladd hx hb dM_candidates_65 ?_
  refine lv_topl (fun t53 e_t53 => ?_)
  have e_t53 : t53 = lN (3 * 3 + 2) := by rw [e_t53]; decide
  subst e_t53
  refine bm_callE (va_runS (As := [.long seed, .long (lN (3 * 3 + 2))]) (rest := [.int 3, .ref (m + 14)]) ⟨hx, hb, hml, hown, hts⟩ (bc_M_hash2 l D ct base ad M52 sz seed (lN (3 * 3 + 2))) (va_cwS 2 hts (bm_goodS bw_694 bw_695 bw_5 bw_696) rfl rfl rfl (by decide +kernel) (by rw [← hR]; exact ⟨Nat.le_of_ble_eq_true rfl, Nat.le_of_ble_eq_true rfl⟩)) (bm_preS hM hG hS hz) rfl rfl hl.1 rfl (lv_room (Nat.le_of_ble_eq_true rfl)) dM_candidates_66 (by rw [← hR]; exact ⟨Nat.le_of_ble_eq_true rfl, Nat.le_of_ble_eq_true rfl⟩)) hS (fun H locs hz hM hS => ?_)
  refine bm_last hx hb hK hM hS 1 hP.c14 rfl 3 (bm_ix_nI (k := 3) (by decide)) (by decide) dM_candidates_69 (fun H locs hz1 hM hS => ?_)
  have hz := hz1.trans hz
  obtain ⟨M54, hM, hP, hF⟩ : ∃ X, bm_M D base X H ∧ bm_MD ct m th tr bl np nd f1 f2 f3 f4 g5 g6 f7 g8 g9 g10 (vp_updL (vp_updL (vp_updL (vp_updL g11 0 (bm_ca seed 0)) 1 (bm_ca seed 1)) 2 (bm_ca seed 2)) 3 (bm_ca seed 3)) (vp_updL (vp_updL (vp_updL g12 0 (bm_cb seed a ch 0)) 1 (bm_cb seed a ch 1)) 2 (bm_cb seed a ch 2)) (vp_updL (vp_updL (vp_updL (vp_updL g13 0 (bm_cc seed 0)) 1 (bm_cc seed 1)) 2 (bm_cc seed 2)) 3 (bm_cc seed 3)) (vp_updL (vp_updL (vp_updL (vp_updL g14 0 (bm_ce seed 0)) 1 (bm_ce seed 1)) 2 (bm_ce seed 2)) 3 (bm_ce seed 3)) (vp_updL (vp_updL (vp_updL g15 0 (bm_cp seed a ch 0)) 1 (bm_cp seed a ch 1)) 2 (bm_cp seed a ch 2)) (upd (upd (upd f16 0 (vp_nar .boolean 1)) 1 (vp_nar .boolean 1)) 2 (vp_nar .boolean 1)) g17 X ∧ bm_fr m M X := ⟨_, hM, hP.s14 _, hF.up (by decide)⟩
  refine lv_aload_n hx hb dM_candidates_70 rfl (lv_at hl 2 rfl) ?_
  refine bm_get (ci := 7) (v := .ref (m + 12)) (C := "BlindMintModel") (T := bt_M) (N := 22) hx hb hts bu_M hown hK hM hP.c0 rfl 16 (by decide) (hts _ bw_618) (fun _ h9 => h9) rfl dM_candidates_71 ?_
  refine lv_iload hx hb dM_candidates_74 (lv_at hl 0 rfl) ?_
  refine lv_aload_n hx hb dM_candidates_76 rfl (lv_at hl 2 rfl) ?_
  refine bm_get (ci := 7) (v := .ref (m + 11)) (C := "BlindMintModel") (T := bt_M) (N := 22) hx hb hts bu_M hown hK hM hP.c0 rfl 15 (by decide) (hts _ bw_617) (fun _ h9 => h9) rfl dM_candidates_77 ?_
  refine lv_iload hx hb dM_candidates_80 (lv_at hl 0 rfl) ?_
  refine bm_lald hx hb hK hM 1 hP.c11 rfl 3 (bm_ix_nI (k := 3) (by decide)) (by decide) dM_candidates_82 ?_
  refine lv_topl (fun t55 e_t55 => ?_)
  have e_t55 : t55 = bm_ca seed 3 := by rw [e_t55]; rfl
  subst e_t55
  refine lv_ldc2 hx hb hown (hts _ bw_708) dM_candidates_83 ?_
  refine lv_iload_n hx hb dM_candidates_86 rfl (lv_at hl 3 rfl) ?_
  refine lv_i2l (v := lN a) hx hb dM_candidates_87 (nI_l (by omega)) ?_
  refine lv_ladd hx hb dM_candidates_88 ?_
  refine lv_topl (fun t56 e_t56 => ?_)
  have e_t56 : t56 = lN (1000 + a) := by rw [e_t56]; exact lN_add 1000 a
  subst e_t56
  refine lv_lxor hx hb dM_candidates_89 ?_
  refine lv_iload hx hb dM_candidates_90 (lv_at hl 5 rfl) ?_
  refine lv_iload hx hb dM_candidates_92 (lv_at hl 0 rfl) ?_
  refine lv_ishr hx hb dM_candidates_94 ?_
  refine lv_iconst (v := 1) hx hb dM_candidates_95 (by decide) ?_
  refine lv_iand hx hb dM_candidates_96 ?_
  refine lv_i2l hx hb dM_candidates_97 rfl ?_
  refine lv_lxor hx hb dM_candidates_98 ?_
  refine lv_topl (fun t57 e_t57 => ?_)
  have e_t57 : t57 = bm_cb seed a ch 3 := by rw [e_t57]; rfl
  subst e_t57
  refine bm_last hx hb hK hM hS 1 hP.c12 rfl 3 (bm_ix_nI (k := 3) (by decide)) (by decide) dM_candidates_99 (fun H locs hz1 hM hS => ?_)
  have hz := hz1.trans hz
  obtain ⟨M58, hM, hP, hF⟩ : ∃ X, bm_M D base X H ∧ bm_MD ct m th tr bl np nd f1 f2 f3 f4 g5 g6 f7 g8 g9 g10 (vp_updL (vp_updL (vp_updL (vp_updL g11 0 (bm_ca seed 0)) 1 (bm_ca seed 1)) 2 (bm_ca seed 2)) 3 (bm_ca seed 3)) (vp_updL (vp_updL (vp_updL (vp_updL g12 0 (bm_cb seed a ch 0)) 1 (bm_cb seed a ch 1)) 2 (bm_cb seed a ch 2)) 3 (bm_cb seed a ch 3)) (vp_updL (vp_updL (vp_updL (vp_updL g13 0 (bm_cc seed 0)) 1 (bm_cc seed 1)) 2 (bm_cc seed 2)) 3 (bm_cc seed 3)) (vp_updL (vp_updL (vp_updL (vp_updL g14 0 (bm_ce seed 0)) 1 (bm_ce seed 1)) 2 (bm_ce seed 2)) 3 (bm_ce seed 3)) (vp_updL (vp_updL (vp_updL g15 0 (bm_cp seed a ch 0)) 1 (bm_cp seed a ch 1)) 2 (bm_cp seed a ch 2)) (upd (upd (upd f16 0 (vp_nar .boolean 1)) 1 (vp_nar .boolean 1)) 2 (vp_nar .boolean 1)) g17 X ∧ bm_fr m M X := ⟨_, hM, hP.s12 _, hF.up (by decide)⟩
  refine lv_aload_n hx hb dM_candidates_100 rfl (lv_at hl 2 rfl) ?_
  refine bm_get (ci := 7) (v := .ref (m + 11)) (C := "BlindMintModel") (T := bt_M) (N := 22) hx hb hts bu_M hown hK hM hP.c0 rfl 15 (by decide) (hts _ bw_617) (fun _ h9 => h9) rfl dM_candidates_101 ?_
  refine lv_iload hx hb dM_candidates_104 (lv_at hl 0 rfl) ?_
  refine bm_lald hx hb hK hM 1 hP.c11 rfl 3 (bm_ix_nI (k := 3) (by decide)) (by decide) dM_candidates_106 ?_
  refine lv_topl (fun t59 e_t59 => ?_)
  have e_t59 : t59 = bm_ca seed 3 := by rw [e_t59]; rfl
  subst e_t59
  refine lv_aload_n hx hb dM_candidates_107 rfl (lv_at hl 2 rfl) ?_
  refine bm_get (ci := 7) (v := .ref (m + 13)) (C := "BlindMintModel") (T := bt_M) (N := 22) hx hb hts bu_M hown hK hM hP.c0 rfl 17 (by decide) (hts _ bw_619) (fun _ h9 => h9) rfl dM_candidates_108 ?_
  refine lv_iload hx hb dM_candidates_111 (lv_at hl 0 rfl) ?_
  refine bm_lald hx hb hK hM 1 hP.c13 rfl 3 (bm_ix_nI (k := 3) (by decide)) (by decide) dM_candidates_113 ?_
  refine lv_topl (fun t60 e_t60 => ?_)
  have e_t60 : t60 = bm_cc seed 3 := by rw [e_t60]; rfl
  subst e_t60
  refine bm_callE (va_runS (As := [.long (bm_ca seed 3), .long (bm_cc seed 3)]) (rest := []) ⟨hx, hb, hml, hown, hts⟩ (bc_M_hash2 l D ct base ad M58 sz (bm_ca seed 3) (bm_cc seed 3)) (va_cwS 2 hts (bm_goodS bw_694 bw_695 bw_5 bw_696) rfl rfl rfl (by decide +kernel) (by rw [← hR]; exact ⟨Nat.le_of_ble_eq_true rfl, Nat.le_of_ble_eq_true rfl⟩)) (bm_preS hM hG hS hz) rfl rfl hl.1 rfl (lv_room (Nat.le_of_ble_eq_true rfl)) dM_candidates_114 (by rw [← hR]; exact ⟨Nat.le_of_ble_eq_true rfl, Nat.le_of_ble_eq_true rfl⟩)) hS (fun H locs hz hM hS => ?_)
  refine lv_lstore hx hb dM_candidates_117 hl (by decide) rfl (fun ls hl => ?_)
  have hl : lv_has ls 8 [(6, .long (bm_h2 (bm_ca seed 3) (bm_cc seed 3))), (5, .int 3), (0, .ref m), (1, .int (nI a)), (2, .long seed), (4, .int ch)] := hl
  refine lv_aload_n hx hb dM_candidates_119 rfl (lv_at hl 2 rfl) ?_
  refine bm_get (ci := 7) (v := .ref (m + 15)) (C := "BlindMintModel") (T := bt_M) (N := 22) hx hb hts bu_M hown hK hM hP.c0 rfl 19 (by decide) (hts _ bw_621) (fun _ h9 => h9) rfl dM_candidates_120 ?_
  refine lv_iload hx hb dM_candidates_123 (lv_at hl 1 rfl) ?_
  refine lv_lload hx hb dM_candidates_125 (lv_at hl 0 rfl) ?_
  refine lv_aload_n hx hb dM_candidates_127 rfl (lv_at hl 2 rfl) ?_
  refine bm_get (ci := 7) (v := .ref (m + 12)) (C := "BlindMintModel") (T := bt_M) (N := 22) hx hb hts bu_M hown hK hM hP.c0 rfl 16 (by decide) (hts _ bw_618) (fun _ h9 => h9) rfl dM_candidates_128 ?_
  refine lv_iload hx hb dM_candidates_131 (lv_at hl 1 rfl) ?_
  refine bm_lald hx hb hK hM 1 hP.c12 rfl 3 (bm_ix_nI (k := 3) (by decide)) (by decide) dM_candidates_133 ?_
  refine lv_topl (fun t61 e_t61 => ?_)
  have e_t61 : t61 = bm_cb seed a ch 3 := by rw [e_t61]; rfl
  subst e_t61
  refine lv_aload_n hx hb dM_candidates_134 rfl (lv_at hl 2 rfl) ?_
  refine bm_get (ci := 7) (v := .ref (m + 14)) (C := "BlindMintModel") (T := bt_M) (N := 22) hx hb hts bu_M hown hK hM hP.c0 rfl 18 (by decide) (hts _ bw_620) (fun _ h9 => h9) rfl dM_candidates_135 ?_
  refine lv_iload hx hb dM_candidates_138 (lv_at hl 1 rfl) ?_
  refine bm_lald hx hb hK hM 1 hP.c14 rfl 3 (bm_ix_nI (k := 3) (by decide)) (by decide) dM_candidates_140 ?_
  refine lv_topl (fun t62 e_t62 => ?_)
  have e_t62 : t62 = bm_ce seed 3 := by rw [e_t62]; rfl
  subst e_t62
  refine bm_callE (va_runS (As := [.long (bm_cb seed a ch 3), .long (bm_ce seed 3)]) (rest := [.long (bm_h2 (bm_ca seed 3) (bm_cc seed 3)), .int 3, .ref (m + 15)]) ⟨hx, hb, hml, hown, hts⟩ (bc_M_hash2 l D ct base ad M58 sz (bm_cb seed a ch 3) (bm_ce seed 3)) (va_cwS 2 hts (bm_goodS bw_694 bw_695 bw_5 bw_696) rfl rfl rfl (by decide +kernel) (by rw [← hR]; exact ⟨Nat.le_of_ble_eq_true rfl, Nat.le_of_ble_eq_true rfl⟩)) (bm_preS hM hG hS hz) rfl rfl hl.1 rfl (lv_room (Nat.le_of_ble_eq_true rfl)) dM_candidates_141 (by rw [← hR]; exact ⟨Nat.le_of_ble_eq_true rfl, Nat.le_of_ble_eq_true rfl⟩)) hS (fun H locs hz hM hS => ?_)
  refine bm_callE (va_runS (As := [.long (bm_h2 (bm_ca seed 3) (bm_cc seed 3)), .long (bm_h2 (bm_cb seed a ch 3) (bm_ce seed 3))]) (rest := [.int 3, .ref (m + 15)]) ⟨hx, hb, hml, hown, hts⟩ (bc_M_hash2 l D ct base ad M58 sz (bm_h2 (bm_ca seed 3) (bm_cc seed 3)) (bm_h2 (bm_cb seed a ch 3) (bm_ce seed 3))) (va_cwS 2 hts (bm_goodS bw_694 bw_695 bw_5 bw_696) rfl rfl rfl (by decide +kernel) (by rw [← hR]; exact ⟨Nat.le_of_ble_eq_true rfl, Nat.le_of_ble_eq_true rfl⟩)) (bm_preS hM hG hS hz) rfl rfl hl.1 rfl (lv_room (Nat.le_of_ble_eq_true rfl)) dM_candidates_144 (by rw [← hR]; exact ⟨Nat.le_of_ble_eq_true rfl, Nat.le_of_ble_eq_true rfl⟩)) hS (fun H locs hz hM hS => ?_)
  refine bm_last hx hb hK hM hS 1 hP.c15 rfl 3 (bm_ix_nI (k := 3) (by decide)) (by decide) dM_candidates_147 (fun H locs hz1 hM hS => ?_)
  have hz := hz1.trans hz
  obtain ⟨M63, hM, hP, hF⟩ : ∃ X, bm_M D base X H ∧ bm_MD ct m th tr bl np nd f1 f2 f3 f4 g5 g6 f7 g8 g9 g10 (vp_updL (vp_updL (vp_updL (vp_updL g11 0 (bm_ca seed 0)) 1 (bm_ca seed 1)) 2 (bm_ca seed 2)) 3 (bm_ca seed 3)) (vp_updL (vp_updL (vp_updL (vp_updL g12 0 (bm_cb seed a ch 0)) 1 (bm_cb seed a ch 1)) 2 (bm_cb seed a ch 2)) 3 (bm_cb seed a ch 3)) (vp_updL (vp_updL (vp_updL (vp_updL g13 0 (bm_cc seed 0)) 1 (bm_cc seed 1)) 2 (bm_cc seed 2)) 3 (bm_cc seed 3)) (vp_updL (vp_updL (vp_updL (vp_updL g14 0 (bm_ce seed 0)) 1 (bm_ce seed 1)) 2 (bm_ce seed 2)) 3 (bm_ce seed 3)) (vp_updL (vp_updL (vp_updL (vp_updL g15 0 (bm_cp seed a ch 0)) 1 (bm_cp seed a ch 1)) 2 (bm_cp seed a ch 2)) 3 (bm_cp seed a ch 3)) (upd (upd (upd f16 0 (vp_nar .boolean 1)) 1 (vp_nar .boolean 1)) 2 (vp_nar .boolean 1)) g17 X ∧ bm_fr m M X := ⟨_, hM, hP.s15 _, hF.up (by decide)⟩
  refine lv_aload_n hx hb dM_candidates_148 rfl (lv_at hl 2 rfl) ?_
  refine bm_get (ci := 7) (v := .ref (m + 16)) (C := "BlindMintModel") (T := bt_M) (N := 22) hx hb hts bu_M hown hK hM hP.c0 rfl 20 (by decide) (hts _ bw_622) (fun _ h9 => h9) rfl dM_candidates_149 ?_
  refine lv_iload hx hb dM_candidates_152 (lv_at hl 1 rfl) ?_
  refine lv_iconst (v := 1) hx hb dM_candidates_154 (by decide) ?_
  refine bm_zast hx hb hK hM hS 2 hP.c16 rfl 3 (bm_ix_nI (k := 3) (by decide)) (by decide) dM_candidates_155 (fun H locs hz1 hM hS => ?_)
  have hz := hz1.trans hz
  obtain ⟨M64, hM, hP, hF⟩ : ∃ X, bm_M D base X H ∧ bm_MD ct m th tr bl np nd f1 f2 f3 f4 g5 g6 f7 g8 g9 g10 (vp_updL (vp_updL (vp_updL (vp_updL g11 0 (bm_ca seed 0)) 1 (bm_ca seed 1)) 2 (bm_ca seed 2)) 3 (bm_ca seed 3)) (vp_updL (vp_updL (vp_updL (vp_updL g12 0 (bm_cb seed a ch 0)) 1 (bm_cb seed a ch 1)) 2 (bm_cb seed a ch 2)) 3 (bm_cb seed a ch 3)) (vp_updL (vp_updL (vp_updL (vp_updL g13 0 (bm_cc seed 0)) 1 (bm_cc seed 1)) 2 (bm_cc seed 2)) 3 (bm_cc seed 3)) (vp_updL (vp_updL (vp_updL (vp_updL g14 0 (bm_ce seed 0)) 1 (bm_ce seed 1)) 2 (bm_ce seed 2)) 3 (bm_ce seed 3)) (vp_updL (vp_updL (vp_updL (vp_updL g15 0 (bm_cp seed a ch 0)) 1 (bm_cp seed a ch 1)) 2 (bm_cp seed a ch 2)) 3 (bm_cp seed a ch 3)) (upd (upd (upd (upd f16 0 (vp_nar .boolean 1)) 1 (vp_nar .boolean 1)) 2 (vp_nar .boolean 1)) 3 (vp_nar .boolean 1)) g17 X ∧ bm_fr m M X := ⟨_, hM, hP.s16 _, hF.up (by decide)⟩
  refine lv_iinc (v := 4) (k := 1) hx hb dM_candidates_156 hl rfl (by decide) (by decide) rfl (fun ls hl => ?_)
  have hl : lv_has ls 8 [(5, .int 4), (6, .long (bm_h2 (bm_ca seed 3) (bm_cc seed 3))), (0, .ref m), (1, .int (nI a)), (2, .long seed), (4, .int ch)] := hl
  refine lv_goto (tgt := 3) hx hb dM_candidates_159 rfl ?_
  refine lv_iload hx hb dM_candidates_3 (lv_at hl 0 rfl) ?_
  refine lv_bipush (v := 6) hx hb dM_candidates_5 (by decide) ?_
  refine lv_icmp_ge (tgt := 162) hx hb dM_candidates_7 rfl (fun h => absurd h (by decide)) (fun _ => ?_)
  refine lv_aload_n hx hb dM_candidates_10 rfl (lv_at hl 2 rfl) ?_
  refine bm_get (ci := 7) (v := .ref (m + 11)) (C := "BlindMintModel") (T := bt_M) (N := 22) hx hb hts bu_M hown hK hM hP.c0 rfl 15 (by decide) (hts _ bw_617) (fun _ h9 => h9) rfl dM_candidates_11 ?_
  refine lv_iload hx hb dM_candidates_14 (lv_at hl 0 rfl) ?_
  refine lv_lload_n hx hb dM_candidates_16 rfl (lv_at hl 4 rfl) ?_
  refine lv_ldc2 hx hb hown (hts _ bw_693) dM_candidates_17 ?_
  refine lv_iload hx hb dM_candidates_20 (lv_at hl 0 rfl) ?_
  refine lv_i2l (v := 4) hx hb dM_candidates_22 (by decide) ?_
  refine lv_lmul hx hb dM_candidates_23 ?_
  refine lv_topl (fun t65 e_t65 => ?_)
  have e_t65 : t65 = lN (3 * 4) := by rw [e_t65]; decide
  subst e_t65
  refine bm_callE (va_runS (As := [.long seed, .long (lN (3 * 4))]) (rest := [.int 4, .ref (m + 11)]) ⟨hx, hb, hml, hown, hts⟩ (bc_M_hash2 l D ct base ad M64 sz seed (lN (3 * 4))) (va_cwS 2 hts (bm_goodS bw_694 bw_695 bw_5 bw_696) rfl rfl rfl (by decide +kernel) (by rw [← hR]; exact ⟨Nat.le_of_ble_eq_true rfl, Nat.le_of_ble_eq_true rfl⟩)) (bm_preS hM hG hS hz) rfl rfl hl.1 rfl (lv_room (Nat.le_of_ble_eq_true rfl)) dM_candidates_24 (by rw [← hR]; exact ⟨Nat.le_of_ble_eq_true rfl, Nat.le_of_ble_eq_true rfl⟩)) hS (fun H locs hz hM hS => ?_)
  refine bm_last hx hb hK hM hS 1 hP.c11 rfl 4 (bm_ix_nI (k := 4) (by decide)) (by decide) dM_candidates_27 (fun H locs hz1 hM hS => ?_)
  have hz := hz1.trans hz
  obtain ⟨M66, hM, hP, hF⟩ : ∃ X, bm_M D base X H ∧ bm_MD ct m th tr bl np nd f1 f2 f3 f4 g5 g6 f7 g8 g9 g10 (vp_updL (vp_updL (vp_updL (vp_updL (vp_updL g11 0 (bm_ca seed 0)) 1 (bm_ca seed 1)) 2 (bm_ca seed 2)) 3 (bm_ca seed 3)) 4 (bm_ca seed 4)) (vp_updL (vp_updL (vp_updL (vp_updL g12 0 (bm_cb seed a ch 0)) 1 (bm_cb seed a ch 1)) 2 (bm_cb seed a ch 2)) 3 (bm_cb seed a ch 3)) (vp_updL (vp_updL (vp_updL (vp_updL g13 0 (bm_cc seed 0)) 1 (bm_cc seed 1)) 2 (bm_cc seed 2)) 3 (bm_cc seed 3)) (vp_updL (vp_updL (vp_updL (vp_updL g14 0 (bm_ce seed 0)) 1 (bm_ce seed 1)) 2 (bm_ce seed 2)) 3 (bm_ce seed 3)) (vp_updL (vp_updL (vp_updL (vp_updL g15 0 (bm_cp seed a ch 0)) 1 (bm_cp seed a ch 1)) 2 (bm_cp seed a ch 2)) 3 (bm_cp seed a ch 3)) (upd (upd (upd (upd f16 0 (vp_nar .boolean 1)) 1 (vp_nar .boolean 1)) 2 (vp_nar .boolean 1)) 3 (vp_nar .boolean 1)) g17 X ∧ bm_fr m M X := ⟨_, hM, hP.s11 _, hF.up (by decide)⟩
  refine lv_aload_n hx hb dM_candidates_28 rfl (lv_at hl 2 rfl) ?_
  refine bm_get (ci := 7) (v := .ref (m + 13)) (C := "BlindMintModel") (T := bt_M) (N := 22) hx hb hts bu_M hown hK hM hP.c0 rfl 17 (by decide) (hts _ bw_619) (fun _ h9 => h9) rfl dM_candidates_29 ?_
  refine lv_iload hx hb dM_candidates_32 (lv_at hl 0 rfl) ?_
  refine lv_lload_n hx hb dM_candidates_34 rfl (lv_at hl 4 rfl) ?_
  refine lv_ldc2 hx hb hown (hts _ bw_693) dM_candidates_35 ?_
  refine lv_iload hx hb dM_candidates_38 (lv_at hl 0 rfl) ?_
  refine lv_i2l (v := 4) hx hb dM_candidates_40 (by decide) ?_
  refine lv_lmul hx hb dM_candidates_41 ?_
  refine lv_lconst (v := 1) hx hb dM_candidates_42 (by decide) ?_
  refine lv_ladd hx hb dM_candidates_43 ?_
  refine lv_topl (fun t67 e_t67 => ?_)
  have e_t67 : t67 = lN (3 * 4 + 1) := by rw [e_t67]; decide
  subst e_t67
  refine bm_callE (va_runS (As := [.long seed, .long (lN (3 * 4 + 1))]) (rest := [.int 4, .ref (m + 13)]) ⟨hx, hb, hml, hown, hts⟩ (bc_M_hash2 l D ct base ad M66 sz seed (lN (3 * 4 + 1))) (va_cwS 2 hts (bm_goodS bw_694 bw_695 bw_5 bw_696) rfl rfl rfl (by decide +kernel) (by rw [← hR]; exact ⟨Nat.le_of_ble_eq_true rfl, Nat.le_of_ble_eq_true rfl⟩)) (bm_preS hM hG hS hz) rfl rfl hl.1 rfl (lv_room (Nat.le_of_ble_eq_true rfl)) dM_candidates_44 (by rw [← hR]; exact ⟨Nat.le_of_ble_eq_true rfl, Nat.le_of_ble_eq_true rfl⟩)) hS (fun H locs hz hM hS => ?_)
  refine bm_last hx hb hK hM hS 1 hP.c13 rfl 4 (bm_ix_nI (k := 4) (by decide)) (by decide) dM_candidates_47 (fun H locs hz1 hM hS => ?_)
  have hz := hz1.trans hz
  obtain ⟨M68, hM, hP, hF⟩ : ∃ X, bm_M D base X H ∧ bm_MD ct m th tr bl np nd f1 f2 f3 f4 g5 g6 f7 g8 g9 g10 (vp_updL (vp_updL (vp_updL (vp_updL (vp_updL g11 0 (bm_ca seed 0)) 1 (bm_ca seed 1)) 2 (bm_ca seed 2)) 3 (bm_ca seed 3)) 4 (bm_ca seed 4)) (vp_updL (vp_updL (vp_updL (vp_updL g12 0 (bm_cb seed a ch 0)) 1 (bm_cb seed a ch 1)) 2 (bm_cb seed a ch 2)) 3 (bm_cb seed a ch 3)) (vp_updL (vp_updL (vp_updL (vp_updL (vp_updL g13 0 (bm_cc seed 0)) 1 (bm_cc seed 1)) 2 (bm_cc seed 2)) 3 (bm_cc seed 3)) 4 (bm_cc seed 4)) (vp_updL (vp_updL (vp_updL (vp_updL g14 0 (bm_ce seed 0)) 1 (bm_ce seed 1)) 2 (bm_ce seed 2)) 3 (bm_ce seed 3)) (vp_updL (vp_updL (vp_updL (vp_updL g15 0 (bm_cp seed a ch 0)) 1 (bm_cp seed a ch 1)) 2 (bm_cp seed a ch 2)) 3 (bm_cp seed a ch 3)) (upd (upd (upd (upd f16 0 (vp_nar .boolean 1)) 1 (vp_nar .boolean 1)) 2 (vp_nar .boolean 1)) 3 (vp_nar .boolean 1)) g17 X ∧ bm_fr m M X := ⟨_, hM, hP.s13 _, hF.up (by decide)⟩
  refine lv_aload_n hx hb dM_candidates_48 rfl (lv_at hl 2 rfl) ?_
  refine bm_get (ci := 7) (v := .ref (m + 14)) (C := "BlindMintModel") (T := bt_M) (N := 22) hx hb hts bu_M hown hK hM hP.c0 rfl 18 (by decide) (hts _ bw_620) (fun _ h9 => h9) rfl dM_candidates_49 ?_
  refine lv_iload hx hb dM_candidates_52 (lv_at hl 0 rfl) ?_
  refine lv_lload_n hx hb dM_candidates_54 rfl (lv_at hl 4 rfl) ?_
  refine lv_ldc2 hx hb hown (hts _ bw_693) dM_candidates_55 ?_
  refine lv_iload hx hb dM_candidates_58 (lv_at hl 0 rfl) ?_
  refine lv_i2l (v := 4) hx hb dM_candidates_60 (by decide) ?_
  refine lv_lmul hx hb dM_candidates_61 ?_
  refine lv_ldc2 hx hb hown (hts _ bw_707) dM_candidates_62 ?_
  refine lv_ladd hx hb dM_candidates_65 ?_
  refine lv_topl (fun t69 e_t69 => ?_)
  have e_t69 : t69 = lN (3 * 4 + 2) := by rw [e_t69]; decide
  subst e_t69
  refine bm_callE (va_runS (As := [.long seed, .long (lN (3 * 4 + 2))]) (rest := [.int 4, .ref (m + 14)]) ⟨hx, hb, hml, hown, hts⟩ (bc_M_hash2 l D ct base ad M68 sz seed (lN (3 * 4 + 2))) (va_cwS 2 hts (bm_goodS bw_694 bw_695 bw_5 bw_696) rfl rfl rfl (by decide +kernel) (by rw [← hR]; exact ⟨Nat.le_of_ble_eq_true rfl, Nat.le_of_ble_eq_true rfl⟩)) (bm_preS hM hG hS hz) rfl rfl hl.1 rfl (lv_room (Nat.le_of_ble_eq_true rfl)) dM_candidates_66 (by rw [← hR]; exact ⟨Nat.le_of_ble_eq_true rfl, Nat.le_of_ble_eq_true rfl⟩)) hS (fun H locs hz hM hS => ?_)
  refine bm_last hx hb hK hM hS 1 hP.c14 rfl 4 (bm_ix_nI (k := 4) (by decide)) (by decide) dM_candidates_69 (fun H locs hz1 hM hS => ?_)
  have hz := hz1.trans hz
  obtain ⟨M70, hM, hP, hF⟩ : ∃ X, bm_M D base X H ∧ bm_MD ct m th tr bl np nd f1 f2 f3 f4 g5 g6 f7 g8 g9 g10 (vp_updL (vp_updL (vp_updL (vp_updL (vp_updL g11 0 (bm_ca seed 0)) 1 (bm_ca seed 1)) 2 (bm_ca seed 2)) 3 (bm_ca seed 3)) 4 (bm_ca seed 4)) (vp_updL (vp_updL (vp_updL (vp_updL g12 0 (bm_cb seed a ch 0)) 1 (bm_cb seed a ch 1)) 2 (bm_cb seed a ch 2)) 3 (bm_cb seed a ch 3)) (vp_updL (vp_updL (vp_updL (vp_updL (vp_updL g13 0 (bm_cc seed 0)) 1 (bm_cc seed 1)) 2 (bm_cc seed 2)) 3 (bm_cc seed 3)) 4 (bm_cc seed 4)) (vp_updL (vp_updL (vp_updL (vp_updL (vp_updL g14 0 (bm_ce seed 0)) 1 (bm_ce seed 1)) 2 (bm_ce seed 2)) 3 (bm_ce seed 3)) 4 (bm_ce seed 4)) (vp_updL (vp_updL (vp_updL (vp_updL g15 0 (bm_cp seed a ch 0)) 1 (bm_cp seed a ch 1)) 2 (bm_cp seed a ch 2)) 3 (bm_cp seed a ch 3)) (upd (upd (upd (upd f16 0 (vp_nar .boolean 1)) 1 (vp_nar .boolean 1)) 2 (vp_nar .boolean 1)) 3 (vp_nar .boolean 1)) g17 X ∧ bm_fr m M X := ⟨_, hM, hP.s14 _, hF.up (by decide)⟩
  refine lv_aload_n hx hb dM_candidates_70 rfl (lv_at hl 2 rfl) ?_
  refine bm_get (ci := 7) (v := .ref (m + 12)) (C := "BlindMintModel") (T := bt_M) (N := 22) hx hb hts bu_M hown hK hM hP.c0 rfl 16 (by decide) (hts _ bw_618) (fun _ h9 => h9) rfl dM_candidates_71 ?_
  refine lv_iload hx hb dM_candidates_74 (lv_at hl 0 rfl) ?_
  refine lv_aload_n hx hb dM_candidates_76 rfl (lv_at hl 2 rfl) ?_
  refine bm_get (ci := 7) (v := .ref (m + 11)) (C := "BlindMintModel") (T := bt_M) (N := 22) hx hb hts bu_M hown hK hM hP.c0 rfl 15 (by decide) (hts _ bw_617) (fun _ h9 => h9) rfl dM_candidates_77 ?_
  refine lv_iload hx hb dM_candidates_80 (lv_at hl 0 rfl) ?_
  refine bm_lald hx hb hK hM 1 hP.c11 rfl 4 (bm_ix_nI (k := 4) (by decide)) (by decide) dM_candidates_82 ?_
  refine lv_topl (fun t71 e_t71 => ?_)
  have e_t71 : t71 = bm_ca seed 4 := by rw [e_t71]; rfl
  subst e_t71
  refine lv_ldc2 hx hb hown (hts _ bw_708) dM_candidates_83 ?_
  refine lv_iload_n hx hb dM_candidates_86 rfl (lv_at hl 3 rfl) ?_
  refine lv_i2l (v := lN a) hx hb dM_candidates_87 (nI_l (by omega)) ?_
  refine lv_ladd hx hb dM_candidates_88 ?_
  refine lv_topl (fun t72 e_t72 => ?_)
  have e_t72 : t72 = lN (1000 + a) := by rw [e_t72]; exact lN_add 1000 a
  subst e_t72
  refine lv_lxor hx hb dM_candidates_89 ?_
  refine lv_iload hx hb dM_candidates_90 (lv_at hl 5 rfl) ?_
  refine lv_iload hx hb dM_candidates_92 (lv_at hl 0 rfl) ?_
  refine lv_ishr hx hb dM_candidates_94 ?_
  refine lv_iconst (v := 1) hx hb dM_candidates_95 (by decide) ?_
  refine lv_iand hx hb dM_candidates_96 ?_
  refine lv_i2l hx hb dM_candidates_97 rfl ?_
  refine lv_lxor hx hb dM_candidates_98 ?_
  refine lv_topl (fun t73 e_t73 => ?_)
  have e_t73 : t73 = bm_cb seed a ch 4 := by rw [e_t73]; rfl
  subst e_t73
  refine bm_last hx hb hK hM hS 1 hP.c12 rfl 4 (bm_ix_nI (k := 4) (by decide)) (by decide) dM_candidates_99 (fun H locs hz1 hM hS => ?_)
  have hz := hz1.trans hz
  obtain ⟨M74, hM, hP, hF⟩ : ∃ X, bm_M D base X H ∧ bm_MD ct m th tr bl np nd f1 f2 f3 f4 g5 g6 f7 g8 g9 g10 (vp_updL (vp_updL (vp_updL (vp_updL (vp_updL g11 0 (bm_ca seed 0)) 1 (bm_ca seed 1)) 2 (bm_ca seed 2)) 3 (bm_ca seed 3)) 4 (bm_ca seed 4)) (vp_updL (vp_updL (vp_updL (vp_updL (vp_updL g12 0 (bm_cb seed a ch 0)) 1 (bm_cb seed a ch 1)) 2 (bm_cb seed a ch 2)) 3 (bm_cb seed a ch 3)) 4 (bm_cb seed a ch 4)) (vp_updL (vp_updL (vp_updL (vp_updL (vp_updL g13 0 (bm_cc seed 0)) 1 (bm_cc seed 1)) 2 (bm_cc seed 2)) 3 (bm_cc seed 3)) 4 (bm_cc seed 4)) (vp_updL (vp_updL (vp_updL (vp_updL (vp_updL g14 0 (bm_ce seed 0)) 1 (bm_ce seed 1)) 2 (bm_ce seed 2)) 3 (bm_ce seed 3)) 4 (bm_ce seed 4)) (vp_updL (vp_updL (vp_updL (vp_updL g15 0 (bm_cp seed a ch 0)) 1 (bm_cp seed a ch 1)) 2 (bm_cp seed a ch 2)) 3 (bm_cp seed a ch 3)) (upd (upd (upd (upd f16 0 (vp_nar .boolean 1)) 1 (vp_nar .boolean 1)) 2 (vp_nar .boolean 1)) 3 (vp_nar .boolean 1)) g17 X ∧ bm_fr m M X := ⟨_, hM, hP.s12 _, hF.up (by decide)⟩
  refine lv_aload_n hx hb dM_candidates_100 rfl (lv_at hl 2 rfl) ?_
  refine bm_get (ci := 7) (v := .ref (m + 11)) (C := "BlindMintModel") (T := bt_M) (N := 22) hx hb hts bu_M hown hK hM hP.c0 rfl 15 (by decide) (hts _ bw_617) (fun _ h9 => h9) rfl dM_candidates_101 ?_
  refine lv_iload hx hb dM_candidates_104 (lv_at hl 0 rfl) ?_
  refine bm_lald hx hb hK hM 1 hP.c11 rfl 4 (bm_ix_nI (k := 4) (by decide)) (by decide) dM_candidates_106 ?_
  refine lv_topl (fun t75 e_t75 => ?_)
  have e_t75 : t75 = bm_ca seed 4 := by rw [e_t75]; rfl
  subst e_t75
  refine lv_aload_n hx hb dM_candidates_107 rfl (lv_at hl 2 rfl) ?_
  refine bm_get (ci := 7) (v := .ref (m + 13)) (C := "BlindMintModel") (T := bt_M) (N := 22) hx hb hts bu_M hown hK hM hP.c0 rfl 17 (by decide) (hts _ bw_619) (fun _ h9 => h9) rfl dM_candidates_108 ?_
  refine lv_iload hx hb dM_candidates_111 (lv_at hl 0 rfl) ?_
  refine bm_lald hx hb hK hM 1 hP.c13 rfl 4 (bm_ix_nI (k := 4) (by decide)) (by decide) dM_candidates_113 ?_
  refine lv_topl (fun t76 e_t76 => ?_)
  have e_t76 : t76 = bm_cc seed 4 := by rw [e_t76]; rfl
  subst e_t76
  refine bm_callE (va_runS (As := [.long (bm_ca seed 4), .long (bm_cc seed 4)]) (rest := []) ⟨hx, hb, hml, hown, hts⟩ (bc_M_hash2 l D ct base ad M74 sz (bm_ca seed 4) (bm_cc seed 4)) (va_cwS 2 hts (bm_goodS bw_694 bw_695 bw_5 bw_696) rfl rfl rfl (by decide +kernel) (by rw [← hR]; exact ⟨Nat.le_of_ble_eq_true rfl, Nat.le_of_ble_eq_true rfl⟩)) (bm_preS hM hG hS hz) rfl rfl hl.1 rfl (lv_room (Nat.le_of_ble_eq_true rfl)) dM_candidates_114 (by rw [← hR]; exact ⟨Nat.le_of_ble_eq_true rfl, Nat.le_of_ble_eq_true rfl⟩)) hS (fun H locs hz hM hS => ?_)
  refine lv_lstore hx hb dM_candidates_117 hl (by decide) rfl (fun ls hl => ?_)
  have hl : lv_has ls 8 [(6, .long (bm_h2 (bm_ca seed 4) (bm_cc seed 4))), (5, .int 4), (0, .ref m), (1, .int (nI a)), (2, .long seed), (4, .int ch)] := hl
  refine lv_aload_n hx hb dM_candidates_119 rfl (lv_at hl 2 rfl) ?_
  refine bm_get (ci := 7) (v := .ref (m + 15)) (C := "BlindMintModel") (T := bt_M) (N := 22) hx hb hts bu_M hown hK hM hP.c0 rfl 19 (by decide) (hts _ bw_621) (fun _ h9 => h9) rfl dM_candidates_120 ?_
  refine lv_iload hx hb dM_candidates_123 (lv_at hl 1 rfl) ?_
  refine lv_lload hx hb dM_candidates_125 (lv_at hl 0 rfl) ?_
  refine lv_aload_n hx hb dM_candidates_127 rfl (lv_at hl 2 rfl) ?_
  refine bm_get (ci := 7) (v := .ref (m + 12)) (C := "BlindMintModel") (T := bt_M) (N := 22) hx hb hts bu_M hown hK hM hP.c0 rfl 16 (by decide) (hts _ bw_618) (fun _ h9 => h9) rfl dM_candidates_128 ?_
  refine lv_iload hx hb dM_candidates_131 (lv_at hl 1 rfl) ?_
  refine bm_lald hx hb hK hM 1 hP.c12 rfl 4 (bm_ix_nI (k := 4) (by decide)) (by decide) dM_candidates_133 ?_
  refine lv_topl (fun t77 e_t77 => ?_)
  have e_t77 : t77 = bm_cb seed a ch 4 := by rw [e_t77]; rfl
  subst e_t77
  refine lv_aload_n hx hb dM_candidates_134 rfl (lv_at hl 2 rfl) ?_
  refine bm_get (ci := 7) (v := .ref (m + 14)) (C := "BlindMintModel") (T := bt_M) (N := 22) hx hb hts bu_M hown hK hM hP.c0 rfl 18 (by decide) (hts _ bw_620) (fun _ h9 => h9) rfl dM_candidates_135 ?_
  refine lv_iload hx hb dM_candidates_138 (lv_at hl 1 rfl) ?_
  refine bm_lald hx hb hK hM 1 hP.c14 rfl 4 (bm_ix_nI (k := 4) (by decide)) (by decide) dM_candidates_140 ?_
  refine lv_topl (fun t78 e_t78 => ?_)
  have e_t78 : t78 = bm_ce seed 4 := by rw [e_t78]; rfl
  subst e_t78
  refine bm_callE (va_runS (As := [.long (bm_cb seed a ch 4), .long (bm_ce seed 4)]) (rest := [.long (bm_h2 (bm_ca seed 4) (bm_cc seed 4)), .int 4, .ref (m + 15)]) ⟨hx, hb, hml, hown, hts⟩ (bc_M_hash2 l D ct base ad M74 sz (bm_cb seed a ch 4) (bm_ce seed 4)) (va_cwS 2 hts (bm_goodS bw_694 bw_695 bw_5 bw_696) rfl rfl rfl (by decide +kernel) (by rw [← hR]; exact ⟨Nat.le_of_ble_eq_true rfl, Nat.le_of_ble_eq_true rfl⟩)) (bm_preS hM hG hS hz) rfl rfl hl.1 rfl (lv_room (Nat.le_of_ble_eq_true rfl)) dM_candidates_141 (by rw [← hR]; exact ⟨Nat.le_of_ble_eq_true rfl, Nat.le_of_ble_eq_true rfl⟩)) hS (fun H locs hz hM hS => ?_)
  refine bm_callE (va_runS (As := [.long (bm_h2 (bm_ca seed 4) (bm_cc seed 4)), .long (bm_h2 (bm_cb seed a ch 4) (bm_ce seed 4))]) (rest := [.int 4, .ref (m + 15)]) ⟨hx, hb, hml, hown, hts⟩ (bc_M_hash2 l D ct base ad M74 sz (bm_h2 (bm_ca seed 4) (bm_cc seed 4)) (bm_h2 (bm_cb seed a ch 4) (bm_ce seed 4))) (va_cwS 2 hts (bm_goodS bw_694 bw_695 bw_5 bw_696) rfl rfl rfl (by decide +kernel) (by rw [← hR]; exact ⟨Nat.le_of_ble_eq_true rfl, Nat.le_of_ble_eq_true rfl⟩)) (bm_preS hM hG hS hz) rfl rfl hl.1 rfl (lv_room (Nat.le_of_ble_eq_true rfl)) dM_candidates_144 (by rw [← hR]; exact ⟨Nat.le_of_ble_eq_true rfl, Nat.le_of_ble_eq_true rfl⟩)) hS (fun H locs hz hM hS => ?_)
  refine bm_last hx hb hK hM hS 1 hP.c15 rfl 4 (bm_ix_nI (k := 4) (by decide)) (by decide) dM_candidates_147 (fun H locs hz1 hM hS => ?_)
  have hz := hz1.trans hz
  obtain ⟨M79, hM, hP, hF⟩ : ∃ X, bm_M D base X H ∧ bm_MD ct m th tr bl np nd f1 f2 f3 f4 g5 g6 f7 g8 g9 g10 (vp_updL (vp_updL (vp_updL (vp_updL (vp_updL g11 0 (bm_ca seed 0)) 1 (bm_ca seed 1)) 2 (bm_ca seed 2)) 3 (bm_ca seed 3)) 4 (bm_ca seed 4)) (vp_updL (vp_updL (vp_updL (vp_updL (vp_updL g12 0 (bm_cb seed a ch 0)) 1 (bm_cb seed a ch 1)) 2 (bm_cb seed a ch 2)) 3 (bm_cb seed a ch 3)) 4 (bm_cb seed a ch 4)) (vp_updL (vp_updL (vp_updL (vp_updL (vp_updL g13 0 (bm_cc seed 0)) 1 (bm_cc seed 1)) 2 (bm_cc seed 2)) 3 (bm_cc seed 3)) 4 (bm_cc seed 4)) (vp_updL (vp_updL (vp_updL (vp_updL (vp_updL g14 0 (bm_ce seed 0)) 1 (bm_ce seed 1)) 2 (bm_ce seed 2)) 3 (bm_ce seed 3)) 4 (bm_ce seed 4)) (vp_updL (vp_updL (vp_updL (vp_updL (vp_updL g15 0 (bm_cp seed a ch 0)) 1 (bm_cp seed a ch 1)) 2 (bm_cp seed a ch 2)) 3 (bm_cp seed a ch 3)) 4 (bm_cp seed a ch 4)) (upd (upd (upd (upd f16 0 (vp_nar .boolean 1)) 1 (vp_nar .boolean 1)) 2 (vp_nar .boolean 1)) 3 (vp_nar .boolean 1)) g17 X ∧ bm_fr m M X := ⟨_, hM, hP.s15 _, hF.up (by decide)⟩
  refine lv_aload_n hx hb dM_candidates_148 rfl (lv_at hl 2 rfl) ?_
  refine bm_get (ci := 7) (v := .ref (m + 16)) (C := "BlindMintModel") (T := bt_M) (N := 22) hx hb hts bu_M hown hK hM hP.c0 rfl 20 (by decide) (hts _ bw_622) (fun _ h9 => h9) rfl dM_candidates_149 ?_
  refine lv_iload hx hb dM_candidates_152 (lv_at hl 1 rfl) ?_
  refine lv_iconst (v := 1) hx hb dM_candidates_154 (by decide) ?_
  refine bm_zast hx hb hK hM hS 2 hP.c16 rfl 4 (bm_ix_nI (k := 4) (by decide)) (by decide) dM_candidates_155 (fun H locs hz1 hM hS => ?_)
  have hz := hz1.trans hz
  obtain ⟨M80, hM, hP, hF⟩ : ∃ X, bm_M D base X H ∧ bm_MD ct m th tr bl np nd f1 f2 f3 f4 g5 g6 f7 g8 g9 g10 (vp_updL (vp_updL (vp_updL (vp_updL (vp_updL g11 0 (bm_ca seed 0)) 1 (bm_ca seed 1)) 2 (bm_ca seed 2)) 3 (bm_ca seed 3)) 4 (bm_ca seed 4)) (vp_updL (vp_updL (vp_updL (vp_updL (vp_updL g12 0 (bm_cb seed a ch 0)) 1 (bm_cb seed a ch 1)) 2 (bm_cb seed a ch 2)) 3 (bm_cb seed a ch 3)) 4 (bm_cb seed a ch 4)) (vp_updL (vp_updL (vp_updL (vp_updL (vp_updL g13 0 (bm_cc seed 0)) 1 (bm_cc seed 1)) 2 (bm_cc seed 2)) 3 (bm_cc seed 3)) 4 (bm_cc seed 4)) (vp_updL (vp_updL (vp_updL (vp_updL (vp_updL g14 0 (bm_ce seed 0)) 1 (bm_ce seed 1)) 2 (bm_ce seed 2)) 3 (bm_ce seed 3)) 4 (bm_ce seed 4)) (vp_updL (vp_updL (vp_updL (vp_updL (vp_updL g15 0 (bm_cp seed a ch 0)) 1 (bm_cp seed a ch 1)) 2 (bm_cp seed a ch 2)) 3 (bm_cp seed a ch 3)) 4 (bm_cp seed a ch 4)) (upd (upd (upd (upd (upd f16 0 (vp_nar .boolean 1)) 1 (vp_nar .boolean 1)) 2 (vp_nar .boolean 1)) 3 (vp_nar .boolean 1)) 4 (vp_nar .boolean 1)) g17 X ∧ bm_fr m M X := ⟨_, hM, hP.s16 _, hF.up (by decide)⟩
  refine lv_iinc (v := 5) (k := 1) hx hb dM_candidates_156 hl rfl (by decide) (by decide) rfl (fun ls hl => ?_)
  have hl : lv_has ls 8 [(5, .int 5), (6, .long (bm_h2 (bm_ca seed 4) (bm_cc seed 4))), (0, .ref m), (1, .int (nI a)), (2, .long seed), (4, .int ch)] := hl
  refine lv_goto (tgt := 3) hx hb dM_candidates_159 rfl ?_
  refine lv_iload hx hb dM_candidates_3 (lv_at hl 0 rfl) ?_
  refine lv_bipush (v := 6) hx hb dM_candidates_5 (by decide) ?_
  refine lv_icmp_ge (tgt := 162) hx hb dM_candidates_7 rfl (fun h => absurd h (by decide)) (fun _ => ?_)
  refine lv_aload_n hx hb dM_candidates_10 rfl (lv_at hl 2 rfl) ?_
  refine bm_get (ci := 7) (v := .ref (m + 11)) (C := "BlindMintModel") (T := bt_M) (N := 22) hx hb hts bu_M hown hK hM hP.c0 rfl 15 (by decide) (hts _ bw_617) (fun _ h9 => h9) rfl dM_candidates_11 ?_
  refine lv_iload hx hb dM_candidates_14 (lv_at hl 0 rfl) ?_
  refine lv_lload_n hx hb dM_candidates_16 rfl (lv_at hl 4 rfl) ?_
  refine lv_ldc2 hx hb hown (hts _ bw_693) dM_candidates_17 ?_
  refine lv_iload hx hb dM_candidates_20 (lv_at hl 0 rfl) ?_
  refine lv_i2l (v := 5) hx hb dM_candidates_22 (by decide) ?_
  refine lv_lmul hx hb dM_candidates_23 ?_
  refine lv_topl (fun t81 e_t81 => ?_)
  have e_t81 : t81 = lN (3 * 5) := by rw [e_t81]; decide
  subst e_t81
  refine bm_callE (va_runS (As := [.long seed, .long (lN (3 * 5))]) (rest := [.int 5, .ref (m + 11)]) ⟨hx, hb, hml, hown, hts⟩ (bc_M_hash2 l D ct base ad M80 sz seed (lN (3 * 5))) (va_cwS 2 hts (bm_goodS bw_694 bw_695 bw_5 bw_696) rfl rfl rfl (by decide +kernel) (by rw [← hR]; exact ⟨Nat.le_of_ble_eq_true rfl, Nat.le_of_ble_eq_true rfl⟩)) (bm_preS hM hG hS hz) rfl rfl hl.1 rfl (lv_room (Nat.le_of_ble_eq_true rfl)) dM_candidates_24 (by rw [← hR]; exact ⟨Nat.le_of_ble_eq_true rfl, Nat.le_of_ble_eq_true rfl⟩)) hS (fun H locs hz hM hS => ?_)
  refine bm_last hx hb hK hM hS 1 hP.c11 rfl 5 (bm_ix_nI (k := 5) (by decide)) (by decide) dM_candidates_27 (fun H locs hz1 hM hS => ?_)
  have hz := hz1.trans hz
  obtain ⟨M82, hM, hP, hF⟩ : ∃ X, bm_M D base X H ∧ bm_MD ct m th tr bl np nd f1 f2 f3 f4 g5 g6 f7 g8 g9 g10 (vp_updL (vp_updL (vp_updL (vp_updL (vp_updL (vp_updL g11 0 (bm_ca seed 0)) 1 (bm_ca seed 1)) 2 (bm_ca seed 2)) 3 (bm_ca seed 3)) 4 (bm_ca seed 4)) 5 (bm_ca seed 5)) (vp_updL (vp_updL (vp_updL (vp_updL (vp_updL g12 0 (bm_cb seed a ch 0)) 1 (bm_cb seed a ch 1)) 2 (bm_cb seed a ch 2)) 3 (bm_cb seed a ch 3)) 4 (bm_cb seed a ch 4)) (vp_updL (vp_updL (vp_updL (vp_updL (vp_updL g13 0 (bm_cc seed 0)) 1 (bm_cc seed 1)) 2 (bm_cc seed 2)) 3 (bm_cc seed 3)) 4 (bm_cc seed 4)) (vp_updL (vp_updL (vp_updL (vp_updL (vp_updL g14 0 (bm_ce seed 0)) 1 (bm_ce seed 1)) 2 (bm_ce seed 2)) 3 (bm_ce seed 3)) 4 (bm_ce seed 4)) (vp_updL (vp_updL (vp_updL (vp_updL (vp_updL g15 0 (bm_cp seed a ch 0)) 1 (bm_cp seed a ch 1)) 2 (bm_cp seed a ch 2)) 3 (bm_cp seed a ch 3)) 4 (bm_cp seed a ch 4)) (upd (upd (upd (upd (upd f16 0 (vp_nar .boolean 1)) 1 (vp_nar .boolean 1)) 2 (vp_nar .boolean 1)) 3 (vp_nar .boolean 1)) 4 (vp_nar .boolean 1)) g17 X ∧ bm_fr m M X := ⟨_, hM, hP.s11 _, hF.up (by decide)⟩
  refine lv_aload_n hx hb dM_candidates_28 rfl (lv_at hl 2 rfl) ?_
  refine bm_get (ci := 7) (v := .ref (m + 13)) (C := "BlindMintModel") (T := bt_M) (N := 22) hx hb hts bu_M hown hK hM hP.c0 rfl 17 (by decide) (hts _ bw_619) (fun _ h9 => h9) rfl dM_candidates_29 ?_
  refine lv_iload hx hb dM_candidates_32 (lv_at hl 0 rfl) ?_
  refine lv_lload_n hx hb dM_candidates_34 rfl (lv_at hl 4 rfl) ?_
  refine lv_ldc2 hx hb hown (hts _ bw_693) dM_candidates_35 ?_
  refine lv_iload hx hb dM_candidates_38 (lv_at hl 0 rfl) ?_
  refine lv_i2l (v := 5) hx hb dM_candidates_40 (by decide) ?_
  refine lv_lmul hx hb dM_candidates_41 ?_
  refine lv_lconst (v := 1) hx hb dM_candidates_42 (by decide) ?_
  refine lv_ladd hx hb dM_candidates_43 ?_
  refine lv_topl (fun t83 e_t83 => ?_)
  have e_t83 : t83 = lN (3 * 5 + 1) := by rw [e_t83]; decide
  subst e_t83
  refine bm_callE (va_runS (As := [.long seed, .long (lN (3 * 5 + 1))]) (rest := [.int 5, .ref (m + 13)]) ⟨hx, hb, hml, hown, hts⟩ (bc_M_hash2 l D ct base ad M82 sz seed (lN (3 * 5 + 1))) (va_cwS 2 hts (bm_goodS bw_694 bw_695 bw_5 bw_696) rfl rfl rfl (by decide +kernel) (by rw [← hR]; exact ⟨Nat.le_of_ble_eq_true rfl, Nat.le_of_ble_eq_true rfl⟩)) (bm_preS hM hG hS hz) rfl rfl hl.1 rfl (lv_room (Nat.le_of_ble_eq_true rfl)) dM_candidates_44 (by rw [← hR]; exact ⟨Nat.le_of_ble_eq_true rfl, Nat.le_of_ble_eq_true rfl⟩)) hS (fun H locs hz hM hS => ?_)
  refine bm_last hx hb hK hM hS 1 hP.c13 rfl 5 (bm_ix_nI (k := 5) (by decide)) (by decide) dM_candidates_47 (fun H locs hz1 hM hS => ?_)
  have hz := hz1.trans hz
  obtain ⟨M84, hM, hP, hF⟩ : ∃ X, bm_M D base X H ∧ bm_MD ct m th tr bl np nd f1 f2 f3 f4 g5 g6 f7 g8 g9 g10 (vp_updL (vp_updL (vp_updL (vp_updL (vp_updL (vp_updL g11 0 (bm_ca seed 0)) 1 (bm_ca seed 1)) 2 (bm_ca seed 2)) 3 (bm_ca seed 3)) 4 (bm_ca seed 4)) 5 (bm_ca seed 5)) (vp_updL (vp_updL (vp_updL (vp_updL (vp_updL g12 0 (bm_cb seed a ch 0)) 1 (bm_cb seed a ch 1)) 2 (bm_cb seed a ch 2)) 3 (bm_cb seed a ch 3)) 4 (bm_cb seed a ch 4)) (vp_updL (vp_updL (vp_updL (vp_updL (vp_updL (vp_updL g13 0 (bm_cc seed 0)) 1 (bm_cc seed 1)) 2 (bm_cc seed 2)) 3 (bm_cc seed 3)) 4 (bm_cc seed 4)) 5 (bm_cc seed 5)) (vp_updL (vp_updL (vp_updL (vp_updL (vp_updL g14 0 (bm_ce seed 0)) 1 (bm_ce seed 1)) 2 (bm_ce seed 2)) 3 (bm_ce seed 3)) 4 (bm_ce seed 4)) (vp_updL (vp_updL (vp_updL (vp_updL (vp_updL g15 0 (bm_cp seed a ch 0)) 1 (bm_cp seed a ch 1)) 2 (bm_cp seed a ch 2)) 3 (bm_cp seed a ch 3)) 4 (bm_cp seed a ch 4)) (upd (upd (upd (upd (upd f16 0 (vp_nar .boolean 1)) 1 (vp_nar .boolean 1)) 2 (vp_nar .boolean 1)) 3 (vp_nar .boolean 1)) 4 (vp_nar .boolean 1)) g17 X ∧ bm_fr m M X := ⟨_, hM, hP.s13 _, hF.up (by decide)⟩
  refine lv_aload_n hx hb dM_candidates_48 rfl (lv_at hl 2 rfl) ?_
  refine bm_get (ci := 7) (v := .ref (m + 14)) (C := "BlindMintModel") (T := bt_M) (N := 22) hx hb hts bu_M hown hK hM hP.c0 rfl 18 (by decide) (hts _ bw_620) (fun _ h9 => h9) rfl dM_candidates_49 ?_
  refine lv_iload hx hb dM_candidates_52 (lv_at hl 0 rfl) ?_
  refine lv_lload_n hx hb dM_candidates_54 rfl (lv_at hl 4 rfl) ?_
  refine lv_ldc2 hx hb hown (hts _ bw_693) dM_candidates_55 ?_
  refine lv_iload hx hb dM_candidates_58 (lv_at hl 0 rfl) ?_
  refine lv_i2l (v := 5) hx hb dM_candidates_60 (by decide) ?_
  refine lv_lmul hx hb dM_candidates_61 ?_
  refine lv_ldc2 hx hb hown (hts _ bw_707) dM_candidates_62 ?_
  refine lv_ladd hx hb dM_candidates_65 ?_
  refine lv_topl (fun t85 e_t85 => ?_)
  have e_t85 : t85 = lN (3 * 5 + 2) := by rw [e_t85]; decide
  subst e_t85
  refine bm_callE (va_runS (As := [.long seed, .long (lN (3 * 5 + 2))]) (rest := [.int 5, .ref (m + 14)]) ⟨hx, hb, hml, hown, hts⟩ (bc_M_hash2 l D ct base ad M84 sz seed (lN (3 * 5 + 2))) (va_cwS 2 hts (bm_goodS bw_694 bw_695 bw_5 bw_696) rfl rfl rfl (by decide +kernel) (by rw [← hR]; exact ⟨Nat.le_of_ble_eq_true rfl, Nat.le_of_ble_eq_true rfl⟩)) (bm_preS hM hG hS hz) rfl rfl hl.1 rfl (lv_room (Nat.le_of_ble_eq_true rfl)) dM_candidates_66 (by rw [← hR]; exact ⟨Nat.le_of_ble_eq_true rfl, Nat.le_of_ble_eq_true rfl⟩)) hS (fun H locs hz hM hS => ?_)
  refine bm_last hx hb hK hM hS 1 hP.c14 rfl 5 (bm_ix_nI (k := 5) (by decide)) (by decide) dM_candidates_69 (fun H locs hz1 hM hS => ?_)
  have hz := hz1.trans hz
  obtain ⟨M86, hM, hP, hF⟩ : ∃ X, bm_M D base X H ∧ bm_MD ct m th tr bl np nd f1 f2 f3 f4 g5 g6 f7 g8 g9 g10 (vp_updL (vp_updL (vp_updL (vp_updL (vp_updL (vp_updL g11 0 (bm_ca seed 0)) 1 (bm_ca seed 1)) 2 (bm_ca seed 2)) 3 (bm_ca seed 3)) 4 (bm_ca seed 4)) 5 (bm_ca seed 5)) (vp_updL (vp_updL (vp_updL (vp_updL (vp_updL g12 0 (bm_cb seed a ch 0)) 1 (bm_cb seed a ch 1)) 2 (bm_cb seed a ch 2)) 3 (bm_cb seed a ch 3)) 4 (bm_cb seed a ch 4)) (vp_updL (vp_updL (vp_updL (vp_updL (vp_updL (vp_updL g13 0 (bm_cc seed 0)) 1 (bm_cc seed 1)) 2 (bm_cc seed 2)) 3 (bm_cc seed 3)) 4 (bm_cc seed 4)) 5 (bm_cc seed 5)) (vp_updL (vp_updL (vp_updL (vp_updL (vp_updL (vp_updL g14 0 (bm_ce seed 0)) 1 (bm_ce seed 1)) 2 (bm_ce seed 2)) 3 (bm_ce seed 3)) 4 (bm_ce seed 4)) 5 (bm_ce seed 5)) (vp_updL (vp_updL (vp_updL (vp_updL (vp_updL g15 0 (bm_cp seed a ch 0)) 1 (bm_cp seed a ch 1)) 2 (bm_cp seed a ch 2)) 3 (bm_cp seed a ch 3)) 4 (bm_cp seed a ch 4)) (upd (upd (upd (upd (upd f16 0 (vp_nar .boolean 1)) 1 (vp_nar .boolean 1)) 2 (vp_nar .boolean 1)) 3 (vp_nar .boolean 1)) 4 (vp_nar .boolean 1)) g17 X ∧ bm_fr m M X := ⟨_, hM, hP.s14 _, hF.up (by decide)⟩
  refine lv_aload_n hx hb dM_candidates_70 rfl (lv_at hl 2 rfl) ?_
  refine bm_get (ci := 7) (v := .ref (m + 12)) (C := "BlindMintModel") (T := bt_M) (N := 22) hx hb hts bu_M hown hK hM hP.c0 rfl 16 (by decide) (hts _ bw_618) (fun _ h9 => h9) rfl dM_candidates_71 ?_
  refine lv_iload hx hb dM_candidates_74 (lv_at hl 0 rfl) ?_
  refine lv_aload_n hx hb dM_candidates_76 rfl (lv_at hl 2 rfl) ?_
  refine bm_get (ci := 7) (v := .ref (m + 11)) (C := "BlindMintModel") (T := bt_M) (N := 22) hx hb hts bu_M hown hK hM hP.c0 rfl 15 (by decide) (hts _ bw_617) (fun _ h9 => h9) rfl dM_candidates_77 ?_
  refine lv_iload hx hb dM_candidates_80 (lv_at hl 0 rfl) ?_
  refine bm_lald hx hb hK hM 1 hP.c11 rfl 5 (bm_ix_nI (k := 5) (by decide)) (by decide) dM_candidates_82 ?_
  refine lv_topl (fun t87 e_t87 => ?_)
  have e_t87 : t87 = bm_ca seed 5 := by rw [e_t87]; rfl
  subst e_t87
  refine lv_ldc2 hx hb hown (hts _ bw_708) dM_candidates_83 ?_
  refine lv_iload_n hx hb dM_candidates_86 rfl (lv_at hl 3 rfl) ?_
  refine lv_i2l (v := lN a) hx hb dM_candidates_87 (nI_l (by omega)) ?_
  refine lv_ladd hx hb dM_candidates_88 ?_
  refine lv_topl (fun t88 e_t88 => ?_)
  have e_t88 : t88 = lN (1000 + a) := by rw [e_t88]; exact lN_add 1000 a
  subst e_t88
  refine lv_lxor hx hb dM_candidates_89 ?_
  refine lv_iload hx hb dM_candidates_90 (lv_at hl 5 rfl) ?_
  refine lv_iload hx hb dM_candidates_92 (lv_at hl 0 rfl) ?_
  refine lv_ishr hx hb dM_candidates_94 ?_
  refine lv_iconst (v := 1) hx hb dM_candidates_95 (by decide) ?_
  refine lv_iand hx hb dM_candidates_96 ?_
  refine lv_i2l hx hb dM_candidates_97 rfl ?_
  refine lv_lxor hx hb dM_candidates_98 ?_
  refine lv_topl (fun t89 e_t89 => ?_)
  have e_t89 : t89 = bm_cb seed a ch 5 := by rw [e_t89]; rfl
  subst e_t89
  refine bm_last hx hb hK hM hS 1 hP.c12 rfl 5 (bm_ix_nI (k := 5) (by decide)) (by decide) dM_candidates_99 (fun H locs hz1 hM hS => ?_)
  have hz := hz1.trans hz
  obtain ⟨M90, hM, hP, hF⟩ : ∃ X, bm_M D base X H ∧ bm_MD ct m th tr bl np nd f1 f2 f3 f4 g5 g6 f7 g8 g9 g10 (vp_updL (vp_updL (vp_updL (vp_updL (vp_updL (vp_updL g11 0 (bm_ca seed 0)) 1 (bm_ca seed 1)) 2 (bm_ca seed 2)) 3 (bm_ca seed 3)) 4 (bm_ca seed 4)) 5 (bm_ca seed 5)) (vp_updL (vp_updL (vp_updL (vp_updL (vp_updL (vp_updL g12 0 (bm_cb seed a ch 0)) 1 (bm_cb seed a ch 1)) 2 (bm_cb seed a ch 2)) 3 (bm_cb seed a ch 3)) 4 (bm_cb seed a ch 4)) 5 (bm_cb seed a ch 5)) (vp_updL (vp_updL (vp_updL (vp_updL (vp_updL (vp_updL g13 0 (bm_cc seed 0)) 1 (bm_cc seed 1)) 2 (bm_cc seed 2)) 3 (bm_cc seed 3)) 4 (bm_cc seed 4)) 5 (bm_cc seed 5)) (vp_updL (vp_updL (vp_updL (vp_updL (vp_updL (vp_updL g14 0 (bm_ce seed 0)) 1 (bm_ce seed 1)) 2 (bm_ce seed 2)) 3 (bm_ce seed 3)) 4 (bm_ce seed 4)) 5 (bm_ce seed 5)) (vp_updL (vp_updL (vp_updL (vp_updL (vp_updL g15 0 (bm_cp seed a ch 0)) 1 (bm_cp seed a ch 1)) 2 (bm_cp seed a ch 2)) 3 (bm_cp seed a ch 3)) 4 (bm_cp seed a ch 4)) (upd (upd (upd (upd (upd f16 0 (vp_nar .boolean 1)) 1 (vp_nar .boolean 1)) 2 (vp_nar .boolean 1)) 3 (vp_nar .boolean 1)) 4 (vp_nar .boolean 1)) g17 X ∧ bm_fr m M X := ⟨_, hM, hP.s12 _, hF.up (by decide)⟩
  refine lv_aload_n hx hb dM_candidates_100 rfl (lv_at hl 2 rfl) ?_
  refine bm_get (ci := 7) (v := .ref (m + 11)) (C := "BlindMintModel") (T := bt_M) (N := 22) hx hb hts bu_M hown hK hM hP.c0 rfl 15 (by decide) (hts _ bw_617) (fun _ h9 => h9) rfl dM_candidates_101 ?_
  refine lv_iload hx hb dM_candidates_104 (lv_at hl 0 rfl) ?_
  refine bm_lald hx hb hK hM 1 hP.c11 rfl 5 (bm_ix_nI (k := 5) (by decide)) (by decide) dM_candidates_106 ?_
  refine lv_topl (fun t91 e_t91 => ?_)
  have e_t91 : t91 = bm_ca seed 5 := by rw [e_t91]; rfl
  subst e_t91
  refine lv_aload_n hx hb dM_candidates_107 rfl (lv_at hl 2 rfl) ?_
  refine bm_get (ci := 7) (v := .ref (m + 13)) (C := "BlindMintModel") (T := bt_M) (N := 22) hx hb hts bu_M hown hK hM hP.c0 rfl 17 (by decide) (hts _ bw_619) (fun _ h9 => h9) rfl dM_candidates_108 ?_
  refine lv_iload hx hb dM_candidates_111 (lv_at hl 0 rfl) ?_
  refine bm_lald hx hb hK hM 1 hP.c13 rfl 5 (bm_ix_nI (k := 5) (by decide)) (by decide) dM_candidates_113 ?_
  refine lv_topl (fun t92 e_t92 => ?_)
  have e_t92 : t92 = bm_cc seed 5 := by rw [e_t92]; rfl
  subst e_t92
  refine bm_callE (va_runS (As := [.long (bm_ca seed 5), .long (bm_cc seed 5)]) (rest := []) ⟨hx, hb, hml, hown, hts⟩ (bc_M_hash2 l D ct base ad M90 sz (bm_ca seed 5) (bm_cc seed 5)) (va_cwS 2 hts (bm_goodS bw_694 bw_695 bw_5 bw_696) rfl rfl rfl (by decide +kernel) (by rw [← hR]; exact ⟨Nat.le_of_ble_eq_true rfl, Nat.le_of_ble_eq_true rfl⟩)) (bm_preS hM hG hS hz) rfl rfl hl.1 rfl (lv_room (Nat.le_of_ble_eq_true rfl)) dM_candidates_114 (by rw [← hR]; exact ⟨Nat.le_of_ble_eq_true rfl, Nat.le_of_ble_eq_true rfl⟩)) hS (fun H locs hz hM hS => ?_)
  refine lv_lstore hx hb dM_candidates_117 hl (by decide) rfl (fun ls hl => ?_)
  have hl : lv_has ls 8 [(6, .long (bm_h2 (bm_ca seed 5) (bm_cc seed 5))), (5, .int 5), (0, .ref m), (1, .int (nI a)), (2, .long seed), (4, .int ch)] := hl
  refine lv_aload_n hx hb dM_candidates_119 rfl (lv_at hl 2 rfl) ?_
  refine bm_get (ci := 7) (v := .ref (m + 15)) (C := "BlindMintModel") (T := bt_M) (N := 22) hx hb hts bu_M hown hK hM hP.c0 rfl 19 (by decide) (hts _ bw_621) (fun _ h9 => h9) rfl dM_candidates_120 ?_
  refine lv_iload hx hb dM_candidates_123 (lv_at hl 1 rfl) ?_
  refine lv_lload hx hb dM_candidates_125 (lv_at hl 0 rfl) ?_
  refine lv_aload_n hx hb dM_candidates_127 rfl (lv_at hl 2 rfl) ?_
  refine bm_get (ci := 7) (v := .ref (m + 12)) (C := "BlindMintModel") (T := bt_M) (N := 22) hx hb hts bu_M hown hK hM hP.c0 rfl 16 (by decide) (hts _ bw_618) (fun _ h9 => h9) rfl dM_candidates_128 ?_
  refine lv_iload hx hb dM_candidates_131 (lv_at hl 1 rfl) ?_
  refine bm_lald hx hb hK hM 1 hP.c12 rfl 5 (bm_ix_nI (k := 5) (by decide)) (by decide) dM_candidates_133 ?_
  refine lv_topl (fun t93 e_t93 => ?_)
  have e_t93 : t93 = bm_cb seed a ch 5 := by rw [e_t93]; rfl
  subst e_t93
  refine lv_aload_n hx hb dM_candidates_134 rfl (lv_at hl 2 rfl) ?_
  refine bm_get (ci := 7) (v := .ref (m + 14)) (C := "BlindMintModel") (T := bt_M) (N := 22) hx hb hts bu_M hown hK hM hP.c0 rfl 18 (by decide) (hts _ bw_620) (fun _ h9 => h9) rfl dM_candidates_135 ?_
  refine lv_iload hx hb dM_candidates_138 (lv_at hl 1 rfl) ?_
  refine bm_lald hx hb hK hM 1 hP.c14 rfl 5 (bm_ix_nI (k := 5) (by decide)) (by decide) dM_candidates_140 ?_
  refine lv_topl (fun t94 e_t94 => ?_)
  have e_t94 : t94 = bm_ce seed 5 := by rw [e_t94]; rfl
  subst e_t94
  refine bm_callE (va_runS (As := [.long (bm_cb seed a ch 5), .long (bm_ce seed 5)]) (rest := [.long (bm_h2 (bm_ca seed 5) (bm_cc seed 5)), .int 5, .ref (m + 15)]) ⟨hx, hb, hml, hown, hts⟩ (bc_M_hash2 l D ct base ad M90 sz (bm_cb seed a ch 5) (bm_ce seed 5)) (va_cwS 2 hts (bm_goodS bw_694 bw_695 bw_5 bw_696) rfl rfl rfl (by decide +kernel) (by rw [← hR]; exact ⟨Nat.le_of_ble_eq_true rfl, Nat.le_of_ble_eq_true rfl⟩)) (bm_preS hM hG hS hz) rfl rfl hl.1 rfl (lv_room (Nat.le_of_ble_eq_true rfl)) dM_candidates_141 (by rw [← hR]; exact ⟨Nat.le_of_ble_eq_true rfl, Nat.le_of_ble_eq_true rfl⟩)) hS (fun H locs hz hM hS => ?_)
  refine bm_callE (va_runS (As := [.long (bm_h2 (bm_ca seed 5) (bm_cc seed 5)), .long (bm_h2 (bm_cb seed a ch 5) (bm_ce seed 5))]) (rest := [.int 5, .ref (m + 15)]) ⟨hx, hb, hml, hown, hts⟩ (bc_M_hash2 l D ct base ad M90 sz (bm_h2 (bm_ca seed 5) (bm_cc seed 5)) (bm_h2 (bm_cb seed a ch 5) (bm_ce seed 5))) (va_cwS 2 hts (bm_goodS bw_694 bw_695 bw_5 bw_696) rfl rfl rfl (by decide +kernel) (by rw [← hR]; exact ⟨Nat.le_of_ble_eq_true rfl, Nat.le_of_ble_eq_true rfl⟩)) (bm_preS hM hG hS hz) rfl rfl hl.1 rfl (lv_room (Nat.le_of_ble_eq_true rfl)) dM_candidates_144 (by rw [← hR]; exact ⟨Nat.le_of_ble_eq_true rfl, Nat.le_of_ble_eq_true rfl⟩)) hS (fun H locs hz hM hS => ?_)
  refine bm_last hx hb hK hM hS 1 hP.c15 rfl 5 (bm_ix_nI (k := 5) (by decide)) (by decide) dM_candidates_147 (fun H locs hz1 hM hS => ?_)
  have hz := hz1.trans hz
  obtain ⟨M95, hM, hP, hF⟩ : ∃ X, bm_M D base X H ∧ bm_MD ct m th tr bl np nd f1 f2 f3 f4 g5 g6 f7 g8 g9 g10 (vp_updL (vp_updL (vp_updL (vp_updL (vp_updL (vp_updL g11 0 (bm_ca seed 0)) 1 (bm_ca seed 1)) 2 (bm_ca seed 2)) 3 (bm_ca seed 3)) 4 (bm_ca seed 4)) 5 (bm_ca seed 5)) (vp_updL (vp_updL (vp_updL (vp_updL (vp_updL (vp_updL g12 0 (bm_cb seed a ch 0)) 1 (bm_cb seed a ch 1)) 2 (bm_cb seed a ch 2)) 3 (bm_cb seed a ch 3)) 4 (bm_cb seed a ch 4)) 5 (bm_cb seed a ch 5)) (vp_updL (vp_updL (vp_updL (vp_updL (vp_updL (vp_updL g13 0 (bm_cc seed 0)) 1 (bm_cc seed 1)) 2 (bm_cc seed 2)) 3 (bm_cc seed 3)) 4 (bm_cc seed 4)) 5 (bm_cc seed 5)) (vp_updL (vp_updL (vp_updL (vp_updL (vp_updL (vp_updL g14 0 (bm_ce seed 0)) 1 (bm_ce seed 1)) 2 (bm_ce seed 2)) 3 (bm_ce seed 3)) 4 (bm_ce seed 4)) 5 (bm_ce seed 5)) (vp_updL (vp_updL (vp_updL (vp_updL (vp_updL (vp_updL g15 0 (bm_cp seed a ch 0)) 1 (bm_cp seed a ch 1)) 2 (bm_cp seed a ch 2)) 3 (bm_cp seed a ch 3)) 4 (bm_cp seed a ch 4)) 5 (bm_cp seed a ch 5)) (upd (upd (upd (upd (upd f16 0 (vp_nar .boolean 1)) 1 (vp_nar .boolean 1)) 2 (vp_nar .boolean 1)) 3 (vp_nar .boolean 1)) 4 (vp_nar .boolean 1)) g17 X ∧ bm_fr m M X := ⟨_, hM, hP.s15 _, hF.up (by decide)⟩
  refine lv_aload_n hx hb dM_candidates_148 rfl (lv_at hl 2 rfl) ?_
  refine bm_get (ci := 7) (v := .ref (m + 16)) (C := "BlindMintModel") (T := bt_M) (N := 22) hx hb hts bu_M hown hK hM hP.c0 rfl 20 (by decide) (hts _ bw_622) (fun _ h9 => h9) rfl dM_candidates_149 ?_
  refine lv_iload hx hb dM_candidates_152 (lv_at hl 1 rfl) ?_
  refine lv_iconst (v := 1) hx hb dM_candidates_154 (by decide) ?_
  refine bm_zast hx hb hK hM hS 2 hP.c16 rfl 5 (bm_ix_nI (k := 5) (by decide)) (by decide) dM_candidates_155 (fun H locs hz1 hM hS => ?_)
  have hz := hz1.trans hz
  obtain ⟨M96, hM, hP, hF⟩ : ∃ X, bm_M D base X H ∧ bm_MD ct m th tr bl np nd f1 f2 f3 f4 g5 g6 f7 g8 g9 g10 (vp_updL (vp_updL (vp_updL (vp_updL (vp_updL (vp_updL g11 0 (bm_ca seed 0)) 1 (bm_ca seed 1)) 2 (bm_ca seed 2)) 3 (bm_ca seed 3)) 4 (bm_ca seed 4)) 5 (bm_ca seed 5)) (vp_updL (vp_updL (vp_updL (vp_updL (vp_updL (vp_updL g12 0 (bm_cb seed a ch 0)) 1 (bm_cb seed a ch 1)) 2 (bm_cb seed a ch 2)) 3 (bm_cb seed a ch 3)) 4 (bm_cb seed a ch 4)) 5 (bm_cb seed a ch 5)) (vp_updL (vp_updL (vp_updL (vp_updL (vp_updL (vp_updL g13 0 (bm_cc seed 0)) 1 (bm_cc seed 1)) 2 (bm_cc seed 2)) 3 (bm_cc seed 3)) 4 (bm_cc seed 4)) 5 (bm_cc seed 5)) (vp_updL (vp_updL (vp_updL (vp_updL (vp_updL (vp_updL g14 0 (bm_ce seed 0)) 1 (bm_ce seed 1)) 2 (bm_ce seed 2)) 3 (bm_ce seed 3)) 4 (bm_ce seed 4)) 5 (bm_ce seed 5)) (vp_updL (vp_updL (vp_updL (vp_updL (vp_updL (vp_updL g15 0 (bm_cp seed a ch 0)) 1 (bm_cp seed a ch 1)) 2 (bm_cp seed a ch 2)) 3 (bm_cp seed a ch 3)) 4 (bm_cp seed a ch 4)) 5 (bm_cp seed a ch 5)) (upd (upd (upd (upd (upd (upd f16 0 (vp_nar .boolean 1)) 1 (vp_nar .boolean 1)) 2 (vp_nar .boolean 1)) 3 (vp_nar .boolean 1)) 4 (vp_nar .boolean 1)) 5 (vp_nar .boolean 1)) g17 X ∧ bm_fr m M X := ⟨_, hM, hP.s16 _, hF.up (by decide)⟩
  refine lv_iinc (v := 6) (k := 1) hx hb dM_candidates_156 hl rfl (by decide) (by decide) rfl (fun ls hl => ?_)
  have hl : lv_has ls 8 [(5, .int 6), (6, .long (bm_h2 (bm_ca seed 5) (bm_cc seed 5))), (0, .ref m), (1, .int (nI a)), (2, .long seed), (4, .int ch)] := hl
  refine lv_goto (tgt := 3) hx hb dM_candidates_159 rfl ?_
  refine lv_iload hx hb dM_candidates_3 (lv_at hl 0 rfl) ?_
  refine lv_bipush (v := 6) hx hb dM_candidates_5 (by decide) ?_
  refine lv_icmp_ge (tgt := 162) hx hb dM_candidates_7 rfl (fun _ => ?_) (fun h => absurd h (by decide))
  exact bm_vret hQ hx hb hr hlk hM hS ⟨hz, ⟨rfl, _, _, _, _, _, _, hP, bm_all6 rfl rfl rfl rfl rfl rfl, bm_all6 rfl rfl rfl rfl rfl rfl, bm_all6 rfl rfl rfl rfl rfl rfl, bm_all6 rfl rfl rfl rfl rfl rfl, bm_all6 rfl rfl rfl rfl rfl rfl, bm_all6 (show vp_nar .boolean 1 = 1 by decide) (show vp_nar .boolean 1 = 1 by decide) (show vp_nar .boolean 1 = 1 by decide) (show vp_nar .boolean 1 = 1 by decide) (show vp_nar .boolean 1 = 1 by decide) (show vp_nar .boolean 1 = 1 by decide)⟩, hF⟩ (Nat.le_refl _) (Nat.le_refl _) dM_candidates_162
set_option maxHeartbeats 4000000 in
set_option maxRecDepth 100000 in
theorem bc_M_open (l : Launch) (D : va_G) (ct : Nat → ClassId) (base : Nat) (ad : Nat → Nat) (M : bm_Map) (sz : Nat) (m : Nat) (th : Int32) (tr : Int32) (bl : Int64) (np : Int32) (nd : Int32) (f1 : Nat → Int32) (f2 : Nat → Int32) (f3 : Nat → Int32) (f4 : Nat → Int32) (g5 : Nat → Int64) (g6 : Nat → Int64) (f7 : Nat → Int32) (g8 : Nat → Int64) (g9 : Nat → Int64) (g10 : Nat → Int64) (g11 : Nat → Int64) (g12 : Nat → Int64) (g13 : Nat → Int64) (g14 : Nat → Int64) (g15 : Nat → Int64) (f16 : Nat → Int32) (g17 : Nat → Int64) (ch : Int32) (n : Nat) (hP : bm_MD ct m th tr bl np nd f1 f2 f3 f4 g5 g6 f7 g8 g9 g10 g11 g12 g13 g14 g15 f16 g17 M) (ht : bm_tt g15 = lN n) (hn : n < 2 ^ 59) : Met l yM_open (bm_ws yM_open cM_open 6 (some .int)) { frames := 1, cells := 0, slots := 0, locals := 25 } (bm_Pre D ct base ad M sz [.ref m, .int ch]) (bm_Post D base (bm_Pm m M sz (fun v M1 => v = some (.int (bm_chb ch (bm_o1 n) + bm_chb ch (bm_o2 n))) ∧ bm_MD ct m th tr bl np nd f1 f2 f3 f4 g5 g6 f7 g8 g9 g10 g11 g12 g13 g14 g15 (upd (upd f16 (bm_o1 n) 0) (bm_o2 n) 0) g17 M1))) 0 0 (bm_A base) := by
  refine bm_ofB (cc := cM_open) (maxL := 6) (ret := (some .int)) (by decide +kernel) (Nat.le_of_ble_eq_true rfl) ?_
  intro vp ve s vm args below meth vc hx hb hr hlk hts hown hml hnm ls hl hz hM hG R Q hR hQ
  have hown : s.vm.findClass "BlindMintModel" = some vm.cls := hown
  have hK := hG.K
  have hS : va_S (bm_A base) s.heap s.heap [] := va_S.rf
  have hl : lv_has ls 6 [(0, .ref m), (1, .int ch)] := hl
  have hF : bm_fr m M M := bm_fr.rf
  have ho1 : bm_o1 n < 6 := Nat.mod_lt _ (by decide)
  have ho2 : bm_o2 n < 6 := Nat.mod_lt _ (by decide)
  refine lv_ldc2 hx hb hown (hts _ bw_697) dM_open_0 ?_
  refine lv_lstore_n hx hb dM_open_3 rfl hl (by decide) rfl (fun ls hl => ?_)
  have hl : lv_has ls 6 [(2, .long 7), (0, .ref m), (1, .int ch)] := hl
  refine lv_iconst (v := 0) hx hb dM_open_4 (by decide) ?_
  refine lv_istore hx hb dM_open_5 hl (by decide) rfl (fun ls hl => ?_)
  have hl : lv_has ls 6 [(4, .int 0), (2, .long 7), (0, .ref m), (1, .int ch)] := hl
  refine lv_iload hx hb dM_open_7 (lv_at hl 0 rfl) ?_
  refine lv_bipush (v := 6) hx hb dM_open_9 (by decide) ?_
  refine lv_icmp_ge (tgt := 32) hx hb dM_open_11 rfl (fun h => absurd h (by decide)) (fun _ => ?_)
  refine lv_lload_n hx hb dM_open_14 rfl (lv_at hl 1 rfl) ?_
  refine lv_aload_n hx hb dM_open_15 rfl (lv_at hl 2 rfl) ?_
  refine bm_get (ci := 7) (v := .ref (m + 15)) (C := "BlindMintModel") (T := bt_M) (N := 22) hx hb hts bu_M hown hK hM hP.c0 rfl 19 (by decide) (hts _ bw_621) (fun _ h9 => h9) rfl dM_open_16 ?_
  refine lv_iload hx hb dM_open_19 (lv_at hl 0 rfl) ?_
  refine bm_lald hx hb hK hM 1 hP.c15 rfl 0 (bm_ix_nI (k := 0) (by decide)) (by decide) dM_open_21 ?_
  refine bm_callE (va_runS (As := [.long 7, .long (g15 0)]) (rest := []) ⟨hx, hb, hml, hown, hts⟩ (bc_M_absorb l D ct base ad M sz 7 (g15 0)) (va_cwS 2 hts (bm_goodS bw_698 bw_699 bw_5 bw_700) rfl rfl rfl (by decide +kernel) (by rw [← hR]; exact ⟨Nat.le_of_ble_eq_true rfl, Nat.le_of_ble_eq_true rfl⟩)) (bm_preS hM hG hS hz) rfl rfl hl.1 rfl (lv_room (Nat.le_of_ble_eq_true rfl)) dM_open_22 (by rw [← hR]; exact ⟨Nat.le_of_ble_eq_true rfl, Nat.le_of_ble_eq_true rfl⟩)) hS (fun H locs hz hM hS => ?_)
  refine lv_lstore_n hx hb dM_open_25 rfl hl (by decide) rfl (fun ls hl => ?_)
  have hl : lv_has ls 6 [(2, .long (bm_step 7 (g15 0))), (4, .int 0), (0, .ref m), (1, .int ch)] := hl
  refine lv_iinc (v := 1) (k := 1) hx hb dM_open_26 hl rfl (by decide) (by decide) rfl (fun ls hl => ?_)
  have hl : lv_has ls 6 [(4, .int 1), (2, .long (bm_step 7 (g15 0))), (0, .ref m), (1, .int ch)] := hl
  refine lv_goto (tgt := 7) hx hb dM_open_29 rfl ?_
  refine lv_iload hx hb dM_open_7 (lv_at hl 0 rfl) ?_
  refine lv_bipush (v := 6) hx hb dM_open_9 (by decide) ?_
  refine lv_icmp_ge (tgt := 32) hx hb dM_open_11 rfl (fun h => absurd h (by decide)) (fun _ => ?_)
  refine lv_lload_n hx hb dM_open_14 rfl (lv_at hl 1 rfl) ?_
  refine lv_aload_n hx hb dM_open_15 rfl (lv_at hl 2 rfl) ?_
  refine bm_get (ci := 7) (v := .ref (m + 15)) (C := "BlindMintModel") (T := bt_M) (N := 22) hx hb hts bu_M hown hK hM hP.c0 rfl 19 (by decide) (hts _ bw_621) (fun _ h9 => h9) rfl dM_open_16 ?_
  refine lv_iload hx hb dM_open_19 (lv_at hl 0 rfl) ?_
  refine bm_lald hx hb hK hM 1 hP.c15 rfl 1 (bm_ix_nI (k := 1) (by decide)) (by decide) dM_open_21 ?_
  refine bm_callE (va_runS (As := [.long (bm_step 7 (g15 0)), .long (g15 1)]) (rest := []) ⟨hx, hb, hml, hown, hts⟩ (bc_M_absorb l D ct base ad M sz (bm_step 7 (g15 0)) (g15 1)) (va_cwS 2 hts (bm_goodS bw_698 bw_699 bw_5 bw_700) rfl rfl rfl (by decide +kernel) (by rw [← hR]; exact ⟨Nat.le_of_ble_eq_true rfl, Nat.le_of_ble_eq_true rfl⟩)) (bm_preS hM hG hS hz) rfl rfl hl.1 rfl (lv_room (Nat.le_of_ble_eq_true rfl)) dM_open_22 (by rw [← hR]; exact ⟨Nat.le_of_ble_eq_true rfl, Nat.le_of_ble_eq_true rfl⟩)) hS (fun H locs hz hM hS => ?_)
  refine lv_lstore_n hx hb dM_open_25 rfl hl (by decide) rfl (fun ls hl => ?_)
  have hl : lv_has ls 6 [(2, .long (bm_step (bm_step 7 (g15 0)) (g15 1))), (4, .int 1), (0, .ref m), (1, .int ch)] := hl
  refine lv_iinc (v := 2) (k := 1) hx hb dM_open_26 hl rfl (by decide) (by decide) rfl (fun ls hl => ?_)
  have hl : lv_has ls 6 [(4, .int 2), (2, .long (bm_step (bm_step 7 (g15 0)) (g15 1))), (0, .ref m), (1, .int ch)] := hl
  refine lv_goto (tgt := 7) hx hb dM_open_29 rfl ?_
  refine lv_iload hx hb dM_open_7 (lv_at hl 0 rfl) ?_
  refine lv_bipush (v := 6) hx hb dM_open_9 (by decide) ?_
  refine lv_icmp_ge (tgt := 32) hx hb dM_open_11 rfl (fun h => absurd h (by decide)) (fun _ => ?_)
  refine lv_lload_n hx hb dM_open_14 rfl (lv_at hl 1 rfl) ?_
  refine lv_aload_n hx hb dM_open_15 rfl (lv_at hl 2 rfl) ?_
  refine bm_get (ci := 7) (v := .ref (m + 15)) (C := "BlindMintModel") (T := bt_M) (N := 22) hx hb hts bu_M hown hK hM hP.c0 rfl 19 (by decide) (hts _ bw_621) (fun _ h9 => h9) rfl dM_open_16 ?_
  refine lv_iload hx hb dM_open_19 (lv_at hl 0 rfl) ?_
  refine bm_lald hx hb hK hM 1 hP.c15 rfl 2 (bm_ix_nI (k := 2) (by decide)) (by decide) dM_open_21 ?_
  refine bm_callE (va_runS (As := [.long (bm_step (bm_step 7 (g15 0)) (g15 1)), .long (g15 2)]) (rest := []) ⟨hx, hb, hml, hown, hts⟩ (bc_M_absorb l D ct base ad M sz (bm_step (bm_step 7 (g15 0)) (g15 1)) (g15 2)) (va_cwS 2 hts (bm_goodS bw_698 bw_699 bw_5 bw_700) rfl rfl rfl (by decide +kernel) (by rw [← hR]; exact ⟨Nat.le_of_ble_eq_true rfl, Nat.le_of_ble_eq_true rfl⟩)) (bm_preS hM hG hS hz) rfl rfl hl.1 rfl (lv_room (Nat.le_of_ble_eq_true rfl)) dM_open_22 (by rw [← hR]; exact ⟨Nat.le_of_ble_eq_true rfl, Nat.le_of_ble_eq_true rfl⟩)) hS (fun H locs hz hM hS => ?_)
  refine lv_lstore_n hx hb dM_open_25 rfl hl (by decide) rfl (fun ls hl => ?_)
  have hl : lv_has ls 6 [(2, .long (bm_step (bm_step (bm_step 7 (g15 0)) (g15 1)) (g15 2))), (4, .int 2), (0, .ref m), (1, .int ch)] := hl
  refine lv_iinc (v := 3) (k := 1) hx hb dM_open_26 hl rfl (by decide) (by decide) rfl (fun ls hl => ?_)
  have hl : lv_has ls 6 [(4, .int 3), (2, .long (bm_step (bm_step (bm_step 7 (g15 0)) (g15 1)) (g15 2))), (0, .ref m), (1, .int ch)] := hl
  refine lv_goto (tgt := 7) hx hb dM_open_29 rfl ?_
  refine lv_iload hx hb dM_open_7 (lv_at hl 0 rfl) ?_
  refine lv_bipush (v := 6) hx hb dM_open_9 (by decide) ?_
  refine lv_icmp_ge (tgt := 32) hx hb dM_open_11 rfl (fun h => absurd h (by decide)) (fun _ => ?_)
  refine lv_lload_n hx hb dM_open_14 rfl (lv_at hl 1 rfl) ?_
  refine lv_aload_n hx hb dM_open_15 rfl (lv_at hl 2 rfl) ?_
  refine bm_get (ci := 7) (v := .ref (m + 15)) (C := "BlindMintModel") (T := bt_M) (N := 22) hx hb hts bu_M hown hK hM hP.c0 rfl 19 (by decide) (hts _ bw_621) (fun _ h9 => h9) rfl dM_open_16 ?_
  refine lv_iload hx hb dM_open_19 (lv_at hl 0 rfl) ?_
  refine bm_lald hx hb hK hM 1 hP.c15 rfl 3 (bm_ix_nI (k := 3) (by decide)) (by decide) dM_open_21 ?_
  refine bm_callE (va_runS (As := [.long (bm_step (bm_step (bm_step 7 (g15 0)) (g15 1)) (g15 2)), .long (g15 3)]) (rest := []) ⟨hx, hb, hml, hown, hts⟩ (bc_M_absorb l D ct base ad M sz (bm_step (bm_step (bm_step 7 (g15 0)) (g15 1)) (g15 2)) (g15 3)) (va_cwS 2 hts (bm_goodS bw_698 bw_699 bw_5 bw_700) rfl rfl rfl (by decide +kernel) (by rw [← hR]; exact ⟨Nat.le_of_ble_eq_true rfl, Nat.le_of_ble_eq_true rfl⟩)) (bm_preS hM hG hS hz) rfl rfl hl.1 rfl (lv_room (Nat.le_of_ble_eq_true rfl)) dM_open_22 (by rw [← hR]; exact ⟨Nat.le_of_ble_eq_true rfl, Nat.le_of_ble_eq_true rfl⟩)) hS (fun H locs hz hM hS => ?_)
  refine lv_lstore_n hx hb dM_open_25 rfl hl (by decide) rfl (fun ls hl => ?_)
  have hl : lv_has ls 6 [(2, .long (bm_step (bm_step (bm_step (bm_step 7 (g15 0)) (g15 1)) (g15 2)) (g15 3))), (4, .int 3), (0, .ref m), (1, .int ch)] := hl
  refine lv_iinc (v := 4) (k := 1) hx hb dM_open_26 hl rfl (by decide) (by decide) rfl (fun ls hl => ?_)
  have hl : lv_has ls 6 [(4, .int 4), (2, .long (bm_step (bm_step (bm_step (bm_step 7 (g15 0)) (g15 1)) (g15 2)) (g15 3))), (0, .ref m), (1, .int ch)] := hl
  refine lv_goto (tgt := 7) hx hb dM_open_29 rfl ?_
  refine lv_iload hx hb dM_open_7 (lv_at hl 0 rfl) ?_
  refine lv_bipush (v := 6) hx hb dM_open_9 (by decide) ?_
  refine lv_icmp_ge (tgt := 32) hx hb dM_open_11 rfl (fun h => absurd h (by decide)) (fun _ => ?_)
  refine lv_lload_n hx hb dM_open_14 rfl (lv_at hl 1 rfl) ?_
  refine lv_aload_n hx hb dM_open_15 rfl (lv_at hl 2 rfl) ?_
  refine bm_get (ci := 7) (v := .ref (m + 15)) (C := "BlindMintModel") (T := bt_M) (N := 22) hx hb hts bu_M hown hK hM hP.c0 rfl 19 (by decide) (hts _ bw_621) (fun _ h9 => h9) rfl dM_open_16 ?_
  refine lv_iload hx hb dM_open_19 (lv_at hl 0 rfl) ?_
  refine bm_lald hx hb hK hM 1 hP.c15 rfl 4 (bm_ix_nI (k := 4) (by decide)) (by decide) dM_open_21 ?_
  refine bm_callE (va_runS (As := [.long (bm_step (bm_step (bm_step (bm_step 7 (g15 0)) (g15 1)) (g15 2)) (g15 3)), .long (g15 4)]) (rest := []) ⟨hx, hb, hml, hown, hts⟩ (bc_M_absorb l D ct base ad M sz (bm_step (bm_step (bm_step (bm_step 7 (g15 0)) (g15 1)) (g15 2)) (g15 3)) (g15 4)) (va_cwS 2 hts (bm_goodS bw_698 bw_699 bw_5 bw_700) rfl rfl rfl (by decide +kernel) (by rw [← hR]; exact ⟨Nat.le_of_ble_eq_true rfl, Nat.le_of_ble_eq_true rfl⟩)) (bm_preS hM hG hS hz) rfl rfl hl.1 rfl (lv_room (Nat.le_of_ble_eq_true rfl)) dM_open_22 (by rw [← hR]; exact ⟨Nat.le_of_ble_eq_true rfl, Nat.le_of_ble_eq_true rfl⟩)) hS (fun H locs hz hM hS => ?_)
  refine lv_lstore_n hx hb dM_open_25 rfl hl (by decide) rfl (fun ls hl => ?_)
  have hl : lv_has ls 6 [(2, .long (bm_step (bm_step (bm_step (bm_step (bm_step 7 (g15 0)) (g15 1)) (g15 2)) (g15 3)) (g15 4))), (4, .int 4), (0, .ref m), (1, .int ch)] := hl
  refine lv_iinc (v := 5) (k := 1) hx hb dM_open_26 hl rfl (by decide) (by decide) rfl (fun ls hl => ?_)
  have hl : lv_has ls 6 [(4, .int 5), (2, .long (bm_step (bm_step (bm_step (bm_step (bm_step 7 (g15 0)) (g15 1)) (g15 2)) (g15 3)) (g15 4))), (0, .ref m), (1, .int ch)] := hl
  refine lv_goto (tgt := 7) hx hb dM_open_29 rfl ?_
  refine lv_iload hx hb dM_open_7 (lv_at hl 0 rfl) ?_
  refine lv_bipush (v := 6) hx hb dM_open_9 (by decide) ?_
  refine lv_icmp_ge (tgt := 32) hx hb dM_open_11 rfl (fun h => absurd h (by decide)) (fun _ => ?_)
  refine lv_lload_n hx hb dM_open_14 rfl (lv_at hl 1 rfl) ?_
  refine lv_aload_n hx hb dM_open_15 rfl (lv_at hl 2 rfl) ?_
  refine bm_get (ci := 7) (v := .ref (m + 15)) (C := "BlindMintModel") (T := bt_M) (N := 22) hx hb hts bu_M hown hK hM hP.c0 rfl 19 (by decide) (hts _ bw_621) (fun _ h9 => h9) rfl dM_open_16 ?_
  refine lv_iload hx hb dM_open_19 (lv_at hl 0 rfl) ?_
  refine bm_lald hx hb hK hM 1 hP.c15 rfl 5 (bm_ix_nI (k := 5) (by decide)) (by decide) dM_open_21 ?_
  refine bm_callE (va_runS (As := [.long (bm_step (bm_step (bm_step (bm_step (bm_step 7 (g15 0)) (g15 1)) (g15 2)) (g15 3)) (g15 4)), .long (g15 5)]) (rest := []) ⟨hx, hb, hml, hown, hts⟩ (bc_M_absorb l D ct base ad M sz (bm_step (bm_step (bm_step (bm_step (bm_step 7 (g15 0)) (g15 1)) (g15 2)) (g15 3)) (g15 4)) (g15 5)) (va_cwS 2 hts (bm_goodS bw_698 bw_699 bw_5 bw_700) rfl rfl rfl (by decide +kernel) (by rw [← hR]; exact ⟨Nat.le_of_ble_eq_true rfl, Nat.le_of_ble_eq_true rfl⟩)) (bm_preS hM hG hS hz) rfl rfl hl.1 rfl (lv_room (Nat.le_of_ble_eq_true rfl)) dM_open_22 (by rw [← hR]; exact ⟨Nat.le_of_ble_eq_true rfl, Nat.le_of_ble_eq_true rfl⟩)) hS (fun H locs hz hM hS => ?_)
  refine lv_lstore_n hx hb dM_open_25 rfl hl (by decide) rfl (fun ls hl => ?_)
  have hl : lv_has ls 6 [(2, .long (bm_step (bm_step (bm_step (bm_step (bm_step (bm_step 7 (g15 0)) (g15 1)) (g15 2)) (g15 3)) (g15 4)) (g15 5))), (4, .int 5), (0, .ref m), (1, .int ch)] := hl
  refine lv_iinc (v := 6) (k := 1) hx hb dM_open_26 hl rfl (by decide) (by decide) rfl (fun ls hl => ?_)
  have hl : lv_has ls 6 [(4, .int 6), (2, .long (bm_step (bm_step (bm_step (bm_step (bm_step (bm_step 7 (g15 0)) (g15 1)) (g15 2)) (g15 3)) (g15 4)) (g15 5))), (0, .ref m), (1, .int ch)] := hl
  refine lv_goto (tgt := 7) hx hb dM_open_29 rfl ?_
  refine lv_iload hx hb dM_open_7 (lv_at hl 0 rfl) ?_
  refine lv_bipush (v := 6) hx hb dM_open_9 (by decide) ?_
  refine lv_icmp_ge (tgt := 32) hx hb dM_open_11 rfl (fun _ => ?_) (fun h => absurd h (by decide))
  refine lv_lload_n hx hb dM_open_32 rfl (lv_at hl 1 rfl) ?_
  refine bm_callE (va_runS (As := [.long (bm_step (bm_step (bm_step (bm_step (bm_step (bm_step 7 (g15 0)) (g15 1)) (g15 2)) (g15 3)) (g15 4)) (g15 5))]) (rest := []) ⟨hx, hb, hml, hown, hts⟩ (bc_M_low l D ct base ad M sz (bm_step (bm_step (bm_step (bm_step (bm_step (bm_step 7 (g15 0)) (g15 1)) (g15 2)) (g15 3)) (g15 4)) (g15 5))) (va_cwS 1 hts (bm_goodS bw_703 bw_704 bw_5 bw_705) rfl rfl rfl (by decide +kernel) (by rw [← hR]; exact ⟨Nat.le_of_ble_eq_true rfl, Nat.le_of_ble_eq_true rfl⟩)) (bm_preS hM hG hS hz) rfl rfl hl.1 rfl (lv_room (Nat.le_of_ble_eq_true rfl)) dM_open_33 (by rw [← hR]; exact ⟨Nat.le_of_ble_eq_true rfl, Nat.le_of_ble_eq_true rfl⟩)) hS (fun H locs hz hM hS => ?_)
  refine lv_topl (fun t1 e_t1 => ?_)
  have e_t1 : t1 = lN n := by rw [e_t1]; exact ht
  subst e_t1
  refine lv_lstore_n hx hb dM_open_36 rfl hl (by decide) rfl (fun ls hl => ?_)
  have hl : lv_has ls 6 [(2, .long (lN n)), (4, .int 6), (0, .ref m), (1, .int ch)] := hl
  refine lv_lload_n hx hb dM_open_37 rfl (lv_at hl 0 rfl) ?_
  refine lv_ldc2 hx hb hown (hts _ bw_713) dM_open_38 ?_
  refine lv_lrem hx hb dM_open_41 (by decide) ?_
  refine lv_topl (fun t2 e_t2 => ?_)
  have e_t2 : t2 = lN (bm_o1 n) := by rw [e_t2]; exact pk_lRem (b := 6) (by omega) (by decide) (by decide)
  subst e_t2
  refine lv_l2i (v := nI (bm_o1 n)) hx hb dM_open_42 (lN_i _) ?_
  refine lv_istore hx hb dM_open_43 hl (by decide) rfl (fun ls hl => ?_)
  have hl : lv_has ls 6 [(4, .int (nI (bm_o1 n))), (2, .long (lN n)), (0, .ref m), (1, .int ch)] := hl
  refine lv_iload hx hb dM_open_45 (lv_at hl 0 rfl) ?_
  refine lv_i2l (v := lN (bm_o1 n)) hx hb dM_open_47 (nI_l (by omega)) ?_
  refine lv_lconst (v := 1) hx hb dM_open_48 (by decide) ?_
  refine lv_ladd hx hb dM_open_49 ?_
  refine lv_lload_n hx hb dM_open_50 rfl (lv_at hl 1 rfl) ?_
  refine lv_ldc2 hx hb hown (hts _ bw_713) dM_open_51 ?_
  refine lv_ldiv hx hb dM_open_54 (by decide) ?_
  refine lv_topl (fun t3 e_t3 => ?_)
  have e_t3 : t3 = lN (n / 6) := by rw [e_t3]; exact pk_lDiv (b := 6) (by omega) (by decide) (by decide)
  subst e_t3
  refine lv_ldc2 hx hb hown (hts _ bw_714) dM_open_55 ?_
  refine lv_lrem hx hb dM_open_58 (by decide) ?_
  refine lv_topl (fun t4 e_t4 => ?_)
  have e_t4 : t4 = lN (n / 6 % 5) := by rw [e_t4]; exact pk_lRem (b := 5) (by omega) (by decide) (by decide)
  subst e_t4
  refine lv_ladd hx hb dM_open_59 ?_
  refine lv_topl (fun t5 e_t5 => ?_)
  have e_t5 : t5 = lN (n % 6 + 1 + n / 6 % 5) := by rw [e_t5]; rw [lN_1, lN_add]; rfl
  subst e_t5
  refine lv_ldc2 hx hb hown (hts _ bw_713) dM_open_60 ?_
  refine lv_lrem hx hb dM_open_63 (by decide) ?_
  refine lv_topl (fun t6 e_t6 => ?_)
  have e_t6 : t6 = lN (bm_o2 n) := by rw [e_t6]; exact pk_lRem (b := 6) (by omega) (by decide) (by decide)
  subst e_t6
  refine lv_l2i (v := nI (bm_o2 n)) hx hb dM_open_64 (lN_i _) ?_
  refine lv_istore hx hb dM_open_65 hl (by decide) rfl (fun ls hl => ?_)
  have hl : lv_has ls 6 [(5, .int (nI (bm_o2 n))), (4, .int (nI (bm_o1 n))), (2, .long (lN n)), (0, .ref m), (1, .int ch)] := hl
  refine lv_aload_n hx hb dM_open_67 rfl (lv_at hl 3 rfl) ?_
  refine bm_get (ci := 7) (v := .ref (m + 16)) (C := "BlindMintModel") (T := bt_M) (N := 22) hx hb hts bu_M hown hK hM hP.c0 rfl 20 (by decide) (hts _ bw_622) (fun _ h9 => h9) rfl dM_open_68 ?_
  refine lv_iload hx hb dM_open_71 (lv_at hl 1 rfl) ?_
  refine lv_iconst (v := 0) hx hb dM_open_73 (by decide) ?_
  refine bm_zast hx hb hK hM hS 2 hP.c16 rfl (bm_o1 n) (bm_ix_nI (by omega)) (by omega) dM_open_74 (fun H locs hz1 hM hS => ?_)
  have hz := hz1.trans hz
  obtain ⟨M7, hM, hP, hF⟩ : ∃ X, bm_M D base X H ∧ bm_MD ct m th tr bl np nd f1 f2 f3 f4 g5 g6 f7 g8 g9 g10 g11 g12 g13 g14 g15 (upd f16 (bm_o1 n) (vp_nar .boolean 0)) g17 X ∧ bm_fr m M X := ⟨_, hM, hP.s16 _, hF.up (by decide)⟩
  refine lv_aload_n hx hb dM_open_75 rfl (lv_at hl 3 rfl) ?_
  refine bm_get (ci := 7) (v := .ref (m + 16)) (C := "BlindMintModel") (T := bt_M) (N := 22) hx hb hts bu_M hown hK hM hP.c0 rfl 20 (by decide) (hts _ bw_622) (fun _ h9 => h9) rfl dM_open_76 ?_
  refine lv_iload hx hb dM_open_79 (lv_at hl 0 rfl) ?_
  refine lv_iconst (v := 0) hx hb dM_open_81 (by decide) ?_
  refine bm_zast hx hb hK hM hS 2 hP.c16 rfl (bm_o2 n) (bm_ix_nI (by omega)) (by omega) dM_open_82 (fun H locs hz1 hM hS => ?_)
  have hz := hz1.trans hz
  obtain ⟨M8, hM, hP, hF⟩ : ∃ X, bm_M D base X H ∧ bm_MD ct m th tr bl np nd f1 f2 f3 f4 g5 g6 f7 g8 g9 g10 g11 g12 g13 g14 g15 (upd (upd f16 (bm_o1 n) (vp_nar .boolean 0)) (bm_o2 n) (vp_nar .boolean 0)) g17 X ∧ bm_fr m M X := ⟨_, hM, hP.s16 _, hF.up (by decide)⟩
  refine lv_iload_n hx hb dM_open_83 rfl (lv_at hl 4 rfl) ?_
  refine lv_iload hx hb dM_open_84 (lv_at hl 1 rfl) ?_
  refine lv_ishr hx hb dM_open_86 ?_
  refine lv_iconst (v := 1) hx hb dM_open_87 (by decide) ?_
  refine lv_iand hx hb dM_open_88 ?_
  refine lv_iload_n hx hb dM_open_89 rfl (lv_at hl 4 rfl) ?_
  refine lv_iload hx hb dM_open_90 (lv_at hl 0 rfl) ?_
  refine lv_ishr hx hb dM_open_92 ?_
  refine lv_iconst (v := 1) hx hb dM_open_93 (by decide) ?_
  refine lv_iand hx hb dM_open_94 ?_
  refine lv_iadd hx hb dM_open_95 ?_
  exact bm_iret hQ hx hb hr hlk hM hS ⟨hz, ⟨rfl, hP⟩, hF⟩ (Nat.le_refl _) (Nat.le_refl _) dM_open_96
set_option maxHeartbeats 4000000 in
set_option maxRecDepth 100000 in
theorem bc_M_least (l : Launch) (D : va_G) (ct : Nat → ClassId) (base : Nat) (ad : Nat → Nat) (M : bm_Map) (sz : Nat) (m : Nat) (th : Int32) (tr : Int32) (bl : Int64) (np : Int32) (nd : Int32) (f1 : Nat → Int32) (f2 : Nat → Int32) (f3 : Nat → Int32) (f4 : Nat → Int32) (g5 : Nat → Int64) (g6 : Nat → Int64) (f7 : Nat → Int32) (g8 : Nat → Int64) (g9 : Nat → Int64) (g10 : Nat → Int64) (g11 : Nat → Int64) (g12 : Nat → Int64) (g13 : Nat → Int64) (g14 : Nat → Int64) (g15 : Nat → Int64) (f16 : Nat → Int32) (g17 : Nat → Int64)  (hP : bm_MD ct m th tr bl np nd f1 f2 f3 f4 g5 g6 f7 g8 g9 g10 g11 g12 g13 g14 g15 f16 g17 M) : Met l yM_least (bm_ws yM_least cM_least 3 (some .int)) { frames := 0, cells := 0, slots := 0, locals := 0 } (bm_Pre D ct base ad M sz [.ref m]) (bm_Post D base (bm_Pm m M sz (fun v M1 => v = some (.int (bm_lst f16 g15 6)) ∧ bm_MD ct m th tr bl np nd f1 f2 f3 f4 g5 g6 f7 g8 g9 g10 g11 g12 g13 g14 g15 f16 g17 M1))) 0 0 (bm_A base) := by
  refine bm_ofB (cc := cM_least) (maxL := 3) (ret := (some .int)) (by decide +kernel) (Nat.le_of_ble_eq_true rfl) ?_
  intro vp ve s vm args below meth vc hx hb hr hlk hts hown hml hnm ls hl hz hM hG R Q hR hQ
  have hown : s.vm.findClass "BlindMintModel" = some vm.cls := hown
  have hK := hG.K
  have hS : va_S (bm_A base) s.heap s.heap [] := va_S.rf
  have hl : lv_has ls 3 [(0, .ref m)] := hl
  have hF : bm_fr m M M := bm_fr.rf
  refine lv_iconst (v := (-1)) hx hb dM_least_0 (by decide) ?_
  refine lv_istore_n hx hb dM_least_1 rfl hl (by decide) rfl (fun ls hl => ?_)
  have hl : lv_has ls 3 [(1, .int (-1)), (0, .ref m)] := hl
  refine lv_iconst (v := 0) hx hb dM_least_2 (by decide) ?_
  refine lv_istore_n hx hb dM_least_3 rfl hl (by decide) rfl (fun ls hl => ?_)
  have hl : lv_has ls 3 [(2, .int 0), (1, .int (-1)), (0, .ref m)] := hl
  have hl : lv_has ls 3 [(0, .ref m), (1, .int (-1)), (2, .int 0)] := lv_sub hl [2, 1, 0] rfl
  have loop : ∀ (n : Nat) (i : Nat) (ls : Array Slot) (H : Heap) (locs : List Loc), i + n = 6 → lv_has ls 3 [(0, .ref m), (1, .int (bm_lst f16 g15 i)), (2, .int (nI i))] → H.size = sz → bm_M D base M H → va_S (bm_A base) s.heap H locs → W vp l ve R s vm args below meth vc H locs 0 0 Q (F0 vm 4 ls []) := by
    intro n
    induction n with
    | zero =>
      intro i ls H locs hi hl hz hM hS
      obtain rfl : i = 6 := by omega
      have hl : lv_has ls 3 [(0, .ref m), (1, .int (bm_lst f16 g15 6)), (2, .int 6)] := hl
      refine lv_iload_n hx hb dM_least_4 rfl (lv_at hl 2 rfl) ?_
      refine lv_bipush (v := 6) hx hb dM_least_5 (by decide) ?_
      refine lv_icmp_ge (tgt := 47) hx hb dM_least_7 rfl (fun _ => ?_) (fun h => absurd h (by decide))
      refine lv_iload_n hx hb dM_least_47 rfl (lv_at hl 1 rfl) ?_
      exact bm_iret hQ hx hb hr hlk hM hS ⟨hz, ⟨rfl, hP⟩, hF⟩ (Nat.le_refl _) (Nat.le_refl _) dM_least_48
    | succ n ih =>
      intro i ls H locs hi hl hz hM hS
      refine lv_iload_n hx hb dM_least_4 rfl (lv_at hl 2 rfl) ?_
      refine lv_bipush (v := 6) hx hb dM_least_5 (by decide) ?_
      refine lv_icmp_ge (tgt := 47) hx hb dM_least_7 rfl (fun h7 => absurd h7 (nI_ge (b := 6) (by omega) (by decide))) (fun h7 => ?_)
      refine lv_aload_n hx hb dM_least_10 rfl (lv_at hl 0 rfl) ?_
      refine bm_get (ci := 7) (v := .ref (m + 16)) (C := "BlindMintModel") (T := bt_M) (N := 22) hx hb hts bu_M hown hK hM hP.c0 rfl 20 (by decide) (hts _ bw_622) (fun _ h9 => h9) rfl dM_least_11 ?_
      refine lv_iload_n hx hb dM_least_14 rfl (lv_at hl 2 rfl) ?_
      refine bm_zald hx hb hK hM 2 hP.c16 rfl i (bm_ix_nI (by omega)) (by omega) dM_least_15 ?_
      refine lv_if_eq (tgt := 41) hx hb dM_least_16 rfl (fun h16 => ?_) (fun h16 => ?_)
      · have hl : lv_has ls 3 [(0, .ref m), (1, .int (bm_lst f16 g15 (i + 1))), (2, .int (nI i))] := by rw [bm_lst_n h16]; exact hl
        refine lv_iinc (v := nI (i + 1)) (k := 2) hx hb dM_least_41 hl rfl (bm_inc i) (by decide) rfl (fun ls hl => ?_)
        have hl : lv_has ls 3 [(2, .int (nI (i + 1))), (0, .ref m), (1, .int (bm_lst f16 g15 (i + 1)))] := hl
        refine lv_goto (tgt := 4) hx hb dM_least_44 rfl ?_
        have hl : lv_has ls 3 [(0, .ref m), (1, .int (bm_lst f16 g15 (i + 1))), (2, .int (nI (i + 1)))] := lv_sub hl [1, 2, 0] rfl
        exact ih (i + 1) ls _ _ (by omega) hl hz hM hS
      · refine lv_iload_n hx hb dM_least_19 rfl (lv_at hl 1 rfl) ?_
        refine lv_if_lt (tgt := 39) hx hb dM_least_20 rfl (fun h20 => ?_) (fun h20 => ?_)
        · refine lv_iload_n hx hb dM_least_39 rfl (lv_at hl 2 rfl) ?_
          refine lv_istore_n hx hb dM_least_40 rfl hl (by decide) rfl (fun ls hl => ?_)
          have hl : lv_has ls 3 [(1, .int (nI i)), (0, .ref m), (2, .int (nI i))] := hl
          have hl : lv_has ls 3 [(1, .int (bm_lst f16 g15 (i + 1))), (0, .ref m), (2, .int (nI i))] := by rw [bm_lst_lt h16 h20]; exact hl
          refine lv_iinc (v := nI (i + 1)) (k := 2) hx hb dM_least_41 hl rfl (bm_inc i) (by decide) rfl (fun ls hl => ?_)
          have hl : lv_has ls 3 [(2, .int (nI (i + 1))), (1, .int (bm_lst f16 g15 (i + 1))), (0, .ref m)] := hl
          refine lv_goto (tgt := 4) hx hb dM_least_44 rfl ?_
          have hl : lv_has ls 3 [(0, .ref m), (1, .int (bm_lst f16 g15 (i + 1))), (2, .int (nI (i + 1)))] := lv_sub hl [2, 1, 0] rfl
          exact ih (i + 1) ls _ _ (by omega) hl hz hM hS
        · obtain ⟨b, hb1, hb2⟩ := bm_lst_ix (by omega) h20
          refine lv_aload_n hx hb dM_least_23 rfl (lv_at hl 0 rfl) ?_
          refine bm_get (ci := 7) (v := .ref (m + 15)) (C := "BlindMintModel") (T := bt_M) (N := 22) hx hb hts bu_M hown hK hM hP.c0 rfl 19 (by decide) (hts _ bw_621) (fun _ h9 => h9) rfl dM_least_24 ?_
          refine lv_iload_n hx hb dM_least_27 rfl (lv_at hl 2 rfl) ?_
          refine bm_lald hx hb hK hM 1 hP.c15 rfl i (bm_ix_nI (by omega)) (by omega) dM_least_28 ?_
          refine lv_aload_n hx hb dM_least_29 rfl (lv_at hl 0 rfl) ?_
          refine bm_get (ci := 7) (v := .ref (m + 15)) (C := "BlindMintModel") (T := bt_M) (N := 22) hx hb hts bu_M hown hK hM hP.c0 rfl 19 (by decide) (hts _ bw_621) (fun _ h9 => h9) rfl dM_least_30 ?_
          refine lv_iload_n hx hb dM_least_33 rfl (lv_at hl 1 rfl) ?_
          refine bm_lald hx hb hK hM 1 hP.c15 rfl b (by rw [hb2]; exact bm_ix_nI (by omega)) (by omega) dM_least_34 ?_
          refine W.lcmp hx hb dM_least_35 ?_
          refine lv_if_ge (tgt := 41) hx hb dM_least_36 rfl (fun h36 => ?_) (fun h36 => ?_)
          · have hl : lv_has ls 3 [(0, .ref m), (1, .int (bm_lst f16 g15 (i + 1))), (2, .int (nI i))] := by rw [bm_lst_no (by omega) hb2 (Int64.not_lt.mpr ((lg_cmp_ge _ _).mp h36))]; exact hl
            refine lv_iinc (v := nI (i + 1)) (k := 2) hx hb dM_least_41 hl rfl (bm_inc i) (by decide) rfl (fun ls hl => ?_)
            have hl : lv_has ls 3 [(2, .int (nI (i + 1))), (0, .ref m), (1, .int (bm_lst f16 g15 (i + 1)))] := hl
            refine lv_goto (tgt := 4) hx hb dM_least_44 rfl ?_
            have hl : lv_has ls 3 [(0, .ref m), (1, .int (bm_lst f16 g15 (i + 1))), (2, .int (nI (i + 1)))] := lv_sub hl [1, 2, 0] rfl
            exact ih (i + 1) ls _ _ (by omega) hl hz hM hS
          · refine lv_iload_n hx hb dM_least_39 rfl (lv_at hl 2 rfl) ?_
            refine lv_istore_n hx hb dM_least_40 rfl hl (by decide) rfl (fun ls hl => ?_)
            have hl : lv_has ls 3 [(1, .int (nI i)), (0, .ref m), (2, .int (nI i))] := hl
            have hl : lv_has ls 3 [(1, .int (bm_lst f16 g15 (i + 1))), (0, .ref m), (2, .int (nI i))] := by rw [bm_lst_y h16 (by omega) hb2 (Int64.not_le.mp (fun z => h36 ((lg_cmp_ge _ _).mpr z)))]; exact hl
            refine lv_iinc (v := nI (i + 1)) (k := 2) hx hb dM_least_41 hl rfl (bm_inc i) (by decide) rfl (fun ls hl => ?_)
            have hl : lv_has ls 3 [(2, .int (nI (i + 1))), (1, .int (bm_lst f16 g15 (i + 1))), (0, .ref m)] := hl
            refine lv_goto (tgt := 4) hx hb dM_least_44 rfl ?_
            have hl : lv_has ls 3 [(0, .ref m), (1, .int (bm_lst f16 g15 (i + 1))), (2, .int (nI (i + 1)))] := lv_sub hl [2, 1, 0] rfl
            exact ih (i + 1) ls _ _ (by omega) hl hz hM hS
  exact loop 6 0 ls _ _ rfl hl hz hM hS
