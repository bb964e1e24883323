/-! what the start tells -/
theorem bm_arrC {s : State} {args : Array Value} {ty : FieldType} (h : (Cond.arrayClass ty).before args s = true) (hty : ∀ C, ty ≠ .object C) : ∃ c, ArrOfT s c ty ∧ va_RA s c ty := by
  obtain ⟨c, k, comp, h1, h2, h3⟩ := Cond.arrayClass_spec h
  refine ⟨c, fun n z => ⟨fun k h => (by cases h), k, h2, comp, h3⟩, ?_⟩
  cases ty with
  | object C => exact absurd rfl (hty C)
  | _ => exact h1
theorem bm_arrO {s : State} {args : Array Value} {C : String} (h : (Cond.arrayOver (.object C)).before args s = true) : ∃ c, ArrOfT s c (.object C) ∧ va_RA s c (.object C) := by
  obtain ⟨comp, c, k, h1, -, h3, h4, h5⟩ := Cond.arrayOver_spec h
  exact ⟨c, fun n z => ⟨fun k h => (by cases h), k, h3, comp, h4⟩, k, comp, h3, h4, h1, h5⟩
theorem bm_Zs.of {C n d : String} {s : State} {args : Array Value} (hl : (Cond.laysStatic C n d).before args s = true) (hr : (Cond.isRef (.static C n d)).before args s = true) : bm_Zs C n d s.heap.size s s.heap := by
  obtain ⟨c, k, i, f, a, cell, h0, h1, h2, h3, h4, h5, h6, h7, h8⟩ := Cond.laysStatic_spec hl
  obtain ⟨v, hv⟩ := Cond.staticRefV h1 h2 h3 h4 h5 hr
  exact ⟨c, k, i, f, a, cell, v, h0, h1, h2, h3, h4, h5, h6, h7, h8, hv, fun z => absurd (Array.getElem?_eq_some_iff.mp h4).1 (Nat.not_lt.mpr z)⟩
set_option maxHeartbeats 4000000 in
theorem bm_start {s : State} {b : Nat} (hts : ∀ w ∈ lw_tbl, w.before #[Value.ref b] s = true) (hgv : (Jvm.Cond.and given_1 narrow_1).before #[Value.ref b] s = true) : ∃ (D : va_G) (ct : Nat → ClassId) (ad : Nat → Nat), bm_G D ct s.heap.size ad s := by
  have hs := flat_of_before _ hgv
  have hA : ∀ a : Nat, a < s.heap.size → ¬ bm_A s.heap.size a := fun a ha z => absurd ha (Nat.not_lt.mpr z)
  have big : ∀ w ∈ bm_big, w.before #[Value.ref b] s = true := fun w hw => hts w (List.mem_filter.mp hw).1
  obtain ⟨c0, i0, k0⟩ := u_known (n := 3) big bu_A (big _ bw_88)
  obtain ⟨c1, i1, k1⟩ := u_known (n := 7) big bu_C (big _ bw_37)
  obtain ⟨c2, i2, k2⟩ := u_known (n := 6) big bu_O (big _ bw_403)
  obtain ⟨c3, i3, k3⟩ := u_known (n := 5) big bu_R (big _ bw_544)
  obtain ⟨c4, i4, k4⟩ := u_known (n := 1) big bu_P (big _ bw_482)
  obtain ⟨c5, i5, k5⟩ := u_known (n := 4) big bu_Q (big _ bw_30)
  obtain ⟨c6, i6, k6⟩ := u_known (n := 12) big bu_B (big _ bw_20)
  obtain ⟨c7, i7, k7⟩ := u_known (n := 22) big bu_M (big _ bw_596)
  obtain ⟨t0, a0⟩ := bm_arrC (big _ bw_669) (fun C h => by cases h)
  obtain ⟨t1, a1⟩ := bm_arrC (big _ bw_108) (fun C h => by cases h)
  obtain ⟨t2, a2⟩ := bm_arrC (big _ bw_670) (fun C h => by cases h)
  obtain ⟨t3, a3⟩ := bm_arrO (hts _ (List.mem_append_right _ (bm_t1 (List.mem_of_getElem? (i := 28) rfl))))
  obtain ⟨t4, a4⟩ := bm_arrO (hts _ (List.mem_append_right _ (bm_t1 (List.mem_of_getElem? (i := 86) rfl))))
  obtain ⟨t5, a5⟩ := bm_arrO (hts _ (List.mem_append_right _ (bm_t1 (List.mem_of_getElem? (i := 36) rfl))))
  obtain ⟨t6, a6⟩ := bm_arrO (hts _ (List.mem_append_right _ (bm_t1 (List.mem_of_getElem? (i := 94) rfl))))
  obtain ⟨d0, e0, l0, z0, q01, q02, q03, q04, q05, q06, -⟩ := Cond.exactly_spec (hs (.exactly (Term.static "BlindMint$Denomination" "ONE" "LBlindMint$Denomination;") "BlindMint$Denomination") (by decide +kernel))
  obtain ⟨d1, e1, l1, z1, q11, q12, q13, q14, q15, q16, -⟩ := Cond.exactly_spec (hs (.exactly (Term.static "BlindMint$Denomination" "FIVE" "LBlindMint$Denomination;") "BlindMint$Denomination") (by decide +kernel))
  obtain ⟨d2, e2, l2, z2, q21, q22, q23, q24, q25, q26, -⟩ := Cond.exactly_spec (hs (.exactly (Term.static "BlindMint$Denomination" "TWENTY" "LBlindMint$Denomination;") "BlindMint$Denomination") (by decide +kernel))
  have hlen : (Term.length (Term.static "BlindMint" "DENOMINATIONS" "[LBlindMint$Denomination;")).eval #[Value.ref b] s none [] s = some (.int (Int32.ofNat 3)) := va_eqt (hs (.eq (.length (Term.static "BlindMint" "DENOMINATIONS" "[LBlindMint$Denomination;")) (.int 3)) (by decide +kernel))
  let ad0 : Nat → Nat := fun j => match j with | 0 => d0 | 1 => d1 | _ => d2
  have hel : ∀ j : Nat, j < 3 → (Term.elem (Term.static "BlindMint" "DENOMINATIONS" "[LBlindMint$Denomination;") (.int (Int32.ofNat j))).eval #[Value.ref b] s none [] s = some ((fun j => Value.ref (ad0 j)) j) := by
    intro j hj
    rcases (show j = 0 ∨ j = 1 ∨ j = 2 by omega) with rfl | rfl | rfl
    · exact va_eqv (hs (.eq (.elem (Term.static "BlindMint" "DENOMINATIONS" "[LBlindMint$Denomination;") (.int 0)) (Term.static "BlindMint$Denomination" "ONE" "LBlindMint$Denomination;")) (by decide +kernel)) q01
    · exact va_eqv (hs (.eq (.elem (Term.static "BlindMint" "DENOMINATIONS" "[LBlindMint$Denomination;") (.int 1)) (Term.static "BlindMint$Denomination" "FIVE" "LBlindMint$Denomination;")) (by decide +kernel)) q11
    · exact va_eqv (hs (.eq (.elem (Term.static "BlindMint" "DENOMINATIONS" "[LBlindMint$Denomination;") (.int 2)) (Term.static "BlindMint$Denomination" "TWENTY" "LBlindMint$Denomination;")) (by decide +kernel)) q21
  obtain ⟨d3, hd3, hT3⟩ := va_Tof (tm := (Term.static "BlindMint" "DENOMINATIONS" "[LBlindMint$Denomination;")) (ty := .object "BlindMint$Denomination") (N := 3) (f := fun j => .ref (ad0 j)) (A := bm_A s.heap.size) (by decide) (hs (.arrayOf (Term.static "BlindMint" "DENOMINATIONS" "[LBlindMint$Denomination;") (.object "BlindMint$Denomination")) (by decide +kernel)) hlen hel hA
  let ad : Nat → Nat := fun j => match j with | 0 => d0 | 1 => d1 | 2 => d2 | _ => d3
  have hT4 : va_T (.object bm_dn) (ad 3) 3 (fun j => .ref (ad j)) (bm_A s.heap.size) s s.heap := by
    obtain ⟨cl, h1, h2, h3, h4, h5, h6, h7⟩ := hT3
    refine ⟨cl, h1, h2, h3, h4, h5, fun j hj => ?_, h7⟩
    have h8 := h6 j hj
    rcases (show j = 0 ∨ j = 1 ∨ j = 2 by omega) with rfl | rfl | rfl <;> exact h8
  have hev : ∀ i, i < 3 → (Term.static "BlindMint$Denomination" (["ONE", "FIVE", "TWENTY"].getD i "") "LBlindMint$Denomination;").eval #[Value.ref b] s none [] s = some (.ref (ad i)) := by
    intro j hj
    rcases (show j = 0 ∨ j = 1 ∨ j = 2 by omega) with rfl | rfl | rfl
    · exact q01
    · exact q11
    · exact q21
  have hE_worth : va_Ef 3 "BlindMint$Denomination" "worth" "I" (fun i => .int (bm_w i)) ad (bm_A s.heap.size) s s.heap := by
    refine va_Efof (nm := ["ONE", "FIVE", "TWENTY"]) (tm := fun i => .int (bm_w i)) hev ?_ (fun i _ => rfl) hA
    intro j hj
    rcases (show j = 0 ∨ j = 1 ∨ j = 2 by omega) with rfl | rfl | rfl
    · exact hs (.eq (.field (Term.static "BlindMint$Denomination" "ONE" "LBlindMint$Denomination;") "BlindMint$Denomination" "worth" "I") (.int 1)) (by decide +kernel)
    · exact hs (.eq (.field (Term.static "BlindMint$Denomination" "FIVE" "LBlindMint$Denomination;") "BlindMint$Denomination" "worth" "I") (.int 5)) (by decide +kernel)
    · exact hs (.eq (.field (Term.static "BlindMint$Denomination" "TWENTY" "LBlindMint$Denomination;") "BlindMint$Denomination" "worth" "I") (.int 20)) (by decide +kernel)
  have hE_p : va_Ef 3 "BlindMint$Denomination" "p" "J" (fun i => .long (lN (bm_p i))) ad (bm_A s.heap.size) s s.heap := by
    refine va_Efof (nm := ["ONE", "FIVE", "TWENTY"]) (tm := fun i => .long (lN (bm_p i))) hev ?_ (fun i _ => rfl) hA
    intro j hj
    rcases (show j = 0 ∨ j = 1 ∨ j = 2 by omega) with rfl | rfl | rfl
    · exact hs (.eq (.field (Term.static "BlindMint$Denomination" "ONE" "LBlindMint$Denomination;") "BlindMint$Denomination" "p" "J") (.long 1073741789)) (by decide +kernel)
    · exact hs (.eq (.field (Term.static "BlindMint$Denomination" "FIVE" "LBlindMint$Denomination;") "BlindMint$Denomination" "p" "J") (.long 998244389)) (by decide +kernel)
    · exact hs (.eq (.field (Term.static "BlindMint$Denomination" "TWENTY" "LBlindMint$Denomination;") "BlindMint$Denomination" "p" "J") (.long 1050000041)) (by decide +kernel)
  have hE_q : va_Ef 3 "BlindMint$Denomination" "q" "J" (fun i => .long (lN (bm_q i))) ad (bm_A s.heap.size) s s.heap := by
    refine va_Efof (nm := ["ONE", "FIVE", "TWENTY"]) (tm := fun i => .long (lN (bm_q i))) hev ?_ (fun i _ => rfl) hA
    intro j hj
    rcases (show j = 0 ∨ j = 1 ∨ j = 2 by omega) with rfl | rfl | rfl
    · exact hs (.eq (.field (Term.static "BlindMint$Denomination" "ONE" "LBlindMint$Denomination;") "BlindMint$Denomination" "q" "J") (.long 1000000007)) (by decide +kernel)
    · exact hs (.eq (.field (Term.static "BlindMint$Denomination" "FIVE" "LBlindMint$Denomination;") "BlindMint$Denomination" "q" "J") (.long 900000011)) (by decide +kernel)
    · exact hs (.eq (.field (Term.static "BlindMint$Denomination" "TWENTY" "LBlindMint$Denomination;") "BlindMint$Denomination" "q" "J") (.long 1020000011)) (by decide +kernel)
  refine ⟨(fun c => match c with | 0 => c0 | 1 => c1 | 2 => c2 | 3 => c3 | 4 => c4 | 5 => c5 | 6 => c6 | _ => c7, fun c => match c with | 0 => i0 | 1 => i1 | 2 => i2 | 3 => i3 | 4 => i4 | 5 => i5 | 6 => i6 | _ => i7), (fun c => match c with | 0 => t0 | 1 => t1 | 2 => t2 | 3 => t3 | 4 => t4 | 5 => t5 | _ => t6), ad, ⟨fun c q hq => ?_, fun c q hq => ?_⟩, Nat.le_refl _, ?_, ?_, hT4, ?_, hE_worth, hE_p, hE_q, ?_, ?_⟩
  · have hc : c < 8 := (List.getElem?_eq_some_iff.mp hq).1
    rcases (show c = 0 ∨ c = 1 ∨ c = 2 ∨ c = 3 ∨ c = 4 ∨ c = 5 ∨ c = 6 ∨ c = 7 by omega) with rfl | rfl | rfl | rfl | rfl | rfl | rfl | rfl
    · cases hq; exact k0
    · cases hq; exact k1
    · cases hq; exact k2
    · cases hq; exact k3
    · cases hq; exact k4
    · cases hq; exact k5
    · cases hq; exact k6
    · cases hq; exact k7
  · have hc : c < 7 := (List.getElem?_eq_some_iff.mp hq).1
    rcases (show c = 0 ∨ c = 1 ∨ c = 2 ∨ c = 3 ∨ c = 4 ∨ c = 5 ∨ c = 6 by omega) with rfl | rfl | rfl | rfl | rfl | rfl | rfl
    · cases hq; exact a0
    · cases hq; exact a1
    · cases hq; exact a2
    · cases hq; exact a3
    · cases hq; exact a4
    · cases hq; exact a5
    · cases hq; exact a6
  · exact ⟨va_Nw.of rfl (hts _ (List.mem_append_right _ (bm_t1 (List.mem_of_getElem? (i := 38) rfl)))), va_Nw.of rfl (hts _ (List.mem_append_right _ (bm_t1 (List.mem_of_getElem? (i := 89) rfl)))), va_Nw.of rfl (hts _ (List.mem_append_right _ (bm_t1 (List.mem_of_getElem? (i := 194) rfl)))), va_Nw.of rfl (hts _ (List.mem_append_right _ (bm_t1 (List.mem_of_getElem? (i := 212) rfl)))), va_Nw.of rfl (hts _ (List.mem_append_right _ (bm_t2 (List.mem_of_getElem? (i := 3) rfl)))), va_Nw.of rfl (hts _ (List.mem_append_right _ (bm_t2 (List.mem_of_getElem? (i := 70) rfl)))), va_Nw.of rfl (hts _ (List.mem_append_right _ (bm_t2 (List.mem_of_getElem? (i := 218) rfl)))), va_Nw.of rfl (hts _ (List.mem_append_right _ (bm_t3 (List.mem_of_getElem? (i := 52) rfl)))), va_Nw.of rfl (hts _ (List.mem_append_right _ (bm_t3 (List.mem_of_getElem? (i := 70) rfl)))), ⟨va_AO.of (hts _ (List.mem_append_right _ (bm_t1 (List.mem_of_getElem? (i := 28) rfl)))), va_AO.of (hts _ (List.mem_append_right _ (bm_t1 (List.mem_of_getElem? (i := 36) rfl)))), va_AO.of (hts _ (List.mem_append_right _ (bm_t1 (List.mem_of_getElem? (i := 86) rfl)))), va_AO.of (hts _ (List.mem_append_right _ (bm_t1 (List.mem_of_getElem? (i := 94) rfl))))⟩, va_Nc.of (hs (.not (.castable "java/lang/IllegalStateException" "java/lang/IllegalArgumentException")) (by decide +kernel)), va_Nc.of (hs (.not (.castable "java/util/NoSuchElementException" "java/lang/IllegalArgumentException")) (by decide +kernel)), va_Nw.of rfl (hts _ (List.mem_append_right _ (bm_t2 (List.mem_of_getElem? (i := 4) rfl)))), va_Nw.of rfl (hts _ (List.mem_append_right _ (bm_t2 (List.mem_of_getElem? (i := 6) rfl)))), va_Nw.of rfl (hts _ (List.mem_append_right _ (bm_t2 (List.mem_of_getElem? (i := 8) rfl))))⟩
  · exact va_Zref (hts _ (List.mem_append_right _ (bm_t1 (List.mem_of_getElem? (i := 166) rfl)))) (big _ bw_1) hd3 hA
  · intro j hj
    rcases (show j = 0 ∨ j = 1 ∨ j = 2 by omega) with rfl | rfl | rfl
    · exact ⟨l0, q03, q05, by rw [q06]; exact q02, hA _ (Array.getElem?_eq_some_iff.mp q03).1⟩
    · exact ⟨l1, q13, q15, by rw [q16]; exact q12, hA _ (Array.getElem?_eq_some_iff.mp q13).1⟩
    · exact ⟨l2, q23, q25, by rw [q26]; exact q22, hA _ (Array.getElem?_eq_some_iff.mp q23).1⟩
  · exact bm_Zs.of (hts _ (List.mem_append_right _ (bm_t2 (List.mem_of_getElem? (i := 28) rfl)))) (hs (.isRef (.static "java/lang/Throwable" "UNASSIGNED_STACK" "[Ljava/lang/StackTraceElement;")) (by decide +kernel))
  · exact bm_Zs.of (hts _ (List.mem_append_right _ (bm_t2 (List.mem_of_getElem? (i := 30) rfl)))) (hs (.isRef (.static "java/lang/Throwable" "SUPPRESSED_SENTINEL" "Ljava/util/List;")) (by decide +kernel))
