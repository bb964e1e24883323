/-! a row of longs cloned; a cast to its class -/
section BML
variable {p : Program} {l : Launch} {e : Env} {R : Room} {s : State} {m : MethodId} {args : Array Value} {below : List Frame} {meth : Method} {c : Code} {H : Heap} {locs : List Loc} {cells slots : Nat} {Q : State → Prop}
variable {cc : ByteArray} {pc : Nat} {ls : Array Slot} {rest : List Value} {D : va_G} {ct : Nat → ClassId} {base : Nat} {a : Nat} {M : bm_Map} {H0 : Heap}
theorem bm_lnm (hK : va_K D bm_cl (bm_tys ct) s) : s.vm.findClass "[J" = some (ct 1) := (hK.2 1 _ rfl).2
theorem bm_castA (hexec : p.tables.exec = Jvm.exec) (hb : c.code = cc) {own nm : String} {index : Nat} (hown : s.vm.findClass own = some m.cls) (hlink : (Cond.classLink own index nm).before args s = true) (hM : bm_M D base M H) {cA : ClassId} {x : vp_A} (he : M a = some (.inl (cA, x))) (hnm : s.vm.findClass nm = some cA) (hdg : decode cc pc = .ok (.checkcast index, 3))
    (kk : W p l e R s m args below meth c H locs cells slots Q (F0 m (pc + 3) ls (.ref a :: rest))) : W p l e R s m args below meth c H locs cells slots Q (F0 m pc ls (.ref a :: rest)) := by
  obtain ⟨ws, hP, hD, hw⟩ := hM
  obtain ⟨q0, hq⟩ := List.getElem?_of_mem ((hw a _).mp he)
  exact va_castA hexec hb hown hlink hP q0 hq hnm hdg kk
theorem bm_clone (hexec : p.tables.exec = Jvm.exec) (hb : c.code = cc) (hml : c.maxLocals = ls.size) {own : String} {index : Nat} (hown : s.vm.findClass own = some m.cls)
    (hlink : (Cond.methodLink own index ⟨"[J", "clone", "()Ljava/lang/Object;"⟩).before args s = true) (hsame : (Cond.sameMethod "[J" "java/lang/Object" "clone" "()Ljava/lang/Object;").before args s = true)
    (hnat : (Cond.native ⟨"java/lang/Object", "clone", "()Ljava/lang/Object;"⟩).before args s = true) (hinst : (Cond.instanceMethod ⟨"java/lang/Object", "clone", "()Ljava/lang/Object;"⟩).before args s = true)
    (hsel : (Cond.selects "[J" ⟨"[J", "clone", "()Ljava/lang/Object;"⟩ ⟨"java/lang/Object", "clone", "()Ljava/lang/Object;"⟩).before args s = true) (hcl : va_Nw (.castable "[J" "java/lang/Cloneable") s)
    (hK : va_K D bm_cl (bm_tys ct) s) (hM : bm_M D base M H) (hS : va_S (bm_A base) H0 H locs) (hB : base ≤ H.size) {n : Nat} {f : Nat → Int64} (he : M a = some (.inl (ct 1, n, .inr (.inl f))))
    (hframes : 1 ≤ R.frames) (hlocals : (rest.map fun v => v.category).sum + 14 ≤ R.locals) (hcells : cells + 1 ≤ R.cells) (hslots : slots + n ≤ R.slots) (hdg : decode cc pc = .ok (.invokevirtual index, 3))
    (kk : ∀ H1 : Heap, H1.size = H.size + 1 → bm_M D base (bm_up M H.size (.inl (ct 1, n, .inr (.inl f)))) H1 → va_S (bm_A base) H0 H1 locs → W p l e R s m args below meth c H1 locs (cells + 1) (slots + n) Q (F0 m (pc + 3) ls (.ref H.size :: rest))) : W p l e R s m args below meth c H locs cells slots Q (F0 m pc ls (.ref a :: rest)) := by
  have hnm : s.vm.findClass "[J" = some (ct 1) := bm_lnm hK
  have hat := (hM.at he).1
  have hcell : H[a]? = some (vp_cell (ct 1) (n, .inr (.inl f))) := hat
  obtain ⟨c0, t0, q1, q2, q3⟩ := Cond.castable_spec (va_Nw.use (A := args) rfl hcl)
  cases hnm.symm.trans q1
  have hsz : (vp_cell (ct 1) (n, .inr (.inl f))).slots.size = n := arrV_size _ _ _
  intro T hT X
  obtain ⟨-, kA, hkA, comp, hkind⟩ := State.isArrayOf_alike X.warmed.alike ((hK.2 1 _ rfl).1 0 (fun _ => .null))
  obtain ⟨-, kS, hkS, compS, hkindS⟩ := (hK.2 1 _ rfl).1 0 (fun _ => .null)
  obtain ⟨vm', X', st⟩ := X.cloneArray hexec hown hlink hsame hnat hinst hsel (a := a) (cell := vp_cell (ct 1) (n, .inr (.inl f))) (by rw [hT]; exact hcell) (fun k h => by cases h) (fun h => by cases h) hnm q2 q3
    (fun i v hv => by
      have hk' : T.vm.classes[ct 1]? = some kA := hkA
      have hfit : fits .long v = true := by
        have hv' : (arrV (ct 1) n (fun j => .long (f j))).slots[i]? = some v := hv
        simp only [arrV, Array.getElem?_ofFn] at hv'
        split at hv'
        · cases hv'; rfl
        · cases hv'
      simpa [State.fitsSlot, State.slotType?, hk', hkind, vp_cell, arrV] using hfit)
    (g := F0 m pc ls (.ref a :: rest)) rfl (by rw [hml]) rfl (by rw [hb]; exact hdg) hframes (by show 2 * 0 + _ + 14 ≤ _; omega) hcells (by rw [hsz]; exact hslots) (hloader := Vm.clonesLoader_of_array hkS hkindS)
  rw [hsz] at X'
  obtain ⟨t, b1, b2⟩ := kk (H.push (vp_cell (ct 1) (n, .inr (.inl f)))) (Array.size_push ..) (hM.push hB (show (H.push (vp_cell (ct 1) (n, .inr (.inl f))))[H.size]? = some _ from Array.getElem?_push_size ..) (fun q hq => by rw [Array.getElem?_push, if_neg (Nat.ne_of_lt hq)]))
    ⟨Nat.le_trans hS.1 (by rw [Array.size_push]; omega), fun q h1 h2 => by rw [Array.getElem?_push, if_neg (Nat.ne_of_lt (Nat.lt_of_lt_of_le h1 hS.1))]; exact hS.2.1 q h1 h2, hS.2.2⟩ ((T.setVm vm').pushCell (vp_cell (ct 1) (n, .inr (.inl f)))) (by rw [← hT]; rfl) X'
  refine ⟨t, st t ?_, b2⟩
  rw [hT]
  exact b1
end BML
theorem bm_CL_up {ct : Nat → ClassId} {M : bm_Map} {y : Nat} {e9 : va_E} : ∀ {L : List bm_CE} {v : Value}, bm_CL ct M L v → (∀ c ∈ L, c.a ≠ y ∧ c.b ≠ y ∧ c.c ≠ y) → bm_CL ct (bm_up M y e9) L v := by
  intro L
  induction L with
  | nil => intro v h _; exact h
  | cons e t ih =>
    intro v h hk
    obtain ⟨h1, bv, h2, h3, h4, h5⟩ := h
    obtain ⟨k1, k2, k3⟩ := hk e List.mem_cons_self
    exact ⟨h1, bv, (bm_up_ne k1).trans h2, (bm_up_ne k2).trans h3, (bm_up_ne k3).trans h4, ih h5 (fun e2 m2 => hk e2 (List.mem_cons_of_mem _ m2))⟩
theorem bm_63 {v : Int32} (h : v ≤ 63) (z : 64 ≤ v) : False := by
  have h1 := Int32.le_iff_toInt_le.mp h
  have h2 := Int32.le_iff_toInt_le.mp z
  have h3 : (63 : Int32).toInt = 63 := by decide
  have h4 : (64 : Int32).toInt = 64 := by decide
  omega
theorem bm_CL_mem {ct : Nat → ClassId} {M : bm_Map} {e : bm_CE} : ∀ {L : List bm_CE} {v : Value}, bm_CL ct M L v → e ∈ L → ∃ bv, M e.a = some (.inr (3, [.long e.d0, .ref e.b, .long e.c0, .ref e.c, bv])) ∧ M e.b = some (.inl (ct 1, 4, .inr (.inl e.h))) ∧ M e.c = some (.inl (ct 1, 4, .inr (.inl e.hv))) := by
  intro L
  induction L with
  | nil => intro v _ m; cases m
  | cons e0 t ih =>
    intro v h m
    obtain ⟨-, bv, h2, h3, h4, h5⟩ := h
    rcases List.mem_cons.mp m with rfl | m
    · exact ⟨bv, h2, h3, h4⟩
    · exact ih h5 m
