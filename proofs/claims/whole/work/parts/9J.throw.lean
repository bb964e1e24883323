/-! the words on exceptions that a call does not keep by itself -/
def bm_upX : List String := ["java/lang/RuntimeException", "java/lang/Exception"]
def bm_odd : List Cond := [Cond.declares ({ cls := "java/lang/RuntimeException", name := "<init>", desc := "()V" } : MethodName), Cond.declares ({ cls := "java/lang/Exception", name := "<init>", desc := "()V" } : MethodName), Cond.declares ({ cls := "java/lang/Throwable", name := "<init>", desc := "()V" } : MethodName), Cond.castable "java/lang/IllegalArgumentException" "java/lang/IllegalArgumentException", Cond.castable "java/lang/IllegalStateException" "java/lang/IllegalStateException", Cond.castable "java/util/NoSuchElementException" "java/util/NoSuchElementException", Cond.isRef (.static "java/lang/Throwable" "UNASSIGNED_STACK" "[Ljava/lang/StackTraceElement;"), Cond.isRef (.static "java/lang/Throwable" "SUPPRESSED_SENTINEL" "Ljava/util/List;"), Cond.laysStatic "java/lang/Throwable" "UNASSIGNED_STACK" "[Ljava/lang/StackTraceElement;", Cond.laysStatic "java/lang/Throwable" "SUPPRESSED_SENTINEL" "Ljava/util/List;"]
theorem bm_G.odd {D : va_G} {ct : Nat → ClassId} {base : Nat} {ad : Nat → Nat} {U : State} (h : bm_G D ct base ad U) : ∀ a ∈ bm_odd, ∀ args : Array Value, a.before args U = true := by
  obtain ⟨hu, hv⟩ := h.2.2.2.2.2.2.2.2.2
  have key : ∀ args : Array Value, ∀ a ∈ bm_odd, a.before args U = true := fun args => List.forall_mem_cons.mpr ⟨va_Nw.use rfl h.2.2.1.xs.2.2.1, List.forall_mem_cons.mpr ⟨va_Nw.use rfl h.2.2.1.xs.2.2.2.1, List.forall_mem_cons.mpr ⟨va_Nw.use rfl h.2.2.1.xs.2.2.2.2, List.forall_mem_cons.mpr ⟨va_Nw.use rfl h.2.2.1.w243, List.forall_mem_cons.mpr ⟨va_Nw.use rfl h.2.2.1.w310, List.forall_mem_cons.mpr ⟨va_Nw.use rfl h.2.2.1.w458, List.forall_mem_cons.mpr ⟨hu.ref args, List.forall_mem_cons.mpr ⟨hv.ref args, List.forall_mem_cons.mpr ⟨hu.lays args, List.forall_mem_cons.mpr ⟨hv.lays args, fun _ h9 => absurd h9 List.not_mem_nil⟩⟩⟩⟩⟩⟩⟩⟩⟩⟩
  exact fun a ha args => key args a ha
/-! contracts that end in a throw: their head, the throw itself, a call of one of them that is caught -/
def bm_PostT (D : va_G) (base : Nat) (K : String) (post : bm_Map → Nat → Prop) : Array Value → State → Outcome → State → Prop := fun _ st oc t => ∃ (a : Nat) (M1 : bm_Map) (ce : Cell), oc = .threw a ∧ post M1 t.heap.size ∧ bm_M D base M1 t.heap ∧ va_F (bm_A base) st t ∧ t.heap[a]? = some ce ∧ t.vm.findClass K = some ce.cls ∧ ce.vm = .none
theorem bm_noTr {l : Launch} {e : Env} (hl : l.stackTraces = false) (h : l.admits e) : e.platform.stackTraces = false := by
  have h1 := h.2.2.2.2.1
  rw [h1]
  exact hl
theorem bm_ofT {l : Launch} {y : MethodName} {rm : Room} {D : va_G} {ct : Nat → ClassId} {base : Nat} {ad : Nat → Nat} {M : bm_Map} {sz : Nat} {av : List Value} {K : String} {post : bm_Map → Nat → Prop} {mc ms : Nat} {cc : ByteArray} {maxL : Nat} {ret : Option FieldType}
    (hl : l.stackTraces = false) (hy : plainFor y = true) (hlen : (lg_sl av).length ≤ maxL)
    (body : ∀ (p : Program) (e : Env) (s : State) (m : MethodId) (args : Array Value) (below : List Frame) (meth : Method) (c : Code), p.tables.exec = Jvm.exec → c.code = cc → meth.sig.returnType = ret → meth.locks = false → (∀ w ∈ bm_big, w.before args s = true) → s.vm.findClass y.cls = some m.cls → c.maxLocals = maxL → meth.name = y.name →
      ∀ ls : Array Slot, lv_has ls maxL (lv_args 0 av) → s.heap.size = sz → bm_M D base M s.heap → bm_G D ct base ad s → ∀ (R : Room) (Q : State → Prop), rm = R → bm_MQ below (bm_PostT D base K post) args s mc ms (bm_A base) = Q → (c.exceptionTable.isEmpty = true ∧ e.platform.stackTraces = false) → W p l e R s m args below meth c s.heap [] 0 0 Q (F0 m 0 ls [])) :
    bm_MG l y (bm_ws y cc maxL ret) rm (bm_Pre D ct base ad M sz av) (bm_PostT D base K post) mc ms (bm_A base) := by
  refine bm_MG.ofW hy bm_hisC ?_
  intro p e s m args below meth c hx hb hr hlk hws hn hm hc hml ha hv
  obtain ⟨rfl, hsz, hM, hG⟩ := hv
  rw [lg_entry_eq]
  have hemp : c.exceptionTable.isEmpty = true := by
    obtain ⟨m1, c1, h1, h2, -, -, -, -, h3, -⟩ := Cond.code_spec hn (hws _ List.mem_cons_self)
    cases hm.symm.trans h1
    cases hc.symm.trans h2
    exact h3
  exact body p e s m _ below meth c hx hb hr hlk (fun w h => hws w (List.mem_cons_of_mem _ h)) (findClass_of_methodNamed hn) hml (name_of_methodNamed hn hm).1 _ (lv_entry av hlen) hsz hM hG _ _ rfl rfl ⟨hemp, bm_noTr hl ha⟩
/-- what the words say of an exception's class: which entry of the class's pool names it, which its constructor -/
def bm_Kx (K : String) (index ic : Nat) : Prop := Bundle.fit K = true ∧ (∀ a ∈ Bundle.ownAtoms0 "BlindMint" ic K bm_upX, a ∈ bm_big ∨ a ∈ bm_odd) ∧ Cond.classLink "BlindMint" index K ∈ bm_big ∧ Cond.instantiable K 6 ∈ bm_big ∧ Cond.initialized K ∈ bm_big
theorem bm_kxA : bm_Kx "java/lang/IllegalArgumentException" 70 72 := ⟨by decide +kernel, List.forall_mem_cons.mpr ⟨Or.inl bw_6, List.forall_mem_cons.mpr ⟨Or.inl bw_263, List.forall_mem_cons.mpr ⟨Or.inl bw_272, List.forall_mem_cons.mpr ⟨Or.inl bw_276, List.forall_mem_cons.mpr ⟨Or.inl bw_279, List.forall_mem_cons.mpr ⟨Or.inl bw_281, List.forall_mem_cons.mpr ⟨Or.inl bw_264, List.forall_mem_cons.mpr ⟨Or.inl bw_265, List.forall_mem_cons.mpr ⟨Or.inl bw_25, List.forall_mem_cons.mpr ⟨Or.inl bw_26, List.forall_mem_cons.mpr ⟨Or.inl bw_266, List.forall_mem_cons.mpr ⟨Or.inl bw_271, List.forall_mem_cons.mpr ⟨Or.inl bw_277, List.forall_mem_cons.mpr ⟨Or.inl bw_293, List.forall_mem_cons.mpr ⟨Or.inl bw_253, List.forall_mem_cons.mpr ⟨Or.inl bw_294, List.forall_mem_cons.mpr ⟨Or.inl bw_255, List.forall_mem_cons.mpr ⟨Or.inl bw_295, List.forall_mem_cons.mpr ⟨Or.inl bw_257, List.forall_mem_cons.mpr ⟨Or.inl bw_267, List.forall_mem_cons.mpr ⟨Or.inr (List.mem_of_getElem? (i := 8) rfl), List.forall_mem_cons.mpr ⟨Or.inl bw_269, List.forall_mem_cons.mpr ⟨Or.inr (List.mem_of_getElem? (i := 9) rfl), List.forall_mem_cons.mpr ⟨Or.inl bw_259, List.forall_mem_cons.mpr ⟨Or.inl bw_283, List.forall_mem_cons.mpr ⟨Or.inl bw_284, List.forall_mem_cons.mpr ⟨Or.inl bw_285, List.forall_mem_cons.mpr ⟨Or.inl bw_286, List.forall_mem_cons.mpr ⟨Or.inr (List.mem_of_getElem? (i := 0) rfl), List.forall_mem_cons.mpr ⟨Or.inl bw_286, List.forall_mem_cons.mpr ⟨Or.inl bw_287, List.forall_mem_cons.mpr ⟨Or.inl bw_288, List.forall_mem_cons.mpr ⟨Or.inl bw_289, List.forall_mem_cons.mpr ⟨Or.inr (List.mem_of_getElem? (i := 1) rfl), List.forall_mem_cons.mpr ⟨Or.inl bw_289, List.forall_mem_cons.mpr ⟨Or.inl bw_290, List.forall_mem_cons.mpr ⟨Or.inl bw_291, List.forall_mem_cons.mpr ⟨Or.inl bw_264, List.forall_mem_cons.mpr ⟨Or.inr (List.mem_of_getElem? (i := 2) rfl), List.forall_mem_cons.mpr ⟨Or.inl bw_282, List.forall_mem_cons.mpr ⟨Or.inl bw_242, List.forall_mem_cons.mpr ⟨Or.inr (List.mem_of_getElem? (i := 3) rfl), List.forall_mem_cons.mpr ⟨Or.inl bw_250, List.forall_mem_cons.mpr ⟨Or.inl bw_251, List.forall_mem_cons.mpr ⟨Or.inl bw_252, List.forall_mem_cons.mpr ⟨Or.inl bw_254, List.forall_mem_cons.mpr ⟨Or.inl bw_256, List.forall_mem_cons.mpr ⟨Or.inl bw_258, List.forall_mem_cons.mpr ⟨Or.inr (List.mem_of_getElem? (i := 6) rfl), List.forall_mem_cons.mpr ⟨Or.inr (List.mem_of_getElem? (i := 7) rfl), List.forall_mem_cons.mpr ⟨Or.inl bw_262, List.forall_mem_cons.mpr ⟨Or.inl bw_261, List.forall_mem_cons.mpr ⟨Or.inl bw_260, fun _ h9 => absurd h9 List.not_mem_nil⟩⟩⟩⟩⟩⟩⟩⟩⟩⟩⟩⟩⟩⟩⟩⟩⟩⟩⟩⟩⟩⟩⟩⟩⟩⟩⟩⟩⟩⟩⟩⟩⟩⟩⟩⟩⟩⟩⟩⟩⟩⟩⟩⟩⟩⟩⟩⟩⟩⟩⟩⟩⟩, bw_241, bw_242, bw_9⟩
theorem bm_kxS : bm_Kx "java/lang/IllegalStateException" 89 91 := ⟨by decide +kernel, List.forall_mem_cons.mpr ⟨Or.inl bw_6, List.forall_mem_cons.mpr ⟨Or.inl bw_263, List.forall_mem_cons.mpr ⟨Or.inl bw_272, List.forall_mem_cons.mpr ⟨Or.inl bw_276, List.forall_mem_cons.mpr ⟨Or.inl bw_279, List.forall_mem_cons.mpr ⟨Or.inl bw_281, List.forall_mem_cons.mpr ⟨Or.inl bw_264, List.forall_mem_cons.mpr ⟨Or.inl bw_265, List.forall_mem_cons.mpr ⟨Or.inl bw_25, List.forall_mem_cons.mpr ⟨Or.inl bw_26, List.forall_mem_cons.mpr ⟨Or.inl bw_266, List.forall_mem_cons.mpr ⟨Or.inl bw_271, List.forall_mem_cons.mpr ⟨Or.inl bw_277, List.forall_mem_cons.mpr ⟨Or.inl bw_293, List.forall_mem_cons.mpr ⟨Or.inl bw_253, List.forall_mem_cons.mpr ⟨Or.inl bw_294, List.forall_mem_cons.mpr ⟨Or.inl bw_255, List.forall_mem_cons.mpr ⟨Or.inl bw_295, List.forall_mem_cons.mpr ⟨Or.inl bw_257, List.forall_mem_cons.mpr ⟨Or.inl bw_267, List.forall_mem_cons.mpr ⟨Or.inr (List.mem_of_getElem? (i := 8) rfl), List.forall_mem_cons.mpr ⟨Or.inl bw_269, List.forall_mem_cons.mpr ⟨Or.inr (List.mem_of_getElem? (i := 9) rfl), List.forall_mem_cons.mpr ⟨Or.inl bw_259, List.forall_mem_cons.mpr ⟨Or.inl bw_318, List.forall_mem_cons.mpr ⟨Or.inl bw_319, List.forall_mem_cons.mpr ⟨Or.inl bw_320, List.forall_mem_cons.mpr ⟨Or.inl bw_286, List.forall_mem_cons.mpr ⟨Or.inr (List.mem_of_getElem? (i := 0) rfl), List.forall_mem_cons.mpr ⟨Or.inl bw_286, List.forall_mem_cons.mpr ⟨Or.inl bw_287, List.forall_mem_cons.mpr ⟨Or.inl bw_288, List.forall_mem_cons.mpr ⟨Or.inl bw_289, List.forall_mem_cons.mpr ⟨Or.inr (List.mem_of_getElem? (i := 1) rfl), List.forall_mem_cons.mpr ⟨Or.inl bw_289, List.forall_mem_cons.mpr ⟨Or.inl bw_290, List.forall_mem_cons.mpr ⟨Or.inl bw_291, List.forall_mem_cons.mpr ⟨Or.inl bw_264, List.forall_mem_cons.mpr ⟨Or.inr (List.mem_of_getElem? (i := 2) rfl), List.forall_mem_cons.mpr ⟨Or.inl bw_317, List.forall_mem_cons.mpr ⟨Or.inl bw_309, List.forall_mem_cons.mpr ⟨Or.inr (List.mem_of_getElem? (i := 4) rfl), List.forall_mem_cons.mpr ⟨Or.inl bw_311, List.forall_mem_cons.mpr ⟨Or.inl bw_274, List.forall_mem_cons.mpr ⟨Or.inl bw_312, List.forall_mem_cons.mpr ⟨Or.inl bw_313, List.forall_mem_cons.mpr ⟨Or.inl bw_314, List.forall_mem_cons.mpr ⟨Or.inl bw_315, List.forall_mem_cons.mpr ⟨Or.inr (List.mem_of_getElem? (i := 6) rfl), List.forall_mem_cons.mpr ⟨Or.inr (List.mem_of_getElem? (i := 7) rfl), List.forall_mem_cons.mpr ⟨Or.inl bw_262, List.forall_mem_cons.mpr ⟨Or.inl bw_261, List.forall_mem_cons.mpr ⟨Or.inl bw_316, fun _ h9 => absurd h9 List.not_mem_nil⟩⟩⟩⟩⟩⟩⟩⟩⟩⟩⟩⟩⟩⟩⟩⟩⟩⟩⟩⟩⟩⟩⟩⟩⟩⟩⟩⟩⟩⟩⟩⟩⟩⟩⟩⟩⟩⟩⟩⟩⟩⟩⟩⟩⟩⟩⟩⟩⟩⟩⟩⟩⟩, bw_308, bw_309, bw_10⟩
theorem bm_kxN : bm_Kx "java/util/NoSuchElementException" 115 117 := ⟨by decide +kernel, List.forall_mem_cons.mpr ⟨Or.inl bw_6, List.forall_mem_cons.mpr ⟨Or.inl bw_263, List.forall_mem_cons.mpr ⟨Or.inl bw_272, List.forall_mem_cons.mpr ⟨Or.inl bw_276, List.forall_mem_cons.mpr ⟨Or.inl bw_279, List.forall_mem_cons.mpr ⟨Or.inl bw_281, List.forall_mem_cons.mpr ⟨Or.inl bw_264, List.forall_mem_cons.mpr ⟨Or.inl bw_265, List.forall_mem_cons.mpr ⟨Or.inl bw_25, List.forall_mem_cons.mpr ⟨Or.inl bw_26, List.forall_mem_cons.mpr ⟨Or.inl bw_266, List.forall_mem_cons.mpr ⟨Or.inl bw_271, List.forall_mem_cons.mpr ⟨Or.inl bw_277, List.forall_mem_cons.mpr ⟨Or.inl bw_293, List.forall_mem_cons.mpr ⟨Or.inl bw_253, List.forall_mem_cons.mpr ⟨Or.inl bw_294, List.forall_mem_cons.mpr ⟨Or.inl bw_255, List.forall_mem_cons.mpr ⟨Or.inl bw_295, List.forall_mem_cons.mpr ⟨Or.inl bw_257, List.forall_mem_cons.mpr ⟨Or.inl bw_267, List.forall_mem_cons.mpr ⟨Or.inr (List.mem_of_getElem? (i := 8) rfl), List.forall_mem_cons.mpr ⟨Or.inl bw_269, List.forall_mem_cons.mpr ⟨Or.inr (List.mem_of_getElem? (i := 9) rfl), List.forall_mem_cons.mpr ⟨Or.inl bw_259, List.forall_mem_cons.mpr ⟨Or.inl bw_466, List.forall_mem_cons.mpr ⟨Or.inl bw_467, List.forall_mem_cons.mpr ⟨Or.inl bw_468, List.forall_mem_cons.mpr ⟨Or.inl bw_286, List.forall_mem_cons.mpr ⟨Or.inr (List.mem_of_getElem? (i := 0) rfl), List.forall_mem_cons.mpr ⟨Or.inl bw_286, List.forall_mem_cons.mpr ⟨Or.inl bw_287, List.forall_mem_cons.mpr ⟨Or.inl bw_288, List.forall_mem_cons.mpr ⟨Or.inl bw_289, List.forall_mem_cons.mpr ⟨Or.inr (List.mem_of_getElem? (i := 1) rfl), List.forall_mem_cons.mpr ⟨Or.inl bw_289, List.forall_mem_cons.mpr ⟨Or.inl bw_290, List.forall_mem_cons.mpr ⟨Or.inl bw_291, List.forall_mem_cons.mpr ⟨Or.inl bw_264, List.forall_mem_cons.mpr ⟨Or.inr (List.mem_of_getElem? (i := 2) rfl), List.forall_mem_cons.mpr ⟨Or.inl bw_465, List.forall_mem_cons.mpr ⟨Or.inl bw_457, List.forall_mem_cons.mpr ⟨Or.inr (List.mem_of_getElem? (i := 5) rfl), List.forall_mem_cons.mpr ⟨Or.inl bw_459, List.forall_mem_cons.mpr ⟨Or.inl bw_275, List.forall_mem_cons.mpr ⟨Or.inl bw_460, List.forall_mem_cons.mpr ⟨Or.inl bw_461, List.forall_mem_cons.mpr ⟨Or.inl bw_462, List.forall_mem_cons.mpr ⟨Or.inl bw_463, List.forall_mem_cons.mpr ⟨Or.inr (List.mem_of_getElem? (i := 6) rfl), List.forall_mem_cons.mpr ⟨Or.inr (List.mem_of_getElem? (i := 7) rfl), List.forall_mem_cons.mpr ⟨Or.inl bw_262, List.forall_mem_cons.mpr ⟨Or.inl bw_261, List.forall_mem_cons.mpr ⟨Or.inl bw_464, fun _ h9 => absurd h9 List.not_mem_nil⟩⟩⟩⟩⟩⟩⟩⟩⟩⟩⟩⟩⟩⟩⟩⟩⟩⟩⟩⟩⟩⟩⟩⟩⟩⟩⟩⟩⟩⟩⟩⟩⟩⟩⟩⟩⟩⟩⟩⟩⟩⟩⟩⟩⟩⟩⟩⟩⟩⟩⟩⟩⟩, bw_456, bw_457, bw_15⟩
theorem bm_noSA {D : va_G} {ct : Nat → ClassId} {base : Nat} {ad : Nat → Nat} {U : State} (h : bm_G D ct base ad U) {c : ClassId} (hc : U.vm.findClass "java/lang/IllegalStateException" = some c) : ∀ k, U.vm.findClass "java/lang/IllegalArgumentException" = some k → U.vm.assignable c k = false := by
  obtain ⟨c1, t1, h1, h2, h3⟩ := h.2.2.1.xs.1
  intro k hk
  cases hc.symm.trans h1
  cases hk.symm.trans h2
  exact h3
theorem bm_noNA {D : va_G} {ct : Nat → ClassId} {base : Nat} {ad : Nat → Nat} {U : State} (h : bm_G D ct base ad U) {c : ClassId} (hc : U.vm.findClass "java/util/NoSuchElementException" = some c) : ∀ k, U.vm.findClass "java/lang/IllegalArgumentException" = some k → U.vm.assignable c k = false := by
  obtain ⟨c1, t1, h1, h2, h3⟩ := h.2.2.1.xs.2.1
  intro k hk
  cases hc.symm.trans h1
  cases hk.symm.trans h2
  exact h3
section BMU
variable {p : Program} {l : Launch} {e : Env} {R : Room} {s : State} {m : MethodId} {args : Array Value} {below : List Frame} {meth : Method} {c : Code} {H : Heap} {locs : List Loc} {cells slots : Nat} {Q : State → Prop}
variable {y : MethodName} {bytes cc : ByteArray} {maxL nL mc ms n index ic : Nat} {ret : Option FieldType} {rm : Room} {Pc : Array Value → State → Prop} {Qc : Array Value → State → Outcome → State → Prop} {free : Addr → Prop} {own C K : String} {b : Addr} {As rest : List Value} {D : va_G} {ct : Nat → ClassId} {base : Nat} {ad : Nat → Nat} {M1 : bm_Map} {post : bm_Map → Nat → Prop} {ls : Array Slot} {pc : Nat} {H0 : Heap}
theorem bm_throw (hQ : bm_MQ below (bm_PostT D base K post) args s mc ms (bm_A base) = Q) (hexec : p.tables.exec = Jvm.exec) (hb : c.code = cc) (hlk : meth.locks = false) (hT : c.exceptionTable.isEmpty = true ∧ e.platform.stackTraces = false) (hts : ∀ w ∈ bm_big, w.before args s = true) (hown : s.vm.findClass "BlindMint" = some m.cls) (hG : bm_G D ct base ad s) (hS : va_S (bm_A base) s.heap H locs) (hM : bm_M D base M1 H) (hp : post M1 (H.size + 1)) (hK : bm_Kx K index ic) (hls : ls.size = nL) (hml : c.maxLocals = nL)
    (h0 : decode cc pc = .ok (.new index, 3)) (h3 : decode cc (pc + 3) = .ok (.dup, 1)) (h4 : decode cc (pc + 4) = .ok (.invokespecial ic, 3)) (h7 : decode cc (pc + 7) = .ok (.athrow, 1)) (hc : cells + 1 ≤ mc) (hs : slots + 6 ≤ ms) (hR : mc ≤ R.cells ∧ ms ≤ R.slots ∧ 5 < R.frames ∧ 81 ≤ R.locals) : W p l e R s m args below meth c H locs cells slots Q (F0 m pc ls []) := by
  subst hQ
  subst hb
  intro T hT2 X
  subst hT2
  have hbig : ∀ w ∈ bm_big, w.before args T = true := fun w hw => pay_in hts (fun w hw => ⟨hw, bm_bigG hw⟩) w hw args T X.warmed
  have hGT : bm_G D ct base ad T := hG.go hS rfl X.warmed
  obtain ⟨U, st, hrun, hend, hW, hsame, hsz, hk, ce, hce, hcK, hv⟩ := bm_thrown X hexec hT.2 (own := "BlindMint") (index := index) (ic := ic) (K := K) (names := bm_upX) hown hK.1 (by decide +kernel) (fun a ha => (hK.2.1 a ha).elim (hbig a) (fun h => hGT.odd a h args)) (hbig _ hK.2.2.1) (hbig _ hK.2.2.2.1) (hbig _ hK.2.2.2.2) (pc := pc) (ls := ls) (rest := []) (hls.trans hml.symm) h0 h3 h4 h7 hT.1 hlk (by omega) (by omega) (by show 2 + 3 < R.frames; omega) (by show 0 + (13 * (2 + 1) + 42) ≤ R.locals; omega)
  have hsz0 : s.heap.size ≤ T.heap.size := hS.1
  refine ⟨U, st, .threw T.heap.size, hrun, hend, ⟨_, M1, ce, rfl, by rw [hsz]; exact hp, hM.ext hk, ⟨by omega, fun q h1 h2 => ?_⟩, hce, hcK, hv⟩, locs, ⟨hW, hsame.weaken (fun x hx _ => hx) hc hs⟩, hS.2.2⟩
  rw [hk q (Nat.lt_of_lt_of_le h1 hsz0)]
  exact hS.2.1 q h1 h2
/-- a call that throws: the caller's place after it -/
theorem bm_goT {Wt len : Nat} {U : State} {Ls : List Loc} {c0 s0 : Nat} {g : JFrame} {ig : Instr} {mk : MethodId} {a : Array Value} {ws : List Cond}
    (hM : bm_MG l y ws rm Pc Qc mc ms free) (hthr : ∀ a st o t, Qc a st o t → ∃ x, o = .threw x) (hblind : FrameBlind Pc) (hrc : rm.cells = mc) (hrs : rm.slots = ms) (hframes : rm.frames + 1 ≤ R.frames) (hlocals : Wt + (maxL + 11) + rm.locals ≤ R.locals)
    (hws : ∀ w ∈ ws, ∀ (a' : Array Value) (V : State), s.WarmedH V.vm → w.before a' V = true)
    (his : ∀ (args : Array Value) (s : State) (m : MethodId), (∀ w ∈ ws, w.before args s = true) → s.methodNamed? y = some m → ∃ meth c, s.vm.method? m = some meth ∧ meth.code = some c ∧ c.maxLocals = maxL)
    (X : Stand p l e R s m args below meth c U Ls c0 s0) (hg : g.method = m) (hsize : g.locals.size = c.maxLocals) (hdg : decode c.code g.pc = .ok (ig, len)) (hWt : 2 * g.monitorRoom + (g.stack.map fun v => v.category).sum ≤ Wt) (hn : U.methodNamed? y = some mk) (h4 : c0 + mc ≤ R.cells) (h5 : s0 + ms ≤ R.slots) (hp : Pc a U) :
    ∃ (x : Addr) (t U1 : State) (L : List Loc), Stand p l e R s m args below meth c U1 (Ls ++ L) (c0 + mc) (s0 + ms) ∧ (∀ q ∈ L, free q.base) ∧ U1.heap = t.heap ∧ U1.vm = t.vm ∧ Qc a (U.calling g mk a) (.threw x) t ∧ Steps p.tables e below (doInvoke e (U.setTop g) [] mk a).1 ((U1.setTop g).pushFrame (.throwing x)) := by
  obtain ⟨o, s₂, L, hsteps, hend, hq, hE, hL⟩ := bm_goG (maxL := maxL) hM hblind hrc hrs hframes hlocals hws his X hg hsize hdg hWt hn h4 h5 hp
  obtain ⟨x, rfl⟩ := hthr _ _ _ _ hq
  obtain ⟨hW₂, e2, q2, q3, q4, q5, q6⟩ := id hE
  have h : At U g.method c below := by rw [hg]; exact X.here
  have e3 : s₂ = ({ (U.calling g mk a).setFrames s₂.frames with heap := s₂.heap, slotsUsed := s₂.slotsUsed } : State).setVm s₂.vm := by
    have : s₂ = ({ s₂ with vm := (U.calling g mk a).vm } : State).setVm s₂.vm := rfl
    rw [e2] at this
    exact this
  have hf₂ : s₂.frames = .throwing x :: .java g :: below := hend
  have hW' : U.WarmedH s₂.vm := hW₂
  obtain ⟨g₀, hr⟩ := X.frames_eq
  have hs₂ : s₂ = ((({ U with heap := s₂.heap, slotsUsed := s₂.slotsUsed } : State).setVm s₂.vm).setTop g).pushFrame (.throwing x) := by
    have hr' : (({ U with heap := s₂.heap, slotsUsed := s₂.slotsUsed } : State).setVm s₂.vm).frames = .java g₀ :: below := hr
    refine e3.trans ?_
    rw [hf₂, State.calling_eq h.top, State.setFrames_setFrames, State.pushFrame, State.frames_setTop _ hr', State.setTop_of_frames _ hr', State.setFrames_setFrames]
    rfl
  have hsame : U.sameButNew ({ U with heap := s₂.heap, slotsUsed := s₂.slotsUsed } : State) L mc ms := by
    refine ⟨?_, q2, q3, q4, q5, q6⟩
    obtain ⟨t, ht, -⟩ := State.frames_cons hr
    show ({ U with heap := s₂.heap, slotsUsed := s₂.slotsUsed } : State) = { U.setFrames U.frames with heap := s₂.heap, slotsUsed := s₂.slotsUsed }
    rw [State.setFrames_self ht]
  subst hg
  refine ⟨x, s₂, (({ U with heap := s₂.heap, slotsUsed := s₂.slotsUsed } : State).setVm s₂.vm), L,
    ⟨X.admits, X.cas, X.clock, X.frames, X.room, X.hears, X.method, X.code, (X.here.setHeapUsed s₂.heap s₂.slotsUsed).setVm hW'.alike, X.tail, State.WarmedH.trans X.warmed hW', X.limits, X.bytes, X.same.trans (hsame.setVm s.vm)⟩,
    hL, rfl, rfl, hq, ?_⟩
  rw [← hs₂]
  exact hsteps
/-- a handler at hp takes an exception of the class K thrown by the call at pc -/
def bm_Ct (p : Program) (l : Launch) (e : Env) (R : Room) (s : State) (m : MethodId) (args : Array Value) (below : List Frame) (meth : Method) (c : Code) (K : String) (g : JFrame) (hp : Nat) : Prop :=
  ∀ (T : State) (locs : List Loc) (cells slots : Nat) (x : Addr) (ce : Cell), Stand p l e R s m args below meth c T locs cells slots → T.heap[x]? = some ce → ce.vm = .none → T.vm.findClass K = some ce.cls →
    ∃ vm1, Stand p l e R s m args below meth c (T.setVm vm1) locs cells slots ∧ ∀ target, Steps p.tables e below ((T.setVm vm1).setTop { g with pc := hp, stack := [.ref x] }) target → Steps p.tables e below ((T.setTop g).pushFrame (.throwing x)) target
theorem bm_callT (S : CallFix p m c cc nL s args bm_big own) (hM : bm_MG l y (bm_ws y bytes maxL ret) rm Pc (bm_PostT D base K post) mc ms (bm_A base)) (h1 : Cond.methodLink own index y ∈ bm_big) (h2 : Cond.instanceMethod y ∈ bm_big) (h3 : Cond.selects C y y ∈ bm_big) (h4 : Cond.code y bytes maxL ret ∈ bm_big) (hrc : rm.cells = mc) (hrs : rm.slots = ms)
    (hd : y.cls ≠ "java/lang/invoke/MethodHandle" ∧ y.cls ≠ "java/lang/invoke/VarHandle" ∧ (parseMethodDescriptor y.desc).map (fun d => d.parameters.length) = some n) (hR : rm.frames + 1 ≤ R.frames ∧ 8 + (maxL + 11) + rm.locals ≤ R.locals) (hp : PreV s H C b Pc As)
    (hn : As.length = n) (hsize : ls.size = nL) (hW : (rest.map fun v => v.category).sum ≤ 8) (hdg : decode cc pc = .ok (.invokevirtual index, 3)) (hf : cells + mc ≤ R.cells ∧ slots + ms ≤ R.slots) (hS : va_S (bm_A base) H0 H locs) {hpc : Nat} (hct : bm_Ct p l e R s m args below meth c K (F0 m pc ls rest) hpc)
    (kk : ∀ (x : Nat) (M1 : bm_Map) (H1 : Heap) (locs1 : List Loc), post M1 H1.size → bm_M D base M1 H1 → va_S (bm_A base) H0 H1 locs1 → W p l e R s m args below meth c H1 locs1 (cells + mc) (slots + ms) Q (F0 m hpc ls [.ref x])) :
    W p l e R s m args below meth c H locs cells slots Q (F0 m pc ls (As.reverse ++ .ref b :: rest)) := by
  obtain ⟨hx, hb, hml, ho, hts⟩ := S
  obtain ⟨hbl, ⟨cellB, hcB, hoB, hclB⟩, hPc⟩ := hp
  intro T hT X
  have w : ∀ z ∈ bm_big, z.before args s = true := hts
  obtain ⟨mk, methM, hnamed, hmethM, hstM, habM⟩ := Cond.instanceMethod_spec (w _ h2)
  obtain ⟨methM', cM, hmethM', -, -, -, -, -, -, hsigM⟩ := Cond.code_spec hnamed (w _ h4)
  cases hmethM.symm.trans hmethM'
  obtain ⟨c2, r2, m2, q1, q2, q3, q4, kP, hkP, hkPi⟩ := Cond.selects_spec (w _ h3)
  cases hclB.symm.trans q1
  cases (State.methodFound?_of_named hnamed ⟨hd.1, hd.2.1⟩).symm.trans q2
  cases hnamed.symm.trans q3
  have hselP : selectMethod e.platform s.vm cellB.cls mk = .method mk := by rw [Launch.admits_selectMethod X.admits]; exact q4
  have hlen : As.length = methM.sig.parameters.length := hn.trans (by have h9 := hd.2.2; rw [hsigM] at h9; exact (Option.some.inj h9).symm)
  obtain ⟨vm₁, X₁, hstep₁⟩ := X.invokevirtual hx ho (w _ h1) hnamed hmethM hstM hkP hkPi ⟨hd.1, hd.2.1⟩ (a := b) (cell := cellB) (by rw [hT]; exact hcB)
    (fun z h => by rw [h] at hoB; cases hoB) hselP hmethM habM hkP hkPi (g := F0 m pc ls (As.reverse ++ .ref b :: rest)) rfl (argsL := As) (rest := rest) hlen rfl (by rw [hb]; exact hdg)
  obtain ⟨x, t, U1, L, XU, hL, e1, e2, ⟨a9, M1, ce, ho9, hpo, hm9, hF, hce, hcK, hcv⟩, st⟩ := bm_goT (Wt := 8) (maxL := maxL) (g := F0 m pc ls rest) (ig := .invokevirtual index) (len := 3) (mk := mk) (a := (Value.ref b :: As).toArray) hM (fun _ _ _ _ h => by obtain ⟨z, -, -, hz, -⟩ := h; exact ⟨z, hz⟩) hbl hrc hrs hR.1 hR.2 (bm_wsW hts h4) bm_hisC' X₁ rfl (hsize.trans hml.symm) (by rw [hb]; exact hdg) (by simpa using hW) (X₁.named hnamed) hf.1 hf.2 (hPc (T.setVm vm₁) hT X₁.warmed)
  cases ho9
  obtain ⟨vm2, X2, st2⟩ := hct U1 _ _ _ x ce XU (by rw [e1]; exact hce) hcv (by rw [e2]; exact hcK)
  have h0 : ((T.setVm vm₁).calling (F0 m pc ls rest) mk (Value.ref b :: As).toArray).heap = H := hT
  have hz : H.size ≤ t.heap.size := by rw [← h0]; exact hF.1
  obtain ⟨t2, a1, b1⟩ := kk x M1 t.heap (locs ++ L) hpo hm9
    ⟨Nat.le_trans hS.1 hz, fun q h1 h2 => by rw [hF.2 q (by rw [h0]; exact Nat.lt_of_lt_of_le h1 hS.1) h2, h0]; exact hS.2.1 q h1 h2, fun q hq => by
      rcases List.mem_append.mp hq with h | h
      · exact hS.2.2 q h
      · exact hL q h⟩ (U1.setVm vm2) e1 X2
  exact ⟨t2, hstep₁ _ (fun acts => by rw [doInvoke_state]; exact st.trans (st2 _ a1)), b1⟩
end BMU
