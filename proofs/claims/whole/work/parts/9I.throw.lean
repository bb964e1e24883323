/-! throws: the stand seen from a later state of the same method; an exception made and thrown; a call that throws; an exception caught -/
theorem bm_same0 {s t : State} {k n : Nat} (h : s.sameButNew t [] k n) (q : Nat) (hq : q < s.heap.size) : t.heap[q]? = s.heap[q]? := by
  have h1 : s.heap[q]? = some s.heap[q] := Array.getElem?_eq_getElem hq
  obtain ⟨c', e1, e2, -, e4⟩ := h.2.2.2.2.2 q _ h1
  have e5 : c'.slots = s.heap[q].slots := Array.ext_getElem? (fun i => e4 i (fun z => absurd z List.not_mem_nil))
  rw [e1, h1, e2, e5]
theorem bm_M.ext {D : va_G} {base : Nat} {M : bm_Map} {H H1 : Heap} (h : bm_M D base M H) (oq : ∀ q : Nat, q < H.size → H1[q]? = H[q]?) : bm_M D base M H1 := by
  obtain ⟨ws, hP, hD, hw⟩ := h
  exact ⟨ws, hP.kept (fun k x hx => oq x.1 ((hP k x hx).lt)), hD, hw⟩
section BMT
variable {p : Program} {l : Launch} {e : Env} {R : Room} {s : State} {m : MethodId} {args : Array Value} {below : List Frame} {meth : Method} {c : Code} {T : State} {locs : List Loc} {cells slots : Nat}
abbrev bm_re (T : State) (m : MethodId) (args : Array Value) (below : List Frame) : State := T.setFrames (.invoking m args :: below)
theorem bm_root (X : Stand p l e R s m args below meth c T locs cells slots) {kc ks : Nat} (hc : cells + kc ≤ R.cells) (hs : slots + ks ≤ R.slots) : Stand p l e ({ frames := R.frames, cells := kc, slots := ks, locals := R.locals } : Room) (bm_re T m args below) m args below meth c T [] 0 0 := by
  obtain ⟨g0, hfr⟩ := X.frames_eq
  have hcur := State.cur_lt_of_frames hfr
  have hf : (bm_re T m args below).frames = .invoking m args :: below := State.frames_setFrames _ hcur
  obtain ⟨t, ht, -⟩ := State.frames_cons hfr
  obtain ⟨t2, ht2, -⟩ := State.frames_cons hf
  have hcur2 : (bm_re T m args below).cur < (bm_re T m args below).threads.size := State.cur_lt_of_frames hf
  have hmm : ∀ k, T.vm.method? k = s.vm.method? k := fun k => X.warmed.alike.method? k
  refine ⟨X.admits, X.cas, X.clock, hf, ?_, ?_, X.method', X.code, X.here, X.tail, State.WarmedH.refl (bm_re T m args below), (State.stackLimits_setFrames _ _ _).symm, (State.stackBytes_setFrames _ _).symm, ?_⟩
  · have h1 := X.room
    have h2 := X.heapSize
    have h3 := X.used
    have e1 : (bm_re T m args below).localsInUse = s.localsInUse := by rw [State.localsInUse_invoking hf X.method' X.code, State.localsInUse_invoking X.frames X.method X.code]
    have e2 : (bm_re T m args below).frames.length = s.frames.length := by rw [hf, X.frames]
    have e3 : e.platform.stackLimits (bm_re T m args below).me = e.platform.stackLimits s.me := (State.stackLimits_setFrames _ _ _).trans X.limits
    have e4 : (bm_re T m args below).me.stackBytes = s.me.stackBytes := (State.stackBytes_setFrames _ _).trans X.bytes
    have e5 : (bm_re T m args below).heap.size = T.heap.size := rfl
    have e6 : (bm_re T m args below).slotsUsed = T.slotsUsed := rfl
    have e7 : (bm_re T m args below).slotsTrue = true := X.book
    simp only [State.hasRoom, Bool.and_eq_true, decide_eq_true_eq] at h1 ⊢
    rw [e1, e2, e3, e4, e5, e6]
    obtain ⟨⟨⟨⟨a1, a2⟩, a3⟩, a4⟩, a5⟩ := h1
    exact ⟨⟨⟨⟨a1, a2⟩, by omega⟩, by omega⟩, e7⟩
  · have h1 := X.hears
    have hcd : ∀ k, (bm_re T m args below).code? k = s.code? k := fun k => by
      rw [State.code?_eq, State.code?_eq]
      show (T.vm.method? k).bind _ = _
      rw [hmm k]
    have hmd : (bm_re T m args below).vm.method? m = s.vm.method? m := hmm m
    cases below with
    | nil => simp only [State.hears] at h1 ⊢; rw [hmd]; exact h1
    | cons f r => cases f <;> simp only [State.hears] at h1 ⊢ <;> first | exact h1 | (rw [hcd]; exact h1) | (rw [hmd]; exact h1)
  · have h1 := (State.sameButNew.refl (bm_re T m args below) ht2).setFrames T.frames hcur2
    have h2 : (bm_re T m args below).setFrames T.frames = T := by rw [State.setFrames_setFrames, State.setFrames_self ht]
    rw [h2] at h1
    exact h1
/-- an exception of the class K, made and thrown at pc -/
theorem bm_thrown (X : Stand p l e R s m args below meth c T locs cells slots) (hexec : p.tables.exec = Jvm.exec) (htr : e.platform.stackTraces = false) {index ic : Nat} {K own : String} {names : List String}
    (hown : s.vm.findClass own = some m.cls) (hK : Bundle.fit K = true) (hN : ∀ n ∈ names, Bundle.fit n = true) (hw : ∀ a ∈ Bundle.ownAtoms0 own ic K names, a.before args T = true)
    (hl : (Cond.classLink own index K).before args T = true) (hi : (Cond.instantiable K 6).before args T = true) (hini : (Cond.initialized K).before args T = true)
    {pc : Nat} {ls : Array Slot} {rest : List Value} (hls : ls.size = c.maxLocals) (h0 : decode c.code pc = .ok (.new index, 3)) (h3 : decode c.code (pc + 3) = .ok (.dup, 1)) (h4 : decode c.code (pc + 4) = .ok (.invokespecial ic, 3)) (h7 : decode c.code (pc + 7) = .ok (.athrow, 1))
    (hnoh : c.exceptionTable.isEmpty = true) (hlk : meth.locks = false) (hc : cells + 1 ≤ R.cells) (hs : slots + 6 ≤ R.slots) (hfr : names.length + 3 < R.frames) (hlo : (rest.map fun v => v.category).sum + (13 * (names.length + 1) + 42) ≤ R.locals) :
    ∃ U : State, Steps p.tables e below (T.setTop (F0 m pc ls rest)) U ∧ U.status = .running ∧ Ended U below (.threw T.heap.size) ∧ s.WarmedH U.vm ∧ s.sameButNew ({ U with vm := s.vm } : State) locs (cells + 1) (slots + 6) ∧ U.heap.size = T.heap.size + 1 ∧ (∀ q, q < T.heap.size → U.heap[q]? = T.heap[q]?) ∧ ∃ ce, U.heap[T.heap.size]? = some ce ∧ U.vm.findClass K = some ce.cls ∧ ce.vm = .none := by
  have X1 := bm_root X (kc := 1) (ks := 6) hc hs
  have hown1 : (bm_re T m args below).vm.findClass own = some m.cls := by
    show T.vm.findClass own = _
    rw [X.warmed.alike.findClass]
    exact hown
  have w0 : ∀ w : Cond, w.before args T = true → w.before args (bm_re T m args below) = true := fun w h => by rw [Cond.before_setFrames]; exact h
  obtain ⟨vm1, cX, kX, hfX, hkX, -, -, X2, st1⟩ := X1.newCold hexec (own := own) (C := K) (index := index) (n := 6) hown1 (w0 _ hl) (w0 _ hi) (w0 _ hini) (g := F0 m pc ls rest) rfl h0 (Nat.le_refl _) (Nat.le_refl _)
  generalize hT2 : (T.setVm vm1).pushCell { cls := cX, slots := kX.instanceTypes.map defaultValue, vm := .none } = T2 at X2 st1
  have hcell : T2.heap[T.heap.size]? = some (freshCell cX kX) := by rw [← hT2]; exact State.heap_pushCell_size _ _
  obtain ⟨U, hsteps, hrun, hend, hW, hsame, ce, hce, O⟩ := X2.ctorThrow0 hexec htr (own := own) (cls := K) (names := names) (ic := ic) hown1 hK hN (fun a ha => w0 a (hw a ha)) (fun y hy => absurd hy List.not_mem_nil) hfX hkX hcell (Nat.le_refl _)
    (g := F0 m (pc + 4) ls (.ref T.heap.size :: .ref T.heap.size :: rest)) rfl hls rfl rfl (rest := rest) rfl h4 h7 (covers_of_empty hnoh _) hfr (by show 2 * 0 + (1 + (rest.map fun v => v.category).sum) + (13 * (names.length + 1) + 41) ≤ R.locals; omega) hlk
  have hlt : T.heap.size < U.heap.size := (Array.getElem?_eq_some_iff.mp hce).1
  have hup : U.heap.size ≤ T.heap.size + 1 := hsame.2.2.1
  refine ⟨U, ?_, hrun, hend, State.WarmedH.trans X.warmed hW, ?_, by omega, fun q hq => bm_same0 hsame q hq, ce, hce, ?_, O.vm⟩
  · refine st1 _ ?_
    show Steps p.tables e below (T2.setTop (F0 m (pc + 3) ls (.ref T.heap.size :: rest))) _
    jvm_step X2.here [X2.here.top, hexec, h3, Value.category]
    exact hsteps
  · obtain ⟨a1, a2, a3, a4, a5, a6⟩ := hsame
    have h1 : (T.setVm s.vm).sameButNew ({ U with vm := s.vm } : State) [] 1 6 := by
      refine ⟨?_, a2, a3, a4, a5, a6⟩
      have h2 := congrArg (fun z : State => ({ z with vm := s.vm } : State)) a1
      refine h2.trans ?_
      show ({ (bm_re T m args below).setFrames U.frames with heap := U.heap, slotsUsed := U.slotsUsed, vm := s.vm } : State) = _
      rw [State.setFrames_setFrames]
      rfl
    have h3 := X.same.trans h1
    rw [List.append_nil] at h3
    exact h3
  · have h1 : T.vm.findClass K = some ce.cls := O.cls
    rw [hW.alike.findClass]
    exact h1
/-- a catch entry that covers the pc: its class is resolved, and then asked -/
theorem bm_go1 {Q : Handler → Pre} {E : CtlPost} {d : Bool} {acts : List Action} {f : JFrame} {a : Addr} {x : ExceptionTableEntry} {t : List ExceptionTableEntry} {cx : ClassId} {ce : Cell} (hx : covers x f.pc = true) (h0 : x.catchType ≠ 0)
    (hl : s.vm.ClassLinks e.platform f.method.cls x.catchType cx) (hce : s.heap[a]? = some ce) (hobj : ∀ k, ce.vm ≠ .statics k) (hk : ∃ k, s.vm.classes[ce.cls]? = some k) (hcx : ∃ k, s.vm.classes[cx]? = some k) :
    wp (findHandler.go f a (x :: t)) Q E e d acts s ↔ if s.vm.assignable ce.cls cx = true then Q (.found x.handlerPc) d acts (s.setVm (s.vm.noted f.method.cls x.catchType (.cls cx))) else wp (findHandler.go f a t) Q E e d acts (s.setVm (s.vm.noted f.method.cls x.catchType (.cls cx))) := by
  have hal : s.vm.Alike (s.vm.noted f.method.cls x.catchType (.cls cx)) := (Vm.Alike.refl s.vm).noted _ _ _
  obtain ⟨r1, r2⟩ := (resolveClass_links e.toSetting hl).op (op := VmOp.resolveClass f.method.cls x.catchType) rfl
  obtain ⟨k1, hk1⟩ := hk
  obtain ⟨k2, hk2⟩ := hcx
  obtain ⟨j1, hj1, -⟩ := hal.2.2 _ _ hk1
  obtain ⟨j2, hj2, -⟩ := hal.2.2 _ _ hk2
  have has := hal.assignable ce.cls cx
  simp only [covers] at hx
  cases hfit : s.vm.assignable ce.cls cx <;> rw [hfit] at has <;> simp [findHandler.go, hx, h0, r1, r2, hce, hobj, hj1, hj2, has, VmOp.dirties, VmOp.acts]
/-- what the search gives, and the tables that it leaves -/
def bm_Fd (e : Env) (s : State) (f : JFrame) (a : Addr) (pc : Nat) (vm1 : Vm) : Prop := ∀ (Q : Handler → Pre) (E : CtlPost) (d : Bool) (acts : List Action), wp (findHandler f a) Q E e d acts s ↔ Q (.found pc) d acts (s.setVm vm1)
theorem bm_land {g : JFrame} {a : Addr} (h : At T g.method c below) {pc : Nat} {vm1 : Vm} (hfd : bm_Fd e ((T.setTop g).pushFrame (.throwing a)) g a pc vm1) {tb : Tables} {target : State} (hrest : Steps tb e below ((T.setVm vm1).setTop { g with pc := pc, stack := [.ref a] }) target) : Steps tb e below ((T.setTop g).pushFrame (.throwing a)) target := by
  obtain ⟨hgo, hw⟩ := h.throwing a
  refine Steps.head hgo hw ?_
  have hst : (stepThrowing e ((T.setTop g).pushFrame (.throwing a)) a (.java g :: T.frames.tail)).Is ((((T.setTop g).pushFrame (.throwing a)).setVm vm1).setFrames (.java { g with pc := pc, stack := [.ref a] } :: T.frames.tail)) [] := by
    simp only [stepThrowing, searchFrame, vmDo]
    generalize hr : Sem.go _ e false [] ((T.setTop g).pushFrame (.throwing a)) = res
    obtain ⟨as, rfl, ha⟩ := Sem.eq_ok_of hr (a := Handler.found pc) (s' := ((T.setTop g).pushFrame (.throwing a)).setVm vm1) (acts' := []) (by simp [hfd _ _ _ _])
    exact ⟨rfl, ha⟩
  rw [stepThread_throwing (frames_entered h.top _), hst.1]
  obtain ⟨g0, hg0⟩ := Option.isSome_iff_exists.mp h.top
  obtain ⟨r, hr⟩ := State.topJava?_eq_some.mp hg0
  have hr1 : (T.setVm vm1).frames = .java g0 :: r := hr
  rw [State.setTop_of_frames _ hr1] at hrest
  have h9 : (((T.setTop g).pushFrame (.throwing a)).setVm vm1).setFrames (.java { g with pc := pc, stack := [.ref a] } :: T.frames.tail) = (T.setVm vm1).setFrames (.java { g with pc := pc, stack := [.ref a] } :: r) := by
    rw [State.pushFrame, State.setTop_of_frames _ hr, State.setFrames_setFrames, hr]
    show ((T.setVm vm1).setFrames _).setFrames _ = _
    rw [State.setFrames_setFrames]
    rfl
  rw [h9]
  exact hrest
abbrev bm_ent (h : ExceptionTableEntry) : Nat × Nat × Nat × Nat := (h.startPc, h.endPc, h.handlerPc, h.catchType)
theorem bm_linkS (X : Stand p l e R s m args below meth c T locs cells slots) {own K : String} {ty : Nat} (hown : s.vm.findClass own = some m.cls) (hl : (Cond.classLink own ty K).before args s = true) :
    ∃ cx, s.vm.findClass K = some cx ∧ (∀ V : Vm, s.WarmedH V → V.ClassLinks e.platform m.cls ty cx ∧ (∃ k, V.classes[cx]? = some k) ∧ s.WarmedH (V.noted m.cls ty (.cls cx))) := by
  have hpl : e.platform.magicAccessors = ({} : Platform).magicAccessors := by rw [X.admits.platform]
  obtain ⟨cx, hcx, hcl⟩ := Cond.classLink_spec hown hl e.platform hpl
  refine ⟨cx, hcx, fun V hV => ?_⟩
  obtain ⟨dk, _, _, kt, hd, _, _, _, _, hkt, _, hopen⟩ := hcl.here
  obtain ⟨kt', hkt', -⟩ := hV.alike.2.2 _ _ hkt
  exact ⟨hV.classLinks hcl, ⟨kt', hkt'⟩, hV.noted hd hopen (State.rightAt_cls hcl)⟩
/-- the first entry catches -/
theorem bm_catch1 (X : Stand p l e R s m args below meth c T locs cells slots) {x : Addr} {ce : Cell} (hce : T.heap[x]? = some ce) (hvm : ce.vm = .none) {g : JFrame} (hg : g.method = m) {own K : String} (hown : s.vm.findClass own = some m.cls) {c0 c1 hp ty : Nat} {r : List (Nat × Nat × Nat × Nat)}
    (ht : c.exceptionTable.toList.map bm_ent = (c0, c1, hp, ty) :: r) (hpc : c0 ≤ g.pc ∧ g.pc < c1) (hty : ty ≠ 0) (hl : (Cond.classLink own ty K).before args s = true) (hcast : (Cond.castable K K).before args s = true) (hcls : s.vm.findClass K = some ce.cls) :
    ∃ vm1, Stand p l e R s m args below meth c (T.setVm vm1) locs cells slots ∧ ∀ target, Steps p.tables e below ((T.setVm vm1).setTop { g with pc := hp, stack := [.ref x] }) target → Steps p.tables e below ((T.setTop g).pushFrame (.throwing x)) target := by
  obtain ⟨cx, hcx, hV⟩ := bm_linkS X hown hl
  cases hcx.symm.trans hcls
  obtain ⟨q1, q2, hq1, hq2, hasg⟩ := Cond.castable_spec hcast
  cases hq1.symm.trans hcls
  cases hq2.symm.trans hcls
  obtain ⟨v1, v2, v3⟩ := hV T.vm X.warmed
  have hobj : ∀ k, ce.vm ≠ .statics k := fun k z => by rw [hvm] at z; cases z
  cases hx : c.exceptionTable.toList with
  | nil => rw [hx] at ht; cases ht
  | cons e0 t0 =>
    rw [hx] at ht
    have e1 := (List.cons.inj ht).1
    have a1 : e0.startPc = c0 := congrArg Prod.fst e1
    have a2 : e0.endPc = c1 := congrArg (fun z => z.2.1) e1
    have a3 : e0.handlerPc = hp := congrArg (fun z => z.2.2.1) e1
    have a4 : e0.catchType = ty := congrArg (fun z => z.2.2.2) e1
    subst hg
    refine ⟨T.vm.noted g.method.cls ty (.cls ce.cls), X.noted v3, fun target hrest => bm_land X.here (fun Q E d acts => ?_) hrest⟩
    have hA : ((T.setTop g).pushFrame (.throwing x)).vm.assignable ce.cls ce.cls = true := (X.warmed.alike.assignable ce.cls ce.cls).trans hasg
    rw [W.findHandler_eq (s := (T.setTop g).pushFrame (.throwing x)) (meth := meth) (code := c) X.method' X.code, hx]
    refine (bm_go1 (s := (T.setTop g).pushFrame (.throwing x)) (cx := ce.cls) (ce := ce) (by simp [covers, a1, a2, hpc]) (by rw [a4]; exact hty) (by rw [a4]; exact v1) hce hobj v2 v2).trans ?_
    rw [if_pos hA, a3, a4]
    exact Iff.rfl
/-- the first entry is passed, the second catches -/
theorem bm_catch2 (X : Stand p l e R s m args below meth c T locs cells slots) {x : Addr} {ce : Cell} (hce : T.heap[x]? = some ce) (hvm : ce.vm = .none) {g : JFrame} (hg : g.method = m) {own K K0 : String} (hown : s.vm.findClass own = some m.cls) {c0 c1 hp0 ty0 c2 c3 hp ty : Nat} {r : List (Nat × Nat × Nat × Nat)}
    (ht : c.exceptionTable.toList.map bm_ent = (c0, c1, hp0, ty0) :: (c2, c3, hp, ty) :: r) (hpc : (c0 ≤ g.pc ∧ g.pc < c1) ∧ (c2 ≤ g.pc ∧ g.pc < c3)) (hty0 : ty0 ≠ 0) (hty : ty ≠ 0) (hl0 : (Cond.classLink own ty0 K0).before args s = true) (hl : (Cond.classLink own ty K).before args s = true) (hcast : (Cond.castable K K).before args s = true) (hcls : s.vm.findClass K = some ce.cls) (hno : ∀ k, s.vm.findClass K0 = some k → s.vm.assignable ce.cls k = false) :
    ∃ vm1, Stand p l e R s m args below meth c (T.setVm vm1) locs cells slots ∧ ∀ target, Steps p.tables e below ((T.setVm vm1).setTop { g with pc := hp, stack := [.ref x] }) target → Steps p.tables e below ((T.setTop g).pushFrame (.throwing x)) target := by
  obtain ⟨cx, hcx, hV⟩ := bm_linkS X hown hl
  cases hcx.symm.trans hcls
  obtain ⟨cx0, hcx0, hV0⟩ := bm_linkS X hown hl0
  have hn := hno _ hcx0
  obtain ⟨q1, q2, hq1, hq2, hasg⟩ := Cond.castable_spec hcast
  cases hq1.symm.trans hcls
  cases hq2.symm.trans hcls
  obtain ⟨u1, u2, u3⟩ := hV0 T.vm X.warmed
  obtain ⟨-, v2, -⟩ := hV T.vm X.warmed
  obtain ⟨w1, w2, w3⟩ := hV _ u3
  have hobj : ∀ k, ce.vm ≠ .statics k := fun k z => by rw [hvm] at z; cases z
  cases hx : c.exceptionTable.toList with
  | nil => rw [hx] at ht; cases ht
  | cons e0 t0 =>
    rw [hx] at ht
    have e1 := (List.cons.inj ht).1
    have e2 := (List.cons.inj ht).2
    have a1 : e0.startPc = c0 := congrArg Prod.fst e1
    have a2 : e0.endPc = c1 := congrArg (fun z => z.2.1) e1
    have a4 : e0.catchType = ty0 := congrArg (fun z => z.2.2.2) e1
    cases hy : t0 with
    | nil => rw [hy] at e2; cases e2
    | cons f0 t1 =>
      rw [hy] at e2
      have e3 := (List.cons.inj e2).1
      have b1 : f0.startPc = c2 := congrArg Prod.fst e3
      have b2 : f0.endPc = c3 := congrArg (fun z => z.2.1) e3
      have b3 : f0.handlerPc = hp := congrArg (fun z => z.2.2.1) e3
      have b4 : f0.catchType = ty := congrArg (fun z => z.2.2.2) e3
      subst hg
      refine ⟨(T.vm.noted g.method.cls ty0 (.cls cx0)).noted g.method.cls ty (.cls ce.cls), X.noted w3, fun target hrest => bm_land X.here (fun Q E d acts => ?_) hrest⟩
      have hA : ¬ ((T.setTop g).pushFrame (.throwing x)).vm.assignable ce.cls cx0 = true := fun z => by
        have z1 : T.vm.assignable ce.cls cx0 = true := z
        rw [X.warmed.alike.assignable, hn] at z1
        cases z1
      rw [W.findHandler_eq (s := (T.setTop g).pushFrame (.throwing x)) (meth := meth) (code := c) X.method' X.code, hx, hy]
      refine (bm_go1 (s := (T.setTop g).pushFrame (.throwing x)) (cx := cx0) (ce := ce) (by simp [covers, a1, a2, hpc]) (by rw [a4]; exact hty0) (by rw [a4]; exact u1) hce hobj v2 u2).trans ?_
      rw [if_neg hA, a4]
      have hB : (((T.setTop g).pushFrame (.throwing x)).setVm (((T.setTop g).pushFrame (.throwing x)).vm.noted g.method.cls ty0 (.cls cx0))).vm.assignable ce.cls ce.cls = true := (u3.alike.assignable ce.cls ce.cls).trans hasg
      refine (bm_go1 (s := ((T.setTop g).pushFrame (.throwing x)).setVm (((T.setTop g).pushFrame (.throwing x)).vm.noted g.method.cls ty0 (.cls cx0))) (cx := ce.cls) (ce := ce) (by simp [covers, b1, b2, hpc]) (by rw [b4]; exact hty) (by rw [b4]; exact w1) hce hobj w2 w2).trans ?_
      rw [if_pos hB, b3, b4]
      exact Iff.rfl
end BMT
