/-! methods with a table of handlers: their head; a static call of one; contracts weakened -/
abbrev bm_wl (y : MethodName) (c : ByteArray) (n : Nat) (r : Option FieldType) (tb : List (Nat × Nat × Nat × Nat)) : List Cond := Cond.codeWith y c n r tb :: bm_big
theorem bm_hisL {y : MethodName} {cc : ByteArray} {maxL : Nat} {ret : Option FieldType} {tb : List (Nat × Nat × Nat × Nat)} (args : Array Value) (s : State) (m : MethodId) (h : ∀ w ∈ bm_wl y cc maxL ret tb, w.before args s = true) (hn : s.methodNamed? y = some m) : ∃ meth c, s.vm.method? m = some meth ∧ meth.code = some c ∧ c.code = cc ∧ c.maxLocals = maxL ∧ meth.sig.returnType = ret ∧ meth.locks = false ∧ c.exceptionTable.toList.map bm_ent = tb := by
  obtain ⟨m1, meth, c, h0, h1, h2, h3, h4, h5, h6, h7, -⟩ := Cond.codeWith_spec (h _ List.mem_cons_self)
  cases hn.symm.trans h0
  exact ⟨meth, c, h1, h2, h3, h4, h6, h7, h5⟩
theorem bm_ofL {l : Launch} {y : MethodName} {rm : Room} {D : va_G} {ct : Nat → ClassId} {base : Nat} {ad : Nat → Nat} {M : bm_Map} {sz : Nat} {av : List Value} {post : Option Value → bm_Map → Nat → Prop} {mc ms : Nat} {cc : ByteArray} {maxL : Nat} {ret : Option FieldType} {tb : List (Nat × Nat × Nat × Nat)}
    (hy : plainFor y = true) (hlen : (lg_sl av).length ≤ maxL)
    (body : ∀ (p : Program) (e : Env) (s : State) (m : MethodId) (args : Array Value) (below : List Frame) (meth : Method) (c : Code), p.tables.exec = Jvm.exec → c.code = cc → meth.sig.returnType = ret → meth.locks = false → (∀ w ∈ bm_big, w.before args s = true) → s.vm.findClass y.cls = some m.cls → c.maxLocals = maxL → meth.name = y.name →
      ∀ ls : Array Slot, lv_has ls maxL (lv_args 0 av) → s.heap.size = sz → bm_M D base M s.heap → bm_G D ct base ad s → ∀ (R : Room) (Q : State → Prop), rm = R → MQ below (bm_Post D base post) args s mc ms (bm_A base) = Q → c.exceptionTable.toList.map bm_ent = tb → W p l e R s m args below meth c s.heap [] 0 0 Q (F0 m 0 ls [])) :
    bm_MG l y (bm_wl y cc maxL ret tb) rm (bm_Pre D ct base ad M sz av) (bm_Post D base post) mc ms (bm_A base) := by
  refine bm_MG.ofW hy (fun args s m h hn => by obtain ⟨meth, c, h1, h2, h3, h4, h5, h6, -⟩ := bm_hisL args s m h hn; exact ⟨meth, c, h1, h2, h3, h4, h5, h6⟩) ?_
  intro p e s m args below meth c hx hb hr hlk hws hn hm hc hml ha hv
  obtain ⟨rfl, hsz, hM, hG⟩ := hv
  rw [lg_entry_eq]
  have htb : c.exceptionTable.toList.map bm_ent = tb := by
    obtain ⟨m1, c1, h1, h2, -, -, -, -, h3⟩ := bm_hisL _ s m hws hn
    cases hm.symm.trans h1
    cases hc.symm.trans h2
    exact h3
  exact bm_mono bm_MQ.of (body p e s m _ below meth c hx hb hr hlk (fun w h => hws w (List.mem_cons_of_mem _ h)) (findClass_of_methodNamed hn) hml (name_of_methodNamed hn hm).1 _ (lv_entry av hlen) hsz hM hG _ _ rfl rfl htb)
theorem bm_MG.post {l : Launch} {y : MethodName} {ws : List Cond} {rm : Room} {Pc : Array Value → State → Prop} {D : va_G} {base : Nat} {post post1 : Option Value → bm_Map → Nat → Prop} {mc ms : Nat} {free : Addr → Prop} (hM : bm_MG l y ws rm Pc (bm_Post D base post) mc ms free) (h : ∀ (v : Option Value) (M1 : bm_Map) (H : Heap), post v M1 H.size → bm_M D base M1 H → post1 v M1 H.size) : bm_MG l y ws rm Pc (bm_Post D base post1) mc ms free := by
  intro p e ha hc hk s m args below hf hr hb hal hn hh hro hws hP
  obtain ⟨n, o, a1, a2, a3, ⟨v, M1, b1, b2, b3, b4⟩, a5⟩ := hM p e ha hc hk s m args below hf hr hb hal hn hh hro hws hP
  exact ⟨n, o, a1, a2, a3, ⟨v, M1, b1, h v M1 _ b2 b3, b3, b4⟩, a5⟩
theorem bm_MG.asM {l : Launch} {y : MethodName} {ws : List Cond} {rm : Room} {D : va_G} {ct : Nat → ClassId} {base : Nat} {ad : Nat → Nat} {M : bm_Map} {sz : Nat} {av : List Value} {Qc : Array Value → State → Outcome → State → Prop} {mc ms : Nat} {free : Addr → Prop} (h : (∃ H : Heap, bm_M D base M H ∧ H.size = sz) → bm_MG l y ws rm (bm_Pre D ct base ad M sz av) Qc mc ms free) : bm_MG l y ws rm (bm_Pre D ct base ad M sz av) Qc mc ms free := by
  intro p e ha hc hk s m args below hf hr hb hal hn hh hro hws hP
  exact h ⟨s.heap, hP.2.2.1, hP.2.1⟩ p e ha hc hk s m args below hf hr hb hal hn hh hro hws hP
section BMV
variable {p : Program} {l : Launch} {e : Env} {R : Room} {s : State} {m : MethodId} {args : Array Value} {below : List Frame} {meth : Method} {c : Code} {H : Heap} {locs : List Loc} {cells slots : Nat} {Q : State → Prop}
variable {y : MethodName} {bytes cc : ByteArray} {maxL nL mc ms n index : Nat} {ret : Option FieldType} {rm : Room} {Pc : Array Value → State → Prop} {Qc : Array Value → State → Outcome → State → Prop} {free : Addr → Prop} {own : String} {As rest : List Value} {g : JFrame} {tb : List (Nat × Nat × Nat × Nat)}
theorem bm_wlW (hts : ∀ w ∈ bm_big, w.before args s = true) (hc : Cond.codeWith y bytes maxL ret tb ∈ bm_big) : ∀ w ∈ bm_wl y bytes maxL ret tb, ∀ (a' : Array Value) (V : State), s.WarmedH V.vm → w.before a' V = true :=
  pay_in hts (fun w hw => (List.mem_cons.mp hw).elim (fun e => by subst e; exact ⟨hc, bm_bigG hc⟩) (fun h1 => ⟨h1, bm_bigG h1⟩))
theorem bm_runSL (S : CallFix p m c cc nL s args bm_big own) (hM : bm_MG l y (bm_wl y bytes maxL ret tb) rm Pc Qc mc ms free) (hret : ∀ a st o t, Qc a st o t → ∃ v, o = .returned v) (h1 : Cond.methodLink own index y ∈ bm_big) (h2 : Cond.static y ∈ bm_big) (h3 : Cond.initialized y.cls ∈ bm_big) (h4 : Cond.codeWith y bytes maxL ret tb ∈ bm_big) (hrc : rm.cells = mc) (hrs : rm.slots = ms)
    (hd : y.cls ≠ "java/lang/invoke/MethodHandle" ∧ y.cls ≠ "java/lang/invoke/VarHandle" ∧ (parseMethodDescriptor y.desc).map (fun d => d.parameters.length) = some n) (hR : rm.frames + 1 ≤ R.frames ∧ 8 + (maxL + 11) + rm.locals ≤ R.locals) (hp : PreS s H Pc As)
    (hg : g.method = m) (hn : As.length = n) (hsize : g.locals.size = nL) (hstack : g.stack = As.reverse ++ rest) (hW : 2 * g.monitorRoom + (rest.map fun v => v.category).sum ≤ 8) (hdg : decode cc g.pc = .ok (.invokestatic index, 3)) (hf : cells + mc ≤ R.cells ∧ slots + ms ≤ R.slots) :
    va_Run p l e R s m args below meth c H locs cells slots mc ms g rest (Qc As.toArray) (free) := by
  obtain ⟨hx, hb, hml, ho, hts⟩ := S
  have hK : Back l R p e below s args y 3 8 (PreOf R mc ms Pc) (PostOf Qc mc ms free) := bm_backR hM hret hp.1 hrc hrs hR.1 hR.2 (bm_wlW hts h4) (fun args s m h hn => by obtain ⟨meth, c, q1, q2, -, q4, -⟩ := bm_hisL args s m h hn; exact ⟨meth, c, q1, q2, q4⟩)
  obtain ⟨-, hPc⟩ := hp
  intro T hT X
  obtain ⟨mk, methM, cM, hn0, hm0, hc0, -, -, -, -, -, hsig⟩ := Cond.codeWith_spec (hts _ h4)
  have hstatic := Cond.static_spec hn0 hm0 (hts _ h2)
  obtain ⟨kP, hkP, -⟩ := className_of_methodNamed hn0
  have hinitP := Cond.initialized_spec (findClass_of_methodNamed hn0) hkP (hts _ h3)
  have hlen : As.length = methM.sig.parameters.length := hn.trans (by have h9 := hd.2.2; rw [hsig] at h9; exact (Option.some.inj h9).symm)
  obtain ⟨vm₁, X₁, hstep₁⟩ := X.invokestatic hx ho (hts _ h1) hn0 hm0 hstatic hkP hinitP ⟨hd.1, hd.2.1⟩ (g := g) hg (argsL := As) (rest := rest) hlen hstack (by rw [hb]; exact hdg)
  obtain ⟨v, ⟨U', l2, c2, s2⟩, X', ⟨g', mk', t, L, e1, e2, hq, q1, hL, q2, q3⟩, hsteps⟩ := hK m meth c ⟨T.setVm vm₁, locs, cells, slots⟩ { g with stack := rest } (.invokestatic index) mk As.toArray X₁ hg (hsize.trans hml.symm) (by rw [hb]; exact hdg) hW (X₁.named hn0) ⟨hf.1, hf.2, hPc (T.setVm vm₁) hT X₁.warmed⟩
  dsimp only [Pt.U, Pt.locs, Pt.cells, Pt.slots] at X' e1 e2 q1 q2 q3 hsteps
  subst q1; subst q2; subst q3
  exact ⟨v, (T.setVm vm₁).calling g' mk' As.toArray, t, U', L, hT, X', hL, e1, e2, hq, fun target h => hstep₁ _ (fun acts => by rw [doInvoke_state]; exact hsteps.trans h)⟩
end BMV
