theorem bm_backR {l : Launch} {R : Room} {p : Program} {e : Env} {below : List Frame} {s : State} {sargs : Array Value} {y : MethodName} {len Wt : Nat} {ws : List Cond} {rm : Room} {Pc : Array Value → State → Prop} {Qc : Array Value → State → Outcome → State → Prop} {mc ms : Nat} {free : Addr → Prop} {maxL : Nat}
    (hM : bm_MG l y ws rm Pc Qc mc ms free) (hret : ∀ a st o t, Qc a st o t → ∃ v, o = .returned v) (hblind : FrameBlind Pc) (hrc : rm.cells = mc) (hrs : rm.slots = ms) (hframes : rm.frames + 1 ≤ R.frames) (hlocals : Wt + (maxL + 11) + rm.locals ≤ R.locals)
    (hws : ∀ w ∈ ws, ∀ (a' : Array Value) (V : State), s.WarmedH V.vm → w.before a' V = true)
    (his : ∀ (args : Array Value) (s : State) (m : MethodId), (∀ w ∈ ws, w.before args s = true) → s.methodNamed? y = some m → ∃ meth c, s.vm.method? m = some meth ∧ meth.code = some c ∧ c.maxLocals = maxL) :
    Back l R p e below s sargs y len Wt (PreOf R mc ms Pc) (PostOf Qc mc ms free) := by
  intro m meth c A g ig mk a X hg hsize hdg hW hn hp
  obtain ⟨U, Ls, c0, s0⟩ := A
  dsimp only [Pt.U, Pt.locs, Pt.cells, Pt.slots] at X hn ⊢
  obtain ⟨h4, h5, hp⟩ := hp
  obtain ⟨o, s₂, L, hsteps, hend, hq, hE, hL⟩ := bm_goG (maxL := maxL) hM hblind hrc hrs hframes hlocals hws his X hg hsize hdg hW hn h4 h5 hp
  obtain ⟨v, rfl⟩ := hret _ _ _ _ hq
  obtain ⟨hW₂, e2, q2, q3, q4, q5, q6⟩ := id hE
  have h : At U g.method c below := by rw [hg]; exact X.here
  have e3 : s₂ = ({ (U.calling g mk a).setFrames s₂.frames with heap := s₂.heap, slotsUsed := s₂.slotsUsed } : State).setVm s₂.vm := by
    have : s₂ = ({ s₂ with vm := (U.calling g mk a).vm } : State).setVm s₂.vm := rfl
    rw [e2] at this
    exact this
  obtain ⟨c₂, i₂, len₂, hc₂, hd₂, hf₂⟩ := hend
  have hW' : U.WarmedH s₂.vm := hW₂
  have hcc : c₂ = c := by
    have h1 : s₂.code? g.method = U.code? g.method := by
      rw [State.code?_eq, State.code?_eq, hW'.alike.method?]
    exact Option.some.inj (hc₂.symm.trans (h1.trans h.code))
  subst hcc
  have hlen : len₂ = len := by rw [hdg] at hd₂; cases hd₂; rfl
  subst hlen
  obtain ⟨g₀, hg0⟩ := Option.isSome_iff_exists.mp h.top
  obtain ⟨r, hr⟩ := State.topJava?_eq_some.mp hg0
  have hrb : r = below := by
    have := X.tail
    rw [hr] at this
    exact this
  have hs₂ : s₂ = (({ U with heap := s₂.heap, slotsUsed := s₂.slotsUsed } : State).setVm s₂.vm).setTop { g with pc := g.pc + len₂, stack := v.toList ++ g.stack } := by
    have hr' : (({ U with heap := s₂.heap, slotsUsed := s₂.slotsUsed } : State).setVm s₂.vm).frames = .java g₀ :: r := hr
    refine e3.trans ?_
    rw [hf₂, State.calling_eq h.top, State.setFrames_setFrames, State.setTop_of_frames _ hr', hrb]
    rfl
  have hsame : U.sameButNew ({ U with heap := s₂.heap, slotsUsed := s₂.slotsUsed } : State) L mc ms := by
    refine ⟨?_, q2, q3, q4, q5, q6⟩
    obtain ⟨t, ht, -⟩ := State.frames_cons hr
    show ({ U with heap := s₂.heap, slotsUsed := s₂.slotsUsed } : State) = { U.setFrames U.frames with heap := s₂.heap, slotsUsed := s₂.slotsUsed }
    rw [State.setFrames_self ht]
  subst hg
  refine ⟨v, ⟨(({ U with heap := s₂.heap, slotsUsed := s₂.slotsUsed } : State).setVm s₂.vm), Ls ++ L, c0 + mc, s0 + ms⟩,
    ⟨X.admits, X.cas, X.clock, X.frames, X.room, X.hears, X.method, X.code, (X.here.setHeapUsed s₂.heap s₂.slotsUsed).setVm hW'.alike, X.tail, State.WarmedH.trans X.warmed hW', X.limits, X.bytes, X.same.trans (hsame.setVm s.vm)⟩,
    ⟨g, mk, s₂, L, rfl, rfl, hq, rfl, hL, rfl, rfl⟩, ?_⟩
  show Steps p.tables e below _ ((({ U with heap := s₂.heap, slotsUsed := s₂.slotsUsed } : State).setVm s₂.vm).setTop { g with pc := g.pc + len₂, stack := v.toList ++ g.stack })
  rw [← hs₂]
  exact hsteps
theorem bm_wsW {s : State} {args : Array Value} {y : MethodName} {cc : ByteArray} {maxL : Nat} {ret : Option FieldType} (hts : ∀ w ∈ bm_big, w.before args s = true) (hc : Cond.code y cc maxL ret ∈ bm_big) : ∀ w ∈ bm_ws y cc maxL ret, ∀ (a' : Array Value) (V : State), s.WarmedH V.vm → w.before a' V = true := pay_in hts (bm_goodW hc)
theorem bm_hisC' {y : MethodName} {cc : ByteArray} {maxL : Nat} {ret : Option FieldType} (args : Array Value) (s : State) (m : MethodId) (h : ∀ w ∈ bm_ws y cc maxL ret, w.before args s = true) (hn : s.methodNamed? y = some m) : ∃ meth c, s.vm.method? m = some meth ∧ meth.code = some c ∧ c.maxLocals = maxL := by
  obtain ⟨meth, c, h1, h2, -, h4, -⟩ := bm_hisC args s m h hn
  exact ⟨meth, c, h1, h2, h4⟩
theorem bm_Post.ret {D : va_G} {base : Nat} {post : Option Value → bm_Map → Nat → Prop} : ∀ a st o t, bm_Post D base post a st o t → ∃ v, o = .returned v := fun _ _ _ _ h => by
  obtain ⟨v, -, h1, -⟩ := h
  exact ⟨v, h1⟩
section BMG
variable {p : Program} {l : Launch} {e : Env} {R : Room} {s : State} {m : MethodId} {args : Array Value} {below : List Frame} {meth : Method} {c : Code} {H : Heap} {locs : List Loc} {cells slots : Nat} {Q : State → Prop}
variable {y : MethodName} {bytes cc : ByteArray} {maxL nL mc ms n index : Nat} {ret : Option FieldType} {rm : Room} {Pc : Array Value → State → Prop} {Qc : Array Value → State → Outcome → State → Prop} {free : Addr → Prop} {own C : String} {b : Addr} {As rest : List Value} {g : JFrame}
theorem bm_runVG (S : CallFix p m c cc nL s args bm_big own) (hM : bm_MG l y (bm_ws y bytes maxL ret) rm Pc Qc mc ms free) (hret : ∀ a st o t, Qc a st o t → ∃ v, o = .returned v) (h1 : Cond.methodLink own index y ∈ bm_big) (h2 : Cond.instanceMethod y ∈ bm_big) (h3 : Cond.selects C y y ∈ bm_big) (h4 : Cond.code y bytes maxL ret ∈ bm_big) (hrc : rm.cells = mc) (hrs : rm.slots = ms)
    (hd : y.cls ≠ "java/lang/invoke/MethodHandle" ∧ y.cls ≠ "java/lang/invoke/VarHandle" ∧ (parseMethodDescriptor y.desc).map (fun d => d.parameters.length) = some n) (hR : rm.frames + 1 ≤ R.frames ∧ 8 + (maxL + 11) + rm.locals ≤ R.locals) (hp : PreV s H C b Pc As)
    (hg : g.method = m) (hn : As.length = n) (hsize : g.locals.size = nL) (hstack : g.stack = As.reverse ++ .ref b :: rest) (hW : 2 * g.monitorRoom + (rest.map fun v => v.category).sum ≤ 8) (hdg : decode cc g.pc = .ok (.invokevirtual index, 3)) (hf : cells + mc ≤ R.cells ∧ slots + ms ≤ R.slots) :
    va_Run p l e R s m args below meth c H locs cells slots mc ms g rest (Qc (Value.ref b :: As).toArray) (free) := by
  obtain ⟨hx, hb, hml, ho, hts⟩ := S
  have hK : Back l R p e below s args y 3 8 (PreOf R mc ms Pc) (PostOf Qc mc ms free) := bm_backR hM hret hp.1 hrc hrs hR.1 hR.2 (bm_wsW hts h4) bm_hisC'
  obtain ⟨-, ⟨cellB, hcB, hoB, hclB⟩, hPc⟩ := hp
  intro T hT X
  obtain ⟨v, vm₁, ⟨U', l2, c2, s2⟩, hW₁, X', ⟨g', mk, t, L, e1, e2, hq, h1, hL, h2, h3⟩, st⟩ := callV X hx (C := C) (bytes := bytes) (maxL := maxL) (ret := ret) ho (hts _ h1) (hts _ h2) (hts _ h3) (hts _ h4) ⟨hd.1, hd.2.1⟩ hK (by rw [hT]; exact hcB) hoB hclB hg (hsize.trans hml.symm) (argsL := As) (rest := rest) (fun sig h => hn.trans (by have h2 := hd.2.2; rw [h] at h2; exact (Option.some.inj h2).symm)) hstack hW (by rw [hb]; exact hdg)
    (fun vm₁ hW₁ => ⟨hf.1, hf.2, hPc (T.setVm vm₁) hT hW₁⟩)
  dsimp only [Pt.U, Pt.locs, Pt.cells, Pt.slots] at X' e1 e2 h1 h2 h3 st
  subst h1; subst h2; subst h3
  exact ⟨v, (T.setVm vm₁).calling g' mk (Value.ref b :: As).toArray, t, U', L, hT, X', hL, e1, e2, hq, st⟩
end BMG
/-- a head without ripeness -/
theorem bm_ofG {l : Launch} {y : MethodName} {rm : Room} {D : va_G} {ct : Nat → ClassId} {base : Nat} {ad : Nat → Nat} {M : bm_Map} {sz : Nat} {av : List Value} {post : Option Value → bm_Map → Nat → Prop} {mc ms : Nat} {cc : ByteArray} {maxL : Nat} {ret : Option FieldType}
    (hy : plainFor y = true) (hlen : (lg_sl av).length ≤ maxL)
    (body : ∀ (p : Program) (e : Env) (s : State) (m : MethodId) (args : Array Value) (below : List Frame) (meth : Method) (c : Code), p.tables.exec = Jvm.exec → c.code = cc → meth.sig.returnType = ret → meth.locks = false → (∀ w ∈ bm_big, w.before args s = true) → s.vm.findClass y.cls = some m.cls → c.maxLocals = maxL → meth.name = y.name →
      ∀ ls : Array Slot, lv_has ls maxL (lv_args 0 av) → s.heap.size = sz → bm_M D base M s.heap → bm_G D ct base ad s → ∀ (R : Room) (Q : State → Prop), rm = R → MQ below (bm_Post D base post) args s mc ms (bm_A base) = Q → W p l e R s m args below meth c s.heap [] 0 0 Q (F0 m 0 ls [])) :
    bm_MG l y (bm_ws y cc maxL ret) rm (bm_Pre D ct base ad M sz av) (bm_Post D base post) mc ms (bm_A base) := by
  refine bm_MG.ofW hy bm_hisC ?_
  intro p e s m args below meth c hx hb hr hlk hws hn hm hc hml _ hv
  obtain ⟨rfl, hsz, hM, hG⟩ := hv
  rw [lg_entry_eq]
  exact bm_mono bm_MQ.of (body p e s m _ below meth c hx hb hr hlk (fun w h => hws w (List.mem_cons_of_mem _ h)) (findClass_of_methodNamed hn) hml (name_of_methodNamed hn hm).1 _ (lv_entry av hlen) hsz hM hG _ _ rfl rfl)
