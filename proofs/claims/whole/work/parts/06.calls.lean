/-! what every method may rest on; contracts over the map; calls and returns -/
def bm_G (D : va_G) (ct : Nat → ClassId) (base : Nat) (ad : Nat → Nat) (U : State) : Prop := va_K D bm_cl (bm_tys ct) U ∧ base ≤ U.heap.size ∧ bm_N U ∧ bm_Z base ad U U.heap
theorem bm_G.K {D : va_G} {ct : Nat → ClassId} {base : Nat} {ad : Nat → Nat} {U : State} (h : bm_G D ct base ad U) : va_K D bm_cl (bm_tys ct) U := h.1
theorem bm_G.same {D : va_G} {ct : Nat → ClassId} {base : Nat} {ad : Nat → Nat} {u U : State} (h : bm_G D ct base ad u) (h1 : u.vm = U.vm) (h2 : U.heap = u.heap) : bm_G D ct base ad U :=
  ⟨va_K.moved (by rw [← h1]; exact Vm.Alike.refl u.vm) h.1, by rw [h2]; exact h.2.1, bm_N.same h1 h.2.2.1, by rw [h2]; exact bm_Z.moved (by rw [← h1]; exact Vm.Alike.refl u.vm) h.2.2.2⟩
theorem bm_G.go {D : va_G} {ct : Nat → ClassId} {base : Nat} {ad : Nat → Nat} {s U : State} {H : Heap} {locs : List Loc} (h : bm_G D ct base ad s) (hS : va_S (bm_A base) s.heap H locs) (hU : U.heap = H) (hW : s.WarmedH U.vm) : bm_G D ct base ad U :=
  ⟨va_K.moved hW.alike h.1, by rw [hU]; exact Nat.le_trans h.2.1 hS.1, bm_N.warm hW h.2.2.1, by rw [hU]; exact (bm_Z.moved hW.alike h.2.2.2).kept hS.2.1⟩
def bm_Pre (D : va_G) (ct : Nat → ClassId) (base : Nat) (ad : Nat → Nat) (M : bm_Map) (sz : Nat) (av : List Value) : Array Value → State → Prop := va_Pc av (fun U => U.heap.size = sz ∧ bm_M D base M U.heap ∧ bm_G D ct base ad U)
def bm_Post (D : va_G) (base : Nat) (post : Option Value → bm_Map → Nat → Prop) : Array Value → State → Outcome → State → Prop := fun _ st oc t => ∃ (v : Option Value) (M1 : bm_Map), oc = .returned v ∧ post v M1 t.heap.size ∧ bm_M D base M1 t.heap ∧ va_F (bm_A base) st t
/-- just this answer, this map, this size -/
def bm_Is (r : Option Value) (M1 : bm_Map) (z : Nat) : Option Value → bm_Map → Nat → Prop := fun v M n => v = r ∧ M = M1 ∧ n = z
theorem bm_Is.rf {r : Option Value} {M1 : bm_Map} {z : Nat} : bm_Is r M1 z r M1 z := ⟨rfl, rfl, rfl⟩
theorem bm_blind {D : va_G} {ct : Nat → ClassId} {base : Nat} {ad : Nat → Nat} {M : bm_Map} {sz : Nat} {av : List Value} : FrameBlind (bm_Pre D ct base ad M sz av) := fun _ U _ _ q => by
  obtain ⟨q0, q1, q2, q3⟩ := q
  exact ⟨q0, q1, q2, q3.same rfl rfl⟩
theorem bm_preS {D : va_G} {ct : Nat → ClassId} {base : Nat} {ad : Nat → Nat} {M : bm_Map} {sz : Nat} {av : List Value} {s : State} {H : Heap} {locs : List Loc} (hM : bm_M D base M H) (hG : bm_G D ct base ad s) (hS : va_S (bm_A base) s.heap H locs) (hz : H.size = sz) : PreS s H (bm_Pre D ct base ad M sz av) av :=
  ⟨bm_blind, fun U hU hW => ⟨rfl, by rw [hU]; exact hz, by rw [hU]; exact hM, hG.go hS hU hW⟩⟩
theorem bm_preV {D : va_G} {ct : Nat → ClassId} {base : Nat} {ad : Nat → Nat} {M : bm_Map} {sz b ci : Nat} {fs As : List Value} {q : vw_C} {s : State} {H : Heap} {locs : List Loc} (hM : bm_M D base M H) (hG : bm_G D ct base ad s) (hS : va_S (bm_A base) s.heap H locs) (hz : H.size = sz) (he : M b = some (.inr (ci, fs))) (hc : bm_cl[ci]? = some q) : PreV s H q.1 b (bm_Pre D ct base ad M sz (.ref b :: As)) As :=
  ⟨bm_blind, by
    obtain ⟨ws, hP, hD, hw⟩ := hM
    obtain ⟨q0, hq⟩ := List.getElem?_of_mem ((hw b _).mp he)
    exact va_recv hG.K hP hc hq, fun U hU hW => ⟨rfl, by rw [hU]; exact hz, by rw [hU]; exact hM, hG.go hS hU hW⟩⟩
/-- a method's head -/
theorem bm_ofW {l : Launch} {y : MethodName} {ws ws' : List Cond} {rm : Room} {D : va_G} {ct : Nat → ClassId} {base : Nat} {ad : Nat → Nat} {M : bm_Map} {sz : Nat} {av : List Value} {post : Option Value → bm_Map → Nat → Prop} {mc ms : Nat} {cc : ByteArray} {maxL : Nat} {ret : Option FieldType}
    (hy : plainName y.cls = true) (hw : ws = Cond.code y cc maxL ret :: ws') (hlen : (lg_sl av).length ≤ maxL)
    (body : ∀ (p : Program) (e : Env) (s : State) (m : MethodId) (args : Array Value) (below : List Frame) (meth : Method) (c : Code), p.tables.exec = Jvm.exec → c.code = cc → meth.sig.returnType = ret → meth.locks = false → (∀ w ∈ ws, w.before args s = true) → s.vm.findClass y.cls = some m.cls → c.maxLocals = maxL → meth.name = y.name →
      ∀ ls : Array Slot, lv_has ls maxL (lv_args 0 av) → s.heap.size = sz → bm_M D base M s.heap → bm_G D ct base ad s → ∀ (R : Room) (Q : State → Prop), rm = R → MQ below (bm_Post D base post) args s mc ms (bm_A base) = Q → W p l e R s m args below meth c s.heap [] 0 0 Q (F0 m 0 ls [])) :
    Met l y ws rm (bm_Pre D ct base ad M sz av) (bm_Post D base post) mc ms (bm_A base) := by
  refine Met.ofW (cc := cc) (maxL := maxL) (ret := ret) hy hw ?_
  intro p e s m args below meth c s₁ B hml hv
  obtain ⟨rfl, hsz, hM, hG⟩ := hv
  rw [lg_entry_eq]
  exact body p e s m _ below meth c B.exec B.bytes B.returns B.notSynchronized (atoms_spec (ws := ws) B.pre) (findClass_of_methodNamed B.named) hml (name_of_methodNamed B.named B.method).1 _ (lv_entry av hlen) hsz hM hG _ _ rfl rfl
section BMC
variable {p : Program} {l : Launch} {e : Env} {R : Room} {s : State} {m : MethodId} {args : Array Value} {below : List Frame} {meth : Method} {c : Code} {H : Heap} {locs : List Loc} {cells slots : Nat} {Q : State → Prop}
variable {cc : ByteArray} {pc : Nat} {ls : Array Slot} {rest st0 : List Value} {D : va_G} {base : Nat} {a : Array Value} {M M1 : bm_Map} {H0 : Heap} {mc ms : Nat} {post : Option Value → bm_Map → Nat → Prop}
theorem bm_call (hr : va_Run p l e R s m args below meth c H locs cells slots mc ms (F0 m pc ls st0) rest (bm_Post D base post a) (bm_A base)) (hS : va_S (bm_A base) H0 H locs)
    (kk : ∀ (v : Option Value) (M1 : bm_Map) (H1 : Heap) (locs1 : List Loc), post v M1 H1.size → bm_M D base M1 H1 → va_S (bm_A base) H0 H1 locs1 → H.size ≤ H1.size → W p l e R s m args below meth c H1 locs1 (cells + mc) (slots + ms) Q (F0 m (pc + 3) ls (v.toList ++ rest))) : W p l e R s m args below meth c H locs cells slots Q (F0 m pc ls st0) := by
  intro T hT X
  obtain ⟨v, st₀, t, T', L, h0, X', hL, e1, e2, ⟨v', M1, hv, hp, hm, hF⟩, st⟩ := hr T hT X
  cases hv
  have hz : H.size ≤ t.heap.size := by rw [← h0]; exact hF.1
  obtain ⟨t2, a1, b1⟩ := kk v M1 T'.heap (locs ++ L) (by rw [e1]; exact hp) (by rw [e1]; exact hm)
    ⟨Nat.le_trans hS.1 (by rw [e1]; exact hz), fun q h1 h2 => by rw [e1, hF.2 q (by rw [h0]; exact Nat.lt_of_lt_of_le h1 hS.1) h2, h0]; exact hS.2.1 q h1 h2, fun q hq => by
      rcases List.mem_append.mp hq with h | h
      · exact hS.2.2 q h
      · exact hL q h⟩ (by rw [e1]; exact hz) T' rfl X'
  exact ⟨t2, st t2 a1, b1⟩
theorem bm_callE {r : Value} {z : Nat} (hr : va_Run p l e R s m args below meth c H locs cells slots mc ms (F0 m pc ls st0) rest (bm_Post D base (bm_Is (some r) M1 z) a) (bm_A base)) (hS : va_S (bm_A base) H0 H locs)
    (kk : ∀ (H1 : Heap) (locs1 : List Loc), H1.size = z → bm_M D base M1 H1 → va_S (bm_A base) H0 H1 locs1 → W p l e R s m args below meth c H1 locs1 (cells + mc) (slots + ms) Q (F0 m (pc + 3) ls (r :: rest))) : W p l e R s m args below meth c H locs cells slots Q (F0 m pc ls st0) :=
  bm_call hr hS (fun v M2 H1 locs1 hp hm hS1 _ => by
    obtain ⟨rfl, rfl, hz⟩ := hp
    exact kk H1 locs1 hz hm hS1)
theorem bm_callU {z : Nat} (hr : va_Run p l e R s m args below meth c H locs cells slots mc ms (F0 m pc ls st0) rest (bm_Post D base (bm_Is none M1 z) a) (bm_A base)) (hS : va_S (bm_A base) H0 H locs)
    (kk : ∀ (H1 : Heap) (locs1 : List Loc), H1.size = z → bm_M D base M1 H1 → va_S (bm_A base) H0 H1 locs1 → W p l e R s m args below meth c H1 locs1 (cells + mc) (slots + ms) Q (F0 m (pc + 3) ls rest)) : W p l e R s m args below meth c H locs cells slots Q (F0 m pc ls st0) :=
  bm_call hr hS (fun v M2 H1 locs1 hp hm hS1 _ => by
    obtain ⟨rfl, rfl, hz⟩ := hp
    exact kk H1 locs1 hz hm hS1)
theorem bm_iret (hQ : MQ below (bm_Post D base post) args s mc ms (bm_A base) = Q) (hexec : p.tables.exec = Jvm.exec) (hb : c.code = cc) (hr : meth.sig.returnType = some .int) (hlk : meth.locks = false) {v : Int32} (hM : bm_M D base M1 H) (hS : va_S (bm_A base) s.heap H locs) (hp : post (some (.int v)) M1 H.size) (hc : cells ≤ mc) (hs : slots ≤ ms) (hdg : decode cc pc = .ok (.ireturn, 1)) : W p l e R s m args below meth c H locs cells slots Q (F0 m pc ls [.int v]) := by
  subst hQ
  exact W.widen hc hs (W.iret hexec hb hr (fun t ht hW => ⟨_, M1, rfl, by rw [ht]; exact hp, by rw [ht]; exact hM, hS.F ht⟩) hS.2.2 hdg hlk)
theorem bm_zret (hQ : MQ below (bm_Post D base post) args s mc ms (bm_A base) = Q) (hexec : p.tables.exec = Jvm.exec) (hb : c.code = cc) (hr : meth.sig.returnType = some .boolean) (hlk : meth.locks = false) {v : Int32} (hn : narrow .boolean (.int v) = .int v) (hM : bm_M D base M1 H) (hS : va_S (bm_A base) s.heap H locs) (hp : post (some (.int v)) M1 H.size) (hc : cells ≤ mc) (hs : slots ≤ ms) (hdg : decode cc pc = .ok (.ireturn, 1)) : W p l e R s m args below meth c H locs cells slots Q (F0 m pc ls [.int v]) := by
  subst hQ
  exact W.widen hc hs (W.zret hexec hb hr hn (fun t ht hW => ⟨_, M1, rfl, by rw [ht]; exact hp, by rw [ht]; exact hM, hS.F ht⟩) hS.2.2 hdg hlk)
theorem bm_lret (hQ : MQ below (bm_Post D base post) args s mc ms (bm_A base) = Q) (hexec : p.tables.exec = Jvm.exec) (hb : c.code = cc) (hr : meth.sig.returnType = some .long) (hlk : meth.locks = false) {v : Int64} (hM : bm_M D base M1 H) (hS : va_S (bm_A base) s.heap H locs) (hp : post (some (.long v)) M1 H.size) (hc : cells ≤ mc) (hs : slots ≤ ms) (hdg : decode cc pc = .ok (.lreturn, 1)) : W p l e R s m args below meth c H locs cells slots Q (F0 m pc ls [.long v]) := by
  subst hQ
  exact W.widen hc hs (W.lret hexec hb hr (fun t ht hW => ⟨_, M1, rfl, by rw [ht]; exact hp, by rw [ht]; exact hM, hS.F ht⟩) hS.2.2 hdg hlk)
theorem bm_vret (hQ : MQ below (bm_Post D base post) args s mc ms (bm_A base) = Q) (hexec : p.tables.exec = Jvm.exec) (hb : c.code = cc) (hr : meth.sig.returnType = none) (hlk : meth.locks = false) (hM : bm_M D base M1 H) (hS : va_S (bm_A base) s.heap H locs) (hp : post none M1 H.size) (hc : cells ≤ mc) (hs : slots ≤ ms) (hdg : decode cc pc = .ok (.return_, 1)) : W p l e R s m args below meth c H locs cells slots Q (F0 m pc ls []) := by
  subst hQ
  exact W.widen hc hs (W.vret hexec hb hr (fun t ht hW => ⟨_, M1, rfl, by rw [ht]; exact hp, by rw [ht]; exact hM, hS.F ht⟩) hS.2.2 hdg hlk)
theorem bm_aret (hQ : MQ below (bm_Post D base post) args s mc ms (bm_A base) = Q) (hexec : p.tables.exec = Jvm.exec) (hb : c.code = cc) {rt : FieldType} (hr : meth.sig.returnType = some rt) (hlk : meth.locks = false) (hrt : (∃ n, rt = .object n) ∨ ∃ t, rt = .array t) {v : Value} (hv : v = .null ∨ ∃ a, v = .ref a) (hM : bm_M D base M1 H) (hS : va_S (bm_A base) s.heap H locs) (hp : post (some v) M1 H.size) (hc : cells ≤ mc) (hs : slots ≤ ms) (hdg : decode cc pc = .ok (.areturn, 1)) : W p l e R s m args below meth c H locs cells slots Q (F0 m pc ls [v]) := by
  subst hQ
  exact W.widen hc hs (W.aret hexec hb hr hrt hv (fun t ht hW => ⟨_, M1, rfl, by rw [ht]; exact hp, by rw [ht]; exact hM, hS.F ht⟩) hS.2.2 hdg hlk)
end BMC
