/-- a method's head, its words being its code and the tables' -/
theorem bm_ofB {l : Launch} {y : MethodName} {rm : Room} {D : va_G} {ct : Nat → ClassId} {base : Nat} {ad : Nat → Nat} {M : bm_Map} {sz : Nat} {av : List Value} {post : Option Value → bm_Map → Nat → Prop} {mc ms : Nat} {cc : ByteArray} {maxL : Nat} {ret : Option FieldType}
    (hy : plainName y.cls = true) (hlen : (lg_sl av).length ≤ maxL)
    (body : ∀ (p : Program) (e : Env) (s : State) (m : MethodId) (args : Array Value) (below : List Frame) (meth : Method) (c : Code), p.tables.exec = Jvm.exec → c.code = cc → meth.sig.returnType = ret → meth.locks = false → (∀ w ∈ bm_big, w.before args s = true) → s.vm.findClass y.cls = some m.cls → c.maxLocals = maxL → meth.name = y.name →
      ∀ ls : Array Slot, lv_has ls maxL (lv_args 0 av) → s.heap.size = sz → bm_M D base M s.heap → bm_G D ct base ad s → ∀ (R : Room) (Q : State → Prop), rm = R → MQ below (bm_Post D base post) args s mc ms (bm_A base) = Q → W p l e R s m args below meth c s.heap [] 0 0 Q (F0 m 0 ls [])) :
    Met l y (bm_ws y cc maxL ret) rm (bm_Pre D ct base ad M sz av) (bm_Post D base post) mc ms (bm_A base) :=
  bm_ofW hy rfl hlen (fun p e s m args below meth c hx hb hr hlk hts => body p e s m args below meth c hx hb hr hlk (fun w h => hts w (List.mem_cons_of_mem _ h)))
