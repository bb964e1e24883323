/-! words on nest mates and casts: carried by hand -/
/-- the arrays' classes of the class's rows of references -/
def bm_AOs (U : State) : Prop := va_AO "BlindMint$Account" U ∧ va_AO "BlindMint$Candidate" U ∧ va_AO "BlindMint$Payment" U ∧ va_AO "BlindMint$Coin" U
theorem bm_AOs.moved {u U : State} (hvm : u.vm.Alike U.vm) (h : bm_AOs u) : bm_AOs U := ⟨va_AO.moved hvm h.1, va_AO.moved hvm h.2.1, va_AO.moved hvm h.2.2.1, va_AO.moved hvm h.2.2.2⟩
/-- of the exceptions: which is no other; the constructors up to Throwable's -/
def bm_Xs (U : State) : Prop := va_Nc "java/lang/IllegalStateException" "java/lang/IllegalArgumentException" U ∧ va_Nc "java/util/NoSuchElementException" "java/lang/IllegalArgumentException" U ∧ va_Nw (Cond.declares ({ cls := "java/lang/RuntimeException", name := "<init>", desc := "()V" } : MethodName)) U ∧ va_Nw (Cond.declares ({ cls := "java/lang/Exception", name := "<init>", desc := "()V" } : MethodName)) U ∧ va_Nw (Cond.declares ({ cls := "java/lang/Throwable", name := "<init>", desc := "()V" } : MethodName)) U
theorem bm_Xs.same {u U : State} (h1 : u.vm = U.vm) (h : bm_Xs u) : bm_Xs U := ⟨va_Nc.moved (by rw [← h1]; exact Vm.Alike.refl u.vm) h.1, va_Nc.moved (by rw [← h1]; exact Vm.Alike.refl u.vm) h.2.1, va_Nw.same rfl h1 h.2.2.1, va_Nw.same rfl h1 h.2.2.2.1, va_Nw.same rfl h1 h.2.2.2.2⟩
theorem bm_Xs.warm {s U : State} (hW : s.WarmedH U.vm) (h : bm_Xs s) : bm_Xs U := ⟨va_Nc.moved hW.alike h.1, va_Nc.moved hW.alike h.2.1, va_Nw.warmD hW h.2.2.1, va_Nw.warmD hW h.2.2.2.1, va_Nw.warmD hW h.2.2.2.2⟩
def bm_N (U : State) : Prop := va_Nw (Cond.methodLinkNest "BlindMint$Proposal" 27 ({ cls := "BlindMint$Candidate", name := "<init>", desc := "()V" } : MethodName) "BlindMint") U ∧ va_Nw (Cond.methodLinkNest "BlindMint" 61 ({ cls := "BlindMint$Account", name := "<init>", desc := "()V" } : MethodName) "BlindMint") U ∧ va_Nw (Cond.methodLinkNest "BlindMint$Payment" 29 ({ cls := "BlindMint", name := "isOne", desc := "(JI)Z" } : MethodName) "BlindMint") U ∧ va_Nw (Cond.methodLinkNest "BlindMint$Field" 9 ({ cls := "BlindMint", name := "isOne", desc := "(JI)Z" } : MethodName) "BlindMint") U ∧ va_Nw (Cond.castable "java/lang/IllegalArgumentException" "java/lang/IllegalArgumentException") U ∧ va_Nw (Cond.castable "java/lang/IllegalStateException" "java/lang/IllegalStateException") U ∧ va_Nw (Cond.castable "java/util/NoSuchElementException" "java/util/NoSuchElementException") U ∧ va_Nw (Cond.methodLinkNest "BlindMint$Credit" 40 ({ cls := "BlindMint", name := "isOne", desc := "(JI)Z" } : MethodName) "BlindMint") U ∧ va_Nw (Cond.castable "[J" "java/lang/Cloneable") U ∧ (bm_AOs U ∧ bm_Xs U)
theorem bm_N.same {u U : State} (h1 : u.vm = U.vm) (h : bm_N u) : bm_N U := ⟨va_Nw.same rfl h1 h.1, va_Nw.same rfl h1 h.2.1, va_Nw.same rfl h1 h.2.2.1, va_Nw.same rfl h1 h.2.2.2.1, va_Nw.same rfl h1 h.2.2.2.2.1, va_Nw.same rfl h1 h.2.2.2.2.2.1, va_Nw.same rfl h1 h.2.2.2.2.2.2.1, va_Nw.same rfl h1 h.2.2.2.2.2.2.2.1, va_Nw.same rfl h1 h.2.2.2.2.2.2.2.2.1, ⟨bm_AOs.moved (by rw [← h1]; exact Vm.Alike.refl u.vm) h.2.2.2.2.2.2.2.2.2.1, bm_Xs.same h1 h.2.2.2.2.2.2.2.2.2.2⟩⟩
theorem bm_N.warm {s U : State} (hW : s.WarmedH U.vm) (h : bm_N s) : bm_N U := ⟨va_Nw.warmM hW h.1, va_Nw.warmM hW h.2.1, va_Nw.warmM hW h.2.2.1, va_Nw.warmM hW h.2.2.2.1, va_Nw.warmC hW h.2.2.2.2.1, va_Nw.warmC hW h.2.2.2.2.2.1, va_Nw.warmC hW h.2.2.2.2.2.2.1, va_Nw.warmM hW h.2.2.2.2.2.2.2.1, va_Nw.warmC hW h.2.2.2.2.2.2.2.2.1, ⟨bm_AOs.moved hW.alike h.2.2.2.2.2.2.2.2.2.1, bm_Xs.warm hW h.2.2.2.2.2.2.2.2.2.2⟩⟩
theorem bm_N.w38 {U : State} (h : bm_N U) : va_Nw (Cond.methodLinkNest "BlindMint$Proposal" 27 ({ cls := "BlindMint$Candidate", name := "<init>", desc := "()V" } : MethodName) "BlindMint") U := h.1
theorem bm_N.w89 {U : State} (h : bm_N U) : va_Nw (Cond.methodLinkNest "BlindMint" 61 ({ cls := "BlindMint$Account", name := "<init>", desc := "()V" } : MethodName) "BlindMint") U := h.2.1
theorem bm_N.w194 {U : State} (h : bm_N U) : va_Nw (Cond.methodLinkNest "BlindMint$Payment" 29 ({ cls := "BlindMint", name := "isOne", desc := "(JI)Z" } : MethodName) "BlindMint") U := h.2.2.1
theorem bm_N.w212 {U : State} (h : bm_N U) : va_Nw (Cond.methodLinkNest "BlindMint$Field" 9 ({ cls := "BlindMint", name := "isOne", desc := "(JI)Z" } : MethodName) "BlindMint") U := h.2.2.2.1
theorem bm_N.w243 {U : State} (h : bm_N U) : va_Nw (Cond.castable "java/lang/IllegalArgumentException" "java/lang/IllegalArgumentException") U := h.2.2.2.2.1
theorem bm_N.w310 {U : State} (h : bm_N U) : va_Nw (Cond.castable "java/lang/IllegalStateException" "java/lang/IllegalStateException") U := h.2.2.2.2.2.1
theorem bm_N.w458 {U : State} (h : bm_N U) : va_Nw (Cond.castable "java/util/NoSuchElementException" "java/util/NoSuchElementException") U := h.2.2.2.2.2.2.1
theorem bm_N.w532 {U : State} (h : bm_N U) : va_Nw (Cond.methodLinkNest "BlindMint$Credit" 40 ({ cls := "BlindMint", name := "isOne", desc := "(JI)Z" } : MethodName) "BlindMint") U := h.2.2.2.2.2.2.2.1
theorem bm_N.w550 {U : State} (h : bm_N U) : va_Nw (Cond.castable "[J" "java/lang/Cloneable") U := h.2.2.2.2.2.2.2.2.1
theorem bm_N.o28 {U : State} (h : bm_N U) : va_AO "BlindMint$Account" U := h.2.2.2.2.2.2.2.2.2.1.1
theorem bm_N.o36 {U : State} (h : bm_N U) : va_AO "BlindMint$Candidate" U := h.2.2.2.2.2.2.2.2.2.1.2.1
theorem bm_N.o86 {U : State} (h : bm_N U) : va_AO "BlindMint$Payment" U := h.2.2.2.2.2.2.2.2.2.1.2.2.1
theorem bm_N.o94 {U : State} (h : bm_N U) : va_AO "BlindMint$Coin" U := h.2.2.2.2.2.2.2.2.2.1.2.2.2
theorem bm_N.xs {U : State} (h : bm_N U) : bm_Xs U := h.2.2.2.2.2.2.2.2.2.2
/-! the class's constants: the static row of three denominations, and their fields -/
def bm_p : Nat → Nat
  | 0 => 1073741789
  | 1 => 998244389
  | _ => 1050000041
def bm_q : Nat → Nat
  | 0 => 1000000007
  | 1 => 900000011
  | _ => 1020000011
def bm_w : Nat → Int32
  | 0 => 1
  | 1 => 5
  | _ => 20
def bm_dn : String := "BlindMint$Denomination"
/-- a static reference, in a cell of statics below base -/
def bm_Zs (C n d : String) (base : Nat) (U : State) (H : Heap) : Prop := ∃ (c : ClassId) (k : Class) (i : Nat) (f : Field) (a : Nat) (cell : Cell) (v : RefV), U.vm.findClass C = some c ∧ U.fieldFound? C n d = some (c, k, i, f) ∧ f.isStatic = true ∧ k.statics = some a ∧ H[a]? = some cell ∧ cell.vm.isStatics = true ∧ cell.cls = c ∧ f.slot < cell.slots.size ∧ k.staticTypes[f.slot]? = some f.type ∧ cell.slots[f.slot]? = some v.v ∧ ¬ bm_A base a
theorem bm_Zs.moved {C n d : String} {base : Nat} {u U : State} {H : Heap} (hvm : u.vm.Alike U.vm) (h : bm_Zs C n d base u H) : bm_Zs C n d base U H := by
  obtain ⟨c, k, i, f, a, cell, v, h0, h1, h2, h3, h4, h5, h6, h7, h8, h9⟩ := h
  obtain ⟨k', hi', he⟩ := State.fieldFound?_setVm hvm h1
  exact ⟨c, k', i, f, a, cell, v, by rw [hvm.findClass]; exact h0, hi', h2, by rw [he]; exact h3, h4, h5, h6, h7, by rw [he]; exact h8, h9⟩
theorem bm_Zs.kept {C n d : String} {base : Nat} {U : State} {H H1 : Heap} (h : bm_Zs C n d base U H) (hq : ∀ a : Nat, a < H.size → ¬ bm_A base a → H1[a]? = H[a]?) : bm_Zs C n d base U H1 := by
  obtain ⟨c, k, i, f, a, cell, v, h0, h1, h2, h3, h4, h5, h6, h7, h8, h9, h10⟩ := h
  exact ⟨c, k, i, f, a, cell, v, h0, h1, h2, h3, by rw [hq a (Array.getElem?_eq_some_iff.mp h4).1 h10]; exact h4, h5, h6, h7, h8, h9, h10⟩
theorem bm_Zs.ref {C n d : String} {base : Nat} {U : State} (h : bm_Zs C n d base U U.heap) (args : Array Value) : (Cond.isRef (.static C n d)).before args U = true := by
  obtain ⟨c, k, i, f, a, cell, v, h0, h1, h2, h3, h4, h5, h6, h7, h8, h9, h10⟩ := h
  have hr : v.v.isRef = true := v.ok
  cases hv : v.v <;> rw [hv] at h9 hr <;> first | (simp [Cond.before, Cond.holds, Cond.value, Term.eval, State.fieldNamed?, h1, h2, h3, h4, h5, h9]; done) | (exact absurd hr (by simp [Value.isRef]))
theorem bm_Zs.lays {C n d : String} {base : Nat} {U : State} (h : bm_Zs C n d base U U.heap) (args : Array Value) : (Cond.laysStatic C n d).before args U = true := by
  obtain ⟨c, k, i, f, a, cell, v, h0, h1, h2, h3, h4, h5, h6, h7, h8, h9, h10⟩ := h
  simp [Cond.before, Cond.holds, Cond.value, h0, h1, h2, h3, h4, h5, h6, h7, h8]
/-- Throwable's two static references -/
def bm_TH (base : Nat) (U : State) (H : Heap) : Prop := bm_Zs "java/lang/Throwable" "UNASSIGNED_STACK" "[Ljava/lang/StackTraceElement;" base U H ∧ bm_Zs "java/lang/Throwable" "SUPPRESSED_SENTINEL" "Ljava/util/List;" base U H
theorem bm_TH.moved {base : Nat} {u U : State} {H : Heap} (hvm : u.vm.Alike U.vm) (h : bm_TH base u H) : bm_TH base U H := ⟨h.1.moved hvm, h.2.moved hvm⟩
theorem bm_TH.kept {base : Nat} {U : State} {H H1 : Heap} (h : bm_TH base U H) (hq : ∀ a : Nat, a < H.size → ¬ bm_A base a → H1[a]? = H[a]?) : bm_TH base U H1 := ⟨h.1.kept hq, h.2.kept hq⟩
def bm_Z (base : Nat) (ad : Nat → Nat) (U : State) (H : Heap) : Prop :=
  va_Z "BlindMint" "DENOMINATIONS" "[LBlindMint$Denomination;" (.ref (ad 3)) (bm_A base) U H ∧ va_T (.object bm_dn) (ad 3) 3 (fun j => .ref (ad j)) (bm_A base) U H ∧ (∀ i, i < 3 → va_O bm_dn (ad i) (bm_A base) U H) ∧
  va_Ef 3 bm_dn "worth" "I" (fun i => .int (bm_w i)) ad (bm_A base) U H ∧ va_Ef 3 bm_dn "p" "J" (fun i => .long (lN (bm_p i))) ad (bm_A base) U H ∧ va_Ef 3 bm_dn "q" "J" (fun i => .long (lN (bm_q i))) ad (bm_A base) U H ∧ bm_TH base U H
theorem bm_Z.moved {base : Nat} {ad : Nat → Nat} {u U : State} {H : Heap} (hvm : u.vm.Alike U.vm) (h : bm_Z base ad u H) : bm_Z base ad U H :=
  ⟨va_Z.moved hvm h.1, va_T.moved hvm h.2.1, fun i hi => va_O.moved hvm (h.2.2.1 i hi), va_Ef.moved hvm h.2.2.2.1, va_Ef.moved hvm h.2.2.2.2.1, va_Ef.moved hvm h.2.2.2.2.2.1, h.2.2.2.2.2.2.moved hvm⟩
theorem bm_Z.kept {base : Nat} {ad : Nat → Nat} {U : State} {H H1 : Heap} (h : bm_Z base ad U H) (hq : ∀ a : Nat, a < H.size → ¬ bm_A base a → H1[a]? = H[a]?) : bm_Z base ad U H1 :=
  ⟨h.1.kept hq, h.2.1.kept hq, fun i hi => (h.2.2.1 i hi).kept hq, h.2.2.2.1.kept hq, h.2.2.2.2.1.kept hq, h.2.2.2.2.2.1.kept hq, h.2.2.2.2.2.2.kept hq⟩
