/-! words on nest mates and casts: carried by hand -/
/-- the arrays' classes of the class's rows of references -/
def bm_AOs (U : State) : Prop := va_AO "BlindMint$Account" U ∧ va_AO "BlindMint$Candidate" U ∧ va_AO "BlindMint$Payment" U ∧ va_AO "BlindMint$Coin" U
theorem bm_AOs.moved {u U : State} (hvm : u.vm.Alike U.vm) (h : bm_AOs u) : bm_AOs U := ⟨va_AO.moved hvm h.1, va_AO.moved hvm h.2.1, va_AO.moved hvm h.2.2.1, va_AO.moved hvm h.2.2.2⟩
def bm_N (U : State) : Prop := va_Nw (Cond.methodLinkNest "BlindMint$Proposal" 27 ({ cls := "BlindMint$Candidate", name := "<init>", desc := "()V" } : MethodName) "BlindMint") U ∧ va_Nw (Cond.methodLinkNest "BlindMint" 61 ({ cls := "BlindMint$Account", name := "<init>", desc := "()V" } : MethodName) "BlindMint") U ∧ va_Nw (Cond.methodLinkNest "BlindMint$Payment" 29 ({ cls := "BlindMint", name := "isOne", desc := "(JI)Z" } : MethodName) "BlindMint") U ∧ va_Nw (Cond.methodLinkNest "BlindMint$Field" 9 ({ cls := "BlindMint", name := "isOne", desc := "(JI)Z" } : MethodName) "BlindMint") U ∧ va_Nw (Cond.castable "java/lang/IllegalArgumentException" "java/lang/IllegalArgumentException") U ∧ va_Nw (Cond.castable "java/lang/IllegalStateException" "java/lang/IllegalStateException") U ∧ va_Nw (Cond.castable "java/util/NoSuchElementException" "java/util/NoSuchElementException") U ∧ va_Nw (Cond.methodLinkNest "BlindMint$Credit" 40 ({ cls := "BlindMint", name := "isOne", desc := "(JI)Z" } : MethodName) "BlindMint") U ∧ va_Nw (Cond.castable "[J" "java/lang/Cloneable") U ∧ bm_AOs U
theorem bm_N.same {u U : State} (h1 : u.vm = U.vm) (h : bm_N u) : bm_N U := ⟨va_Nw.same rfl h1 h.1, va_Nw.same rfl h1 h.2.1, va_Nw.same rfl h1 h.2.2.1, va_Nw.same rfl h1 h.2.2.2.1, va_Nw.same rfl h1 h.2.2.2.2.1, va_Nw.same rfl h1 h.2.2.2.2.2.1, va_Nw.same rfl h1 h.2.2.2.2.2.2.1, va_Nw.same rfl h1 h.2.2.2.2.2.2.2.1, va_Nw.same rfl h1 h.2.2.2.2.2.2.2.2.1, bm_AOs.moved (by rw [← h1]; exact Vm.Alike.refl u.vm) h.2.2.2.2.2.2.2.2.2⟩
theorem bm_N.warm {s U : State} (hW : s.WarmedH U.vm) (h : bm_N s) : bm_N U := ⟨va_Nw.warmM hW h.1, va_Nw.warmM hW h.2.1, va_Nw.warmM hW h.2.2.1, va_Nw.warmM hW h.2.2.2.1, va_Nw.warmC hW h.2.2.2.2.1, va_Nw.warmC hW h.2.2.2.2.2.1, va_Nw.warmC hW h.2.2.2.2.2.2.1, va_Nw.warmM hW h.2.2.2.2.2.2.2.1, va_Nw.warmC hW h.2.2.2.2.2.2.2.2.1, bm_AOs.moved hW.alike h.2.2.2.2.2.2.2.2.2⟩
theorem bm_N.w38 {U : State} (h : bm_N U) : va_Nw (Cond.methodLinkNest "BlindMint$Proposal" 27 ({ cls := "BlindMint$Candidate", name := "<init>", desc := "()V" } : MethodName) "BlindMint") U := h.1
theorem bm_N.w89 {U : State} (h : bm_N U) : va_Nw (Cond.methodLinkNest "BlindMint" 61 ({ cls := "BlindMint$Account", name := "<init>", desc := "()V" } : MethodName) "BlindMint") U := h.2.1
theorem bm_N.w194 {U : State} (h : bm_N U) : va_Nw (Cond.methodLinkNest "BlindMint$Payment" 29 ({ cls := "BlindMint", name := "isOne", desc := "(JI)Z" } : MethodName) "BlindMint") U := h.2.2.1
theorem bm_N.w212 {U : State} (h : bm_N U) : va_Nw (Cond.methodLinkNest "BlindMint$Field" 9 ({ cls := "BlindMint", name := "isOne", desc := "(JI)Z" } : MethodName) "BlindMint") U := h.2.2.2.1
theorem bm_N.w243 {U : State} (h : bm_N U) : va_Nw (Cond.castable "java/lang/IllegalArgumentException" "java/lang/IllegalArgumentException") U := h.2.2.2.2.1
theorem bm_N.w310 {U : State} (h : bm_N U) : va_Nw (Cond.castable "java/lang/IllegalStateException" "java/lang/IllegalStateException") U := h.2.2.2.2.2.1
theorem bm_N.w458 {U : State} (h : bm_N U) : va_Nw (Cond.castable "java/util/NoSuchElementException" "java/util/NoSuchElementException") U := h.2.2.2.2.2.2.1
theorem bm_N.w532 {U : State} (h : bm_N U) : va_Nw (Cond.methodLinkNest "BlindMint$Credit" 40 ({ cls := "BlindMint", name := "isOne", desc := "(JI)Z" } : MethodName) "BlindMint") U := h.2.2.2.2.2.2.2.1
theorem bm_N.w550 {U : State} (h : bm_N U) : va_Nw (Cond.castable "[J" "java/lang/Cloneable") U := h.2.2.2.2.2.2.2.2.1
theorem bm_N.o28 {U : State} (h : bm_N U) : va_AO "BlindMint$Account" U := h.2.2.2.2.2.2.2.2.2.1
theorem bm_N.o36 {U : State} (h : bm_N U) : va_AO "BlindMint$Candidate" U := h.2.2.2.2.2.2.2.2.2.2.1
theorem bm_N.o86 {U : State} (h : bm_N U) : va_AO "BlindMint$Payment" U := h.2.2.2.2.2.2.2.2.2.2.2.1
theorem bm_N.o94 {U : State} (h : bm_N U) : va_AO "BlindMint$Coin" U := h.2.2.2.2.2.2.2.2.2.2.2.2
/-! the class's constants: the static row of three denominations, and their fields -/
def bm_p : Nat → Nat
  | 0 => 1073741789
  | 1 => 998244389
  | _ => 1050000041
def bm_q : Nat → Nat
  | 0 => 1000000007
  | 1 => 900000011
  | _ => 1020000011
def bm_w : Nat → Int32
  | 0 => 1
  | 1 => 5
  | _ => 20
def bm_dn : String := "BlindMint$Denomination"
def bm_Z (base : Nat) (ad : Nat → Nat) (U : State) (H : Heap) : Prop :=
  va_Z "BlindMint" "DENOMINATIONS" "[LBlindMint$Denomination;" (.ref (ad 3)) (bm_A base) U H ∧ va_T (.object bm_dn) (ad 3) 3 (fun j => .ref (ad j)) (bm_A base) U H ∧ (∀ i, i < 3 → va_O bm_dn (ad i) (bm_A base) U H) ∧
  va_Ef 3 bm_dn "worth" "I" (fun i => .int (bm_w i)) ad (bm_A base) U H ∧ va_Ef 3 bm_dn "p" "J" (fun i => .long (lN (bm_p i))) ad (bm_A base) U H ∧ va_Ef 3 bm_dn "q" "J" (fun i => .long (lN (bm_q i))) ad (bm_A base) U H
theorem bm_Z.moved {base : Nat} {ad : Nat → Nat} {u U : State} {H : Heap} (hvm : u.vm.Alike U.vm) (h : bm_Z base ad u H) : bm_Z base ad U H :=
  ⟨va_Z.moved hvm h.1, va_T.moved hvm h.2.1, fun i hi => va_O.moved hvm (h.2.2.1 i hi), va_Ef.moved hvm h.2.2.2.1, va_Ef.moved hvm h.2.2.2.2.1, va_Ef.moved hvm h.2.2.2.2.2⟩
theorem bm_Z.kept {base : Nat} {ad : Nat → Nat} {U : State} {H H1 : Heap} (h : bm_Z base ad U H) (hq : ∀ a : Nat, a < H.size → ¬ bm_A base a → H1[a]? = H[a]?) : bm_Z base ad U H1 :=
  ⟨h.1.kept hq, h.2.1.kept hq, fun i hi => (h.2.2.1 i hi).kept hq, h.2.2.2.1.kept hq, h.2.2.2.2.1.kept hq, h.2.2.2.2.2.kept hq⟩
