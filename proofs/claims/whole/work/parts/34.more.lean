theorem bm_sub_lN {a b : Nat} (h : b ≤ a) : lN a - lN b = lN (a - b) := lN_sub h
theorem bm_mm {a b q : Nat} : a % q * (b % q % q) % q = a % q * (b % q) % q := by rw [Nat.mod_mod]
theorem bm_mm2 {a b q : Nat} : a % q * (b % q % q) % q = a * b % q := by rw [Nat.mod_mod, ← Nat.mul_mod]
/-- a negative and a number that isn't: their xor is negative -/
theorem bm_xor_neg {a q : Nat} (ha : 0 < a) (ha2 : a < 2 ^ 62) (hq : q < 2 ^ 62) : -(lN a) ^^^ lN q < 0 := by
  have h1 : (-(lN a)).toBitVec.msb = true := by
    rw [BitVec.msb_eq_toInt]
    have h : (-(lN a)).toBitVec.toInt = -(a : Int) := bm_neg_T ha2
    rw [h]
    exact decide_eq_true (by omega)
  have h2 : (lN q).toBitVec.msb = false := by
    rw [BitVec.msb_eq_toInt]
    have h : (lN q).toBitVec.toInt = (q : Int) := pk_lT (by omega)
    rw [h]
    exact decide_eq_false (by omega)
  rw [Int64.lt_iff_toInt_lt]
  have h3 : (-(lN a) ^^^ lN q).toBitVec.msb = true := by
    rw [Int64.toBitVec_xor, BitVec.msb_xor, h1, h2]
    rfl
  rw [BitVec.msb_eq_toInt] at h3
  have h4 := of_decide_eq_true h3
  exact h4
theorem bm_xor_pos {a q : Nat} (ha2 : a < 2 ^ 62) (hq : q < 2 ^ 62) : ¬ lN a ^^^ lN q < 0 := by
  have h1 : (lN a).toBitVec.msb = false := by
    rw [BitVec.msb_eq_toInt]
    have h : (lN a).toBitVec.toInt = (a : Int) := pk_lT (by omega)
    rw [h]
    exact decide_eq_false (by omega)
  have h2 : (lN q).toBitVec.msb = false := by
    rw [BitVec.msb_eq_toInt]
    have h : (lN q).toBitVec.toInt = (q : Int) := pk_lT (by omega)
    rw [h]
    exact decide_eq_false (by omega)
  rw [Int64.lt_iff_toInt_lt]
  have h3 : (lN a ^^^ lN q).toBitVec.msb = false := by
    rw [Int64.toBitVec_xor, BitVec.msb_xor, h1, h2]
    rfl
  rw [BitVec.msb_eq_toInt] at h3
  have h4 := of_decide_eq_false h3
  exact h4
theorem bm_neg0 {r : Nat} (hr : r < 2 ^ 62) (h : -(lN r) = 0) : r = 0 := by
  have h1 := congrArg Int64.toInt h
  rw [bm_neg_T hr] at h1
  have h2 : (0 : Int64).toInt = 0 := by decide
  omega
/-- is s the signature of the number m in the denomination d -/
def bm_is (d : Nat) (s : Int64) (m : Nat) : Int32 := if s < 0 ∨ lN (bm_p d * bm_q d) ≤ s ∨ ¬ s.toBitVec.toNat ^ 17 % bm_p d = m % bm_p d ∨ ¬ s.toBitVec.toNat ^ 17 % bm_q d = m % bm_q d then 0 else 1
theorem bm_is_n {s : Int64} (h : ¬ s < 0) : s.toBitVec.toNat < 2 ^ 63 ∧ s = lN s.toBitVec.toNat := by
  obtain ⟨k, hk, rfl⟩ := pk_lOf h
  rw [wb_tn (by omega)]
  exact ⟨hk, rfl⟩
/-- the head of a JDK method of a class that the machine has entries for -/
theorem bm_ofF {l : Launch} {y : MethodName} {rm : Room} {D : va_G} {ct : Nat → ClassId} {base : Nat} {ad : Nat → Nat} {M : bm_Map} {sz : Nat} {av : List Value} {post : Option Value → bm_Map → Nat → Prop} {mc ms : Nat} {cc : ByteArray} {maxL : Nat} {ret : Option FieldType}
    (hy : plainFor y = true) (hlen : (lg_sl av).length ≤ maxL)
    (body : ∀ (p : Program) (e : Env) (s : State) (m : MethodId) (args : Array Value) (below : List Frame) (meth : Method) (c : Code), p.tables.exec = Jvm.exec → c.code = cc → meth.sig.returnType = ret → meth.locks = false → (∀ w ∈ bm_big, w.before args s = true) → s.vm.findClass y.cls = some m.cls → c.maxLocals = maxL → meth.name = y.name →
      ∀ ls : Array Slot, lv_has ls maxL (lv_args 0 av) → s.heap.size = sz → bm_M D base M s.heap → bm_G D ct base ad s → ∀ (R : Room) (Q : State → Prop), rm = R → MQ below (bm_Post D base post) args s mc ms (bm_A base) = Q → W p l e R s m args below meth c s.heap [] 0 0 Q (F0 m 0 ls [])) :
    Met l y (bm_ws y cc maxL ret) rm (bm_Pre D ct base ad M sz av) (bm_Post D base post) mc ms (bm_A base) := by
  refine va_MetF (cc := cc) (maxL := maxL) (ret := ret) hy rfl ?_
  intro p e s m args below meth c s₁ B hml hv
  obtain ⟨rfl, hsz, hM, hG⟩ := hv
  rw [lg_entry_eq]
  exact body p e s m _ below meth c B.exec B.bytes B.returns B.notSynchronized (fun w h => atoms_spec (ws := bm_ws y cc maxL ret) B.pre w (List.mem_cons_of_mem _ h)) (findClass_of_methodNamed B.named) hml (name_of_methodNamed B.named B.method).1 _ (lv_entry av hlen) hsz hM hG _ _ rfl rfl
