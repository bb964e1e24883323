section
variable {p : Program} {l : Launch} {e : Env} {R : Room} {s : State} {m : MethodId} {args : Array Value} {below : List Frame} {meth : Method} {c : Code} {H0 H : Heap} {locs : List Loc} {cells slots pc : Nat} {Q : State → Prop} {cc : ByteArray} {ls : Array Slot} {rest : List Value} {D : va_G} {base : Nat} {M : bm_Map} {tys : List (ClassId × FieldType)}
theorem bm_newz {z : Nat} (hz : H.size = z) (hexec : p.tables.exec = Jvm.exec) (hb : c.code = cc) {own C : String} {T : u_T} {N ci index : Nat} {Ts : List Cond} (hts : ∀ w ∈ Ts, w.before args s = true) (hin : ∀ w ∈ u_ws C T N, w ∈ Ts) (ty : Nat → FieldType) (hty : ∀ k, k < N → parseFieldDescriptor (T k).2.2.1 = some (ty k)) (hown : s.vm.findClass own = some m.cls) (hcl : (Cond.classLink own index C).before args s = true) (hinst : (Cond.instantiable C N).before args s = true) (hini : (Cond.initialized C).before args s = true)
    (hK : va_K D bm_cl tys s) (hM : bm_M D base M H) (hS : va_S (bm_A base) H0 H locs) (hB : base ≤ H.size) (hc : bm_cl[ci]? = some (C, T, N)) {fs : List Value} (hfs : ∀ j, j < N → defaultValue (ty j) = vp_V fs j) (hcells : cells + 1 ≤ R.cells) (hslots : slots + N ≤ R.slots) (hdg : decode cc pc = .ok (.new index, 3))
    (kk : ∀ (H1 : Heap), H1.size = z + 1 → bm_M D base (bm_up M z (.inr (ci, fs))) H1 → va_S (bm_A base) H0 H1 locs → W p l e R s m args below meth c H1 locs (cells + 1) (slots + N) Q (F0 m (pc + 3) ls (.ref z :: rest))) : W p l e R s m args below meth c H locs cells slots Q (F0 m pc ls rest) := by
  subst hz
  exact bm_new hexec hb hts hin ty hty hown hcl hinst hini hK hM hS hB hc hfs hcells hslots hdg kk
theorem bm_newaz {z : Nat} (hz : H.size = z) (hexec : p.tables.exec = Jvm.exec) (hb : c.code = cc) {atype : ArrayType} (harr : (Cond.arrayClass (newarray.typeOf atype)).before args s = true) {ty : FieldType} (hty : newarray.typeOf atype = ty) (hK : va_K D bm_cl tys s) (hM : bm_M D base M H) (hS : va_S (bm_A base) H0 H locs) (hB : base ≤ H.size) (t0 : Nat) {cA : ClassId} (ht : tys[t0]? = some (cA, ty)) (hnr : ∀ C, ty ≠ .object C)
    {n : Int32} {N' : Nat} {a0 : vp_A} (ha : ∀ cA : ClassId, vp_cell cA a0 = arrV cA N' (fun _ => defaultValue ty)) (hn : ¬ n < 0) (hN : n.toNatClampNeg = N') (hbytes : N' * componentBytes ty ≤ 536870912) (hcells : cells + 1 ≤ R.cells) (hslots : slots + N' ≤ R.slots) (hdg : decode cc pc = .ok (.newarray atype, 2))
    (kk : ∀ (H1 : Heap), H1.size = z + 1 → bm_M D base (bm_up M z (.inl (cA, a0))) H1 → va_S (bm_A base) H0 H1 locs → W p l e R s m args below meth c H1 locs (cells + 1) (slots + N') Q (F0 m (pc + 2) ls (.ref z :: rest))) : W p l e R s m args below meth c H locs cells slots Q (F0 m pc ls (.int n :: rest)) := by
  subst hz
  exact bm_newa hexec hb harr hty hK hM hS hB t0 ht hnr ha hn hN hbytes hcells hslots hdg kk
theorem bm_newqz {z : Nat} (hz : H.size = z) (hexec : p.tables.exec = Jvm.exec) (hb : c.code = cc) {own C : String} {index : Nat} (hown : s.vm.findClass own = some m.cls) (hclink : (Cond.classLink own index C).before args s = true) (hover : (Cond.arrayOver (.object C)).before args s = true) (hK : va_K D bm_cl tys s) (hM : bm_M D base M H) (hS : va_S (bm_A base) H0 H locs) (hB : base ≤ H.size) (t0 : Nat) {cA : ClassId} (ht : tys[t0]? = some (cA, .object C))
    {n : Int32} {N' : Nat} (hn : ¬ n < 0) (hN : n.toNatClampNeg = N') (hbytes : N' * 4 ≤ 536870912) (hcells : cells + 1 ≤ R.cells) (hslots : slots + N' ≤ R.slots) (hdg : decode cc pc = .ok (.anewarray index, 3))
    (kk : ∀ (H1 : Heap), H1.size = z + 1 → bm_M D base (bm_up M z (.inl (cA, N', .inr (.inr (.inr (.inr (fun _ => none))))))) H1 → va_S (bm_A base) H0 H1 locs → W p l e R s m args below meth c H1 locs (cells + 1) (slots + N') Q (F0 m (pc + 3) ls (.ref z :: rest))) : W p l e R s m args below meth c H locs cells slots Q (F0 m pc ls (.int n :: rest)) := by
  subst hz
  exact bm_newq hexec hb hown hclink hover hK hM hS hB t0 ht hn hN hbytes hcells hslots hdg kk
end
theorem bm_aI (n : Nat) : ∀ cA : ClassId, vp_cell cA (n, .inl (fun _ => 0)) = arrV cA n (fun _ => defaultValue .int) := fun _ => rfl
theorem bm_aZ (n : Nat) : ∀ cA : ClassId, vp_cell cA (n, .inl (fun _ => 0)) = arrV cA n (fun _ => defaultValue .boolean) := fun _ => rfl
theorem bm_aL (n : Nat) : ∀ cA : ClassId, vp_cell cA (n, .inr (.inl (fun _ => 0))) = arrV cA n (fun _ => defaultValue .long) := fun _ => rfl
theorem bm_nea {m a b : Nat} (h : a ≠ b) : m + a ≠ m + b := fun q => h (Nat.add_left_cancel q)
theorem bm_ne0 {m k : Nat} : m ≠ m + (k + 1) := by omega
theorem bm_ne1 {m k : Nat} : m + (k + 1) ≠ m := by omega
theorem bm_lnea {a m k : Nat} (h : a < m) : a ≠ m + k := by omega
theorem bm_lne0 {a m : Nat} (h : a < m) : a ≠ m := Nat.ne_of_lt h
