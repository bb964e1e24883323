section
variable {p : Program} {l : Launch} {e : Env} {R : Room} {s : State} {m : MethodId} {args : Array Value} {below : List Frame} {meth : Method} {c : Code} {H0 H : Heap} {locs : List Loc} {cells slots pc : Nat} {Q : State → Prop} {cc : ByteArray} {ls : Array Slot} {rest : List Value} {D : va_G} {base : Nat} {M : bm_Map} {tys : List (ClassId × FieldType)}
/-- arraycopy between two rows of longs, over the map; the heap's size isn't told -/
theorem bm_copy (hexec : p.tables.exec = Jvm.exec) (hb : c.code = cc) (hml : c.maxLocals = ls.size) {own : String} {index : Nat} (hown : s.vm.findClass own = some m.cls) (hlink : (Cond.methodLink own index arraycopyName).before args s = true) (hnat : (Cond.native arraycopyName).before args s = true) (hstat : (Cond.static arraycopyName).before args s = true) (hini : (Cond.initialized "java/lang/System").before args s = true)
    (hK : va_K D bm_cl tys s) (hM : bm_M D base M H) (hS : va_S (bm_A base) H0 H locs) (t0 : Nat) {a0 a : Nat} {cA : ClassId} {n0 n1 : Nat} {f g : Nat → Int64} (h0 : M a0 = some (.inl (cA, n0, .inr (.inl f)))) (h1 : M a = some (.inl (cA, n1, .inr (.inl g)))) (ht : tys[t0]? = some (cA, .long))
    {sp dp n : Int32} (ks kd kn : Nat) (hs : bm_ix sp ks) (hd : bm_ix dp kd) (hn : bm_ix n kn) (h4 : ks + kn ≤ n0) (h5 : kd + kn ≤ n1) (hframes : 1 ≤ R.frames) (hlocals : (rest.map fun v => v.category).sum + (nativeFrameWords "java/lang/System" "arraycopy" 5 + 11) ≤ R.locals) (hdg : decode cc pc = .ok (.invokestatic index, 3))
    (kk : ∀ (H1 : Heap) (locs1 : List Loc), bm_M D base (bm_up M a (.inl (cA, n1, .inr (.inl (va_cpy f g ks kd kn))))) H1 → va_S (bm_A base) H0 H1 locs1 → W p l e R s m args below meth c H1 locs1 cells slots Q (F0 m (pc + 3) ls rest)) : W p l e R s m args below meth c H locs cells slots Q (F0 m pc ls (.int n :: .int dp :: .ref a :: .int sp :: .ref a0 :: rest)) := by
  obtain ⟨s0, rfl⟩ := hs
  obtain ⟨d0, rfl⟩ := hd
  obtain ⟨n9, rfl⟩ := hn
  obtain ⟨ws, hP, hD, hw⟩ := hM
  obtain ⟨q0, hq0⟩ := List.getElem?_of_mem ((hw a0 _).mp h0)
  obtain ⟨q1, hq1⟩ := List.getElem?_of_mem ((hw a _).mp h1)
  exact va_copyl hexec hb hml hown hlink hnat hstat hini hK hP hD hS q0 q1 t0 t0 hq0 hq1 ht ht rfl s0 d0 n9 h4 h5 (fun _ _ => rfl) hframes hlocals hdg (fun H1 locs1 hP1 hD1 hS1 => kk H1 locs1 ⟨_, hP1, hD1, bm_Mset hw hD hq1⟩ hS1)
end
/-- a payment's numbers after j parts -/
def bm_pn (f1 f0 : Nat → Int64) (ch : Int64) (g : Nat → Int64) : Nat → Nat → Int64
  | 0 => g
  | j + 1 => if bm_one ch (nI j) = 1 then va_cpy f1 (bm_pn f1 f0 ch g j) (3 * j) (4 + 3 * j) 3 else va_cpy f0 (bm_pn f1 f0 ch g j) (3 * j) (4 + 3 * j) 3
theorem bm_pn_y {f1 f0 g : Nat → Int64} {ch : Int64} {j : Nat} (h : bm_one ch (nI j) = 1) : bm_pn f1 f0 ch g (j + 1) = va_cpy f1 (bm_pn f1 f0 ch g j) (3 * j) (4 + 3 * j) 3 := if_pos h
theorem bm_pn_n {f1 f0 g : Nat → Int64} {ch : Int64} {j : Nat} (h : ¬ bm_one ch (nI j) = 1) : bm_pn f1 f0 ch g (j + 1) = va_cpy f0 (bm_pn f1 f0 ch g j) (3 * j) (4 + 3 * j) 3 := if_neg h
/-- the first four numbers of a payment -/
def bm_p4 (u v w x : Int64) : Nat → Int64 := vp_updL (vp_updL (vp_updL (vp_updL (fun _ => 0) 0 u) 1 v) 2 w) 3 x
theorem bm_p4_ch {u v w x : Int64} : bm_h3 (bm_p4 u v w x 2) (bm_p4 u v w x 3) (bm_p4 u v w x 1) = bm_h3 w x v := by simp [bm_p4, vp_updL]
