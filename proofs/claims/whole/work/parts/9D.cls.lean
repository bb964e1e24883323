section
variable {p : Program} {l : Launch} {e : Env} {R : Room} {s : State} {m : MethodId} {args : Array Value} {below : List Frame} {meth : Method} {c : Code} {H : Heap} {locs : List Loc} {cells slots pc : Nat} {Q : State → Prop} {cc : ByteArray} {ls : Array Slot} {rest : List Value}
theorem bm_astoreV {v : Value} (hv : v = .null ∨ ∃ a, v = .ref a) (hexec : p.tables.exec = Jvm.exec) (hb : c.code = cc) {k : Fin 4} {i nL : Nat} {lv lv' : List (Nat × Value)} (hdg : decode cc pc = .ok (.astore_n k, 1)) (hi : (k : Nat) = i) (h : lv_has ls nL lv) (hn : i < nL) (hl : (i, v) :: lv.filter (fun q => !(q.1 == i) && !(q.1 + 1 == i && q.2.category == 2)) = lv')
    (kk : ∀ ls' : Array Slot, lv_has ls' nL lv' → W p l e R s m args below meth c H locs cells slots Q (F0 m (pc + 1) ls' rest)) : W p l e R s m args below meth c H locs cells slots Q (F0 m pc ls (v :: rest)) := by
  rcases hv with rfl | ⟨a, rfl⟩
  · exact lv_astore_nN hexec hb hdg hi h hn hl kk
  · exact lv_astore_n hexec hb hdg hi h hn hl kk
end
/-- a credit: its address, denomination, row of pair hashes, challenge, row of halves, and what the rows hold -/
def bm_CE : Type := Nat × Int64 × Nat × Int64 × Nat × (Nat → Int64) × (Nat → Int64)
def bm_CE.a (e : bm_CE) : Nat := e.1
def bm_CE.d0 (e : bm_CE) : Int64 := e.2.1
def bm_CE.b (e : bm_CE) : Nat := e.2.2.1
def bm_CE.c0 (e : bm_CE) : Int64 := e.2.2.2.1
def bm_CE.c (e : bm_CE) : Nat := e.2.2.2.2.1
def bm_CE.h (e : bm_CE) : Nat → Int64 := e.2.2.2.2.2.1
def bm_CE.hv (e : bm_CE) : Nat → Int64 := e.2.2.2.2.2.2
/-- the credits from v on, the newest first -/
def bm_CL (ct : Nat → ClassId) (M : bm_Map) : List bm_CE → Value → Prop
  | [], v => v = .null
  | e :: t, v => v = .ref e.a ∧ ∃ bv, M e.a = some (.inr (3, [.long e.d0, .ref e.b, .long e.c0, .ref e.c, bv])) ∧ M e.b = some (.inl (ct 1, 4, .inr (.inl e.h))) ∧ M e.c = some (.inl (ct 1, 4, .inr (.inl e.hv))) ∧ bm_CL ct M t bv
theorem bm_CL_nr {ct : Nat → ClassId} {M : bm_Map} {L : List bm_CE} {v : Value} (h : bm_CL ct M L v) : v = .null ∨ ∃ a, v = .ref a := by
  cases L with
  | nil => exact Or.inl h
  | cons e t => exact Or.inr ⟨e.a, h.1⟩
/-- the newest credit of this denomination and these pair hashes -/
def bm_fc (d : Int64) (h : Nat → Int64) : List bm_CE → Value
  | [] => .null
  | e :: t => if bm_ie e.d0 d e.h h 4 = 0 then bm_fc d h t else .ref e.a
theorem bm_fc_n {d : Int64} {h : Nat → Int64} {e : bm_CE} {t : List bm_CE} (q : bm_ie e.d0 d e.h h 4 = 0) : bm_fc d h (e :: t) = bm_fc d h t := if_pos q
theorem bm_fc_y {d : Int64} {h : Nat → Int64} {e : bm_CE} {t : List bm_CE} (q : ¬ bm_ie e.d0 d e.h h 4 = 0) : bm_fc d h (e :: t) = .ref e.a := if_neg q
