/-! the classes' fields -/
def bt_A : u_T := fun k => match k with
  | 0 => ("BlindMint$Account", "balance", "I", false)
  | 1 => ("BlindMint$Account", "wallet", "[LBlindMint$Coin;", true)
  | _ => ("BlindMint$Account", "coinCount", "I", false)
def by_A : Nat → FieldType := fun k => match k with
  | 0 => .int
  | 1 => .array (.object "BlindMint$Coin")
  | _ => .int
theorem bn_A : ∀ a, a < 3 → ∀ b, b < 3 → a ≠ b → (bt_A a).2.1 ≠ (bt_A b).2.1 := by decide +kernel
theorem bo_A : ∀ k, k < 3 → parseFieldDescriptor (bt_A k).2.2.1 = some (by_A k) := by decide +kernel
theorem bu_A : ∀ w ∈ u_ws "BlindMint$Account" bt_A 3, w ∈ bm_big := by
  show ∀ w ∈ [(Cond.lays "BlindMint$Account" "BlindMint$Account" "balance" "I"), (Cond.laysFinal "BlindMint$Account" "BlindMint$Account" "wallet" "[LBlindMint$Coin;"), (Cond.lays "BlindMint$Account" "BlindMint$Account" "coinCount" "I")], w ∈ bm_big
  exact List.forall_mem_cons.mpr ⟨bw_101, List.forall_mem_cons.mpr ⟨bw_103, List.forall_mem_cons.mpr ⟨bw_105, fun _ h => absurd h List.not_mem_nil⟩⟩⟩
def bt_C : u_T := fun k => match k with
  | 0 => ("BlindMint$Candidate", "a", "J", false)
  | 1 => ("BlindMint$Candidate", "c", "J", false)
  | 2 => ("BlindMint$Candidate", "e", "J", false)
  | 3 => ("BlindMint$Candidate", "b", "J", false)
  | 4 => ("BlindMint$Candidate", "x", "J", false)
  | 5 => ("BlindMint$Candidate", "y", "J", false)
  | _ => ("BlindMint$Candidate", "pairHash", "J", false)
def by_C : Nat → FieldType := fun k => match k with
  | 0 => .long
  | 1 => .long
  | 2 => .long
  | 3 => .long
  | 4 => .long
  | 5 => .long
  | _ => .long
theorem bn_C : ∀ a, a < 7 → ∀ b, b < 7 → a ≠ b → (bt_C a).2.1 ≠ (bt_C b).2.1 := by decide +kernel
theorem bo_C : ∀ k, k < 7 → parseFieldDescriptor (bt_C k).2.2.1 = some (by_C k) := by decide +kernel
theorem bu_C : ∀ w ∈ u_ws "BlindMint$Candidate" bt_C 7, w ∈ bm_big := by
  show ∀ w ∈ [(Cond.lays "BlindMint$Candidate" "BlindMint$Candidate" "a" "J"), (Cond.lays "BlindMint$Candidate" "BlindMint$Candidate" "c" "J"), (Cond.lays "BlindMint$Candidate" "BlindMint$Candidate" "e" "J"), (Cond.lays "BlindMint$Candidate" "BlindMint$Candidate" "b" "J"), (Cond.lays "BlindMint$Candidate" "BlindMint$Candidate" "x" "J"), (Cond.lays "BlindMint$Candidate" "BlindMint$Candidate" "y" "J"), (Cond.lays "BlindMint$Candidate" "BlindMint$Candidate" "pairHash" "J")], w ∈ bm_big
  exact List.forall_mem_cons.mpr ⟨bw_56, List.forall_mem_cons.mpr ⟨bw_58, List.forall_mem_cons.mpr ⟨bw_60, List.forall_mem_cons.mpr ⟨bw_62, List.forall_mem_cons.mpr ⟨bw_64, List.forall_mem_cons.mpr ⟨bw_66, List.forall_mem_cons.mpr ⟨bw_68, fun _ h => absurd h List.not_mem_nil⟩⟩⟩⟩⟩⟩⟩
def bt_O : u_T := fun k => match k with
  | 0 => ("BlindMint$Coin", "denomination", "I", true)
  | 1 => ("BlindMint$Coin", "number", "J", true)
  | 2 => ("BlindMint$Coin", "signature", "J", true)
  | 3 => ("BlindMint$Coin", "spent", "Z", false)
  | 4 => ("BlindMint$Coin", "toldForOne", "[J", true)
  | _ => ("BlindMint$Coin", "toldForZero", "[J", true)
def by_O : Nat → FieldType := fun k => match k with
  | 0 => .int
  | 1 => .long
  | 2 => .long
  | 3 => .boolean
  | 4 => .array (.long)
  | _ => .array (.long)
theorem bn_O : ∀ a, a < 6 → ∀ b, b < 6 → a ≠ b → (bt_O a).2.1 ≠ (bt_O b).2.1 := by decide +kernel
theorem bo_O : ∀ k, k < 6 → parseFieldDescriptor (bt_O k).2.2.1 = some (by_O k) := by decide +kernel
theorem bu_O : ∀ w ∈ u_ws "BlindMint$Coin" bt_O 6, w ∈ bm_big := by
  show ∀ w ∈ [(Cond.laysFinal "BlindMint$Coin" "BlindMint$Coin" "denomination" "I"), (Cond.laysFinal "BlindMint$Coin" "BlindMint$Coin" "number" "J"), (Cond.laysFinal "BlindMint$Coin" "BlindMint$Coin" "signature" "J"), (Cond.lays "BlindMint$Coin" "BlindMint$Coin" "spent" "Z"), (Cond.laysFinal "BlindMint$Coin" "BlindMint$Coin" "toldForOne" "[J"), (Cond.laysFinal "BlindMint$Coin" "BlindMint$Coin" "toldForZero" "[J")], w ∈ bm_big
  exact List.forall_mem_cons.mpr ⟨bw_427, List.forall_mem_cons.mpr ⟨bw_429, List.forall_mem_cons.mpr ⟨bw_431, List.forall_mem_cons.mpr ⟨bw_433, List.forall_mem_cons.mpr ⟨bw_435, List.forall_mem_cons.mpr ⟨bw_437, fun _ h => absurd h List.not_mem_nil⟩⟩⟩⟩⟩⟩
def bt_R : u_T := fun k => match k with
  | 0 => ("BlindMint$Credit", "denomination", "J", true)
  | 1 => ("BlindMint$Credit", "pairHashes", "[J", true)
  | 2 => ("BlindMint$Credit", "challenge", "J", true)
  | 3 => ("BlindMint$Credit", "halves", "[J", true)
  | _ => ("BlindMint$Credit", "before", "LBlindMint$Credit;", true)
def by_R : Nat → FieldType := fun k => match k with
  | 0 => .long
  | 1 => .array (.long)
  | 2 => .long
  | 3 => .array (.long)
  | _ => .object "BlindMint$Credit"
theorem bn_R : ∀ a, a < 5 → ∀ b, b < 5 → a ≠ b → (bt_R a).2.1 ≠ (bt_R b).2.1 := by decide +kernel
theorem bo_R : ∀ k, k < 5 → parseFieldDescriptor (bt_R k).2.2.1 = some (by_R k) := by decide +kernel
theorem bu_R : ∀ w ∈ u_ws "BlindMint$Credit" bt_R 5, w ∈ bm_big := by
  show ∀ w ∈ [(Cond.laysFinal "BlindMint$Credit" "BlindMint$Credit" "denomination" "J"), (Cond.laysFinal "BlindMint$Credit" "BlindMint$Credit" "pairHashes" "[J"), (Cond.laysFinal "BlindMint$Credit" "BlindMint$Credit" "challenge" "J"), (Cond.laysFinal "BlindMint$Credit" "BlindMint$Credit" "halves" "[J"), (Cond.laysFinal "BlindMint$Credit" "BlindMint$Credit" "before" "LBlindMint$Credit;")], w ∈ bm_big
  exact List.forall_mem_cons.mpr ⟨bw_563, List.forall_mem_cons.mpr ⟨bw_565, List.forall_mem_cons.mpr ⟨bw_567, List.forall_mem_cons.mpr ⟨bw_569, List.forall_mem_cons.mpr ⟨bw_571, fun _ h => absurd h List.not_mem_nil⟩⟩⟩⟩⟩
def bt_P : u_T := fun k => match k with
  | _ => ("BlindMint$Payment", "numbers", "[J", true)
def by_P : Nat → FieldType := fun k => match k with
  | _ => .array (.long)
theorem bn_P : ∀ a, a < 1 → ∀ b, b < 1 → a ≠ b → (bt_P a).2.1 ≠ (bt_P b).2.1 := by decide +kernel
theorem bo_P : ∀ k, k < 1 → parseFieldDescriptor (bt_P k).2.2.1 = some (by_P k) := by decide +kernel
theorem bu_P : ∀ w ∈ u_ws "BlindMint$Payment" bt_P 1, w ∈ bm_big := by
  show ∀ w ∈ [(Cond.laysFinal "BlindMint$Payment" "BlindMint$Payment" "numbers" "[J")], w ∈ bm_big
  exact List.forall_mem_cons.mpr ⟨bw_492, fun _ h => absurd h List.not_mem_nil⟩
def bt_Q : u_T := fun k => match k with
  | 0 => ("BlindMint$Proposal", "candidates", "[LBlindMint$Candidate;", true)
  | 1 => ("BlindMint$Proposal", "parts", "[LBlindMint$Candidate;", true)
  | 2 => ("BlindMint$Proposal", "firstOpened", "I", false)
  | _ => ("BlindMint$Proposal", "secondOpened", "I", false)
def by_Q : Nat → FieldType := fun k => match k with
  | 0 => .array (.object "BlindMint$Candidate")
  | 1 => .array (.object "BlindMint$Candidate")
  | 2 => .int
  | _ => .int
theorem bn_Q : ∀ a, a < 4 → ∀ b, b < 4 → a ≠ b → (bt_Q a).2.1 ≠ (bt_Q b).2.1 := by decide +kernel
theorem bo_Q : ∀ k, k < 4 → parseFieldDescriptor (bt_Q k).2.2.1 = some (by_Q k) := by decide +kernel
theorem bu_Q : ∀ w ∈ u_ws "BlindMint$Proposal" bt_Q 4, w ∈ bm_big := by
  show ∀ w ∈ [(Cond.laysFinal "BlindMint$Proposal" "BlindMint$Proposal" "candidates" "[LBlindMint$Candidate;"), (Cond.laysFinal "BlindMint$Proposal" "BlindMint$Proposal" "parts" "[LBlindMint$Candidate;"), (Cond.lays "BlindMint$Proposal" "BlindMint$Proposal" "firstOpened" "I"), (Cond.lays "BlindMint$Proposal" "BlindMint$Proposal" "secondOpened" "I")], w ∈ bm_big
  exact List.forall_mem_cons.mpr ⟨bw_76, List.forall_mem_cons.mpr ⟨bw_78, List.forall_mem_cons.mpr ⟨bw_80, List.forall_mem_cons.mpr ⟨bw_82, fun _ h => absurd h List.not_mem_nil⟩⟩⟩⟩
def bt_B : u_T := fun k => match k with
  | 0 => ("BlindMint", "accounts", "[LBlindMint$Account;", true)
  | 1 => ("BlindMint", "proposal", "LBlindMint$Proposal;", true)
  | 2 => ("BlindMint", "payments", "[LBlindMint$Payment;", true)
  | 3 => ("BlindMint", "paymentCount", "I", false)
  | 4 => ("BlindMint", "pairHashes", "[J", true)
  | 5 => ("BlindMint", "lastCredit", "LBlindMint$Credit;", false)
  | 6 => ("BlindMint", "lastTraced", "I", false)
  | 7 => ("BlindMint", "lastBlinded", "J", false)
  | 8 => ("BlindMint", "withdrawnCoins", "I", false)
  | 9 => ("BlindMint", "depositedCoins", "I", false)
  | 10 => ("BlindMint", "foundCheats", "I", false)
  | _ => ("BlindMint", "repeatedDeposits", "I", false)
def by_B : Nat → FieldType := fun k => match k with
  | 0 => .array (.object "BlindMint$Account")
  | 1 => .object "BlindMint$Proposal"
  | 2 => .array (.object "BlindMint$Payment")
  | 3 => .int
  | 4 => .array (.long)
  | 5 => .object "BlindMint$Credit"
  | 6 => .int
  | 7 => .long
  | 8 => .int
  | 9 => .int
  | 10 => .int
  | _ => .int
theorem bn_B : ∀ a, a < 12 → ∀ b, b < 12 → a ≠ b → (bt_B a).2.1 ≠ (bt_B b).2.1 := by decide +kernel
theorem bo_B : ∀ k, k < 12 → parseFieldDescriptor (bt_B k).2.2.1 = some (by_B k) := by decide +kernel
theorem bu_B : ∀ w ∈ u_ws "BlindMint" bt_B 12, w ∈ bm_big := by
  show ∀ w ∈ [(Cond.laysFinal "BlindMint" "BlindMint" "accounts" "[LBlindMint$Account;"), (Cond.laysFinal "BlindMint" "BlindMint" "proposal" "LBlindMint$Proposal;"), (Cond.laysFinal "BlindMint" "BlindMint" "payments" "[LBlindMint$Payment;"), (Cond.lays "BlindMint" "BlindMint" "paymentCount" "I"), (Cond.laysFinal "BlindMint" "BlindMint" "pairHashes" "[J"), (Cond.lays "BlindMint" "BlindMint" "lastCredit" "LBlindMint$Credit;"), (Cond.lays "BlindMint" "BlindMint" "lastTraced" "I"), (Cond.lays "BlindMint" "BlindMint" "lastBlinded" "J"), (Cond.lays "BlindMint" "BlindMint" "withdrawnCoins" "I"), (Cond.lays "BlindMint" "BlindMint" "depositedCoins" "I"), (Cond.lays "BlindMint" "BlindMint" "foundCheats" "I"), (Cond.lays "BlindMint" "BlindMint" "repeatedDeposits" "I")], w ∈ bm_big
  exact List.forall_mem_cons.mpr ⟨bw_121, List.forall_mem_cons.mpr ⟨bw_123, List.forall_mem_cons.mpr ⟨bw_125, List.forall_mem_cons.mpr ⟨bw_127, List.forall_mem_cons.mpr ⟨bw_129, List.forall_mem_cons.mpr ⟨bw_131, List.forall_mem_cons.mpr ⟨bw_133, List.forall_mem_cons.mpr ⟨bw_135, List.forall_mem_cons.mpr ⟨bw_137, List.forall_mem_cons.mpr ⟨bw_139, List.forall_mem_cons.mpr ⟨bw_141, List.forall_mem_cons.mpr ⟨bw_143, fun _ h => absurd h List.not_mem_nil⟩⟩⟩⟩⟩⟩⟩⟩⟩⟩⟩⟩
def bt_M : u_T := fun k => match k with
  | 0 => ("BlindMintModel", "thrown", "I", false)
  | 1 => ("BlindMintModel", "money", "[I", true)
  | 2 => ("BlindMintModel", "counts", "[I", true)
  | 3 => ("BlindMintModel", "traced", "I", false)
  | 4 => ("BlindMintModel", "blinded", "J", false)
  | 5 => ("BlindMintModel", "coins", "[I", true)
  | 6 => ("BlindMintModel", "sort", "[I", true)
  | 7 => ("BlindMintModel", "numbers", "[J", true)
  | 8 => ("BlindMintModel", "signs", "[J", true)
  | 9 => ("BlindMintModel", "spent", "[Z", true)
  | 10 => ("BlindMintModel", "parts", "[J", true)
  | 11 => ("BlindMintModel", "payments", "I", false)
  | 12 => ("BlindMintModel", "rows", "[J", true)
  | 13 => ("BlindMintModel", "deposits", "I", false)
  | 14 => ("BlindMintModel", "taken", "[J", true)
  | 15 => ("BlindMintModel", "a", "[J", true)
  | 16 => ("BlindMintModel", "b", "[J", true)
  | 17 => ("BlindMintModel", "c", "[J", true)
  | 18 => ("BlindMintModel", "e", "[J", true)
  | 19 => ("BlindMintModel", "pair", "[J", true)
  | 20 => ("BlindMintModel", "left", "[Z", true)
  | _ => ("BlindMintModel", "hashes", "[J", true)
def by_M : Nat → FieldType := fun k => match k with
  | 0 => .int
  | 1 => .array (.int)
  | 2 => .array (.int)
  | 3 => .int
  | 4 => .long
  | 5 => .array (.int)
  | 6 => .array (.int)
  | 7 => .array (.long)
  | 8 => .array (.long)
  | 9 => .array (.boolean)
  | 10 => .array (.long)
  | 11 => .int
  | 12 => .array (.long)
  | 13 => .int
  | 14 => .array (.long)
  | 15 => .array (.long)
  | 16 => .array (.long)
  | 17 => .array (.long)
  | 18 => .array (.long)
  | 19 => .array (.long)
  | 20 => .array (.boolean)
  | _ => .array (.long)
theorem bn_M : ∀ a, a < 22 → ∀ b, b < 22 → a ≠ b → (bt_M a).2.1 ≠ (bt_M b).2.1 := by decide +kernel
theorem bo_M : ∀ k, k < 22 → parseFieldDescriptor (bt_M k).2.2.1 = some (by_M k) := by decide +kernel
theorem bu_M : ∀ w ∈ u_ws "BlindMintModel" bt_M 22, w ∈ bm_big := by
  show ∀ w ∈ [(Cond.lays "BlindMintModel" "BlindMintModel" "thrown" "I"), (Cond.laysFinal "BlindMintModel" "BlindMintModel" "money" "[I"), (Cond.laysFinal "BlindMintModel" "BlindMintModel" "counts" "[I"), (Cond.lays "BlindMintModel" "BlindMintModel" "traced" "I"), (Cond.lays "BlindMintModel" "BlindMintModel" "blinded" "J"), (Cond.laysFinal "BlindMintModel" "BlindMintModel" "coins" "[I"), (Cond.laysFinal "BlindMintModel" "BlindMintModel" "sort" "[I"), (Cond.laysFinal "BlindMintModel" "BlindMintModel" "numbers" "[J"), (Cond.laysFinal "BlindMintModel" "BlindMintModel" "signs" "[J"), (Cond.laysFinal "BlindMintModel" "BlindMintModel" "spent" "[Z"), (Cond.laysFinal "BlindMintModel" "BlindMintModel" "parts" "[J"), (Cond.lays "BlindMintModel" "BlindMintModel" "payments" "I"), (Cond.laysFinal "BlindMintModel" "BlindMintModel" "rows" "[J"), (Cond.lays "BlindMintModel" "BlindMintModel" "deposits" "I"), (Cond.laysFinal "BlindMintModel" "BlindMintModel" "taken" "[J"), (Cond.laysFinal "BlindMintModel" "BlindMintModel" "a" "[J"), (Cond.laysFinal "BlindMintModel" "BlindMintModel" "b" "[J"), (Cond.laysFinal "BlindMintModel" "BlindMintModel" "c" "[J"), (Cond.laysFinal "BlindMintModel" "BlindMintModel" "e" "[J"), (Cond.laysFinal "BlindMintModel" "BlindMintModel" "pair" "[J"), (Cond.laysFinal "BlindMintModel" "BlindMintModel" "left" "[Z"), (Cond.laysFinal "BlindMintModel" "BlindMintModel" "hashes" "[J")], w ∈ bm_big
  exact List.forall_mem_cons.mpr ⟨bw_624, List.forall_mem_cons.mpr ⟨bw_626, List.forall_mem_cons.mpr ⟨bw_628, List.forall_mem_cons.mpr ⟨bw_630, List.forall_mem_cons.mpr ⟨bw_632, List.forall_mem_cons.mpr ⟨bw_634, List.forall_mem_cons.mpr ⟨bw_636, List.forall_mem_cons.mpr ⟨bw_638, List.forall_mem_cons.mpr ⟨bw_640, List.forall_mem_cons.mpr ⟨bw_642, List.forall_mem_cons.mpr ⟨bw_644, List.forall_mem_cons.mpr ⟨bw_646, List.forall_mem_cons.mpr ⟨bw_648, List.forall_mem_cons.mpr ⟨bw_650, List.forall_mem_cons.mpr ⟨bw_652, List.forall_mem_cons.mpr ⟨bw_654, List.forall_mem_cons.mpr ⟨bw_656, List.forall_mem_cons.mpr ⟨bw_658, List.forall_mem_cons.mpr ⟨bw_660, List.forall_mem_cons.mpr ⟨bw_662, List.forall_mem_cons.mpr ⟨bw_664, List.forall_mem_cons.mpr ⟨bw_666, fun _ h => absurd h List.not_mem_nil⟩⟩⟩⟩⟩⟩⟩⟩⟩⟩⟩⟩⟩⟩⟩⟩⟩⟩⟩⟩⟩⟩
abbrev bm_cl : List vw_C := [("BlindMint$Account", bt_A, 3), ("BlindMint$Candidate", bt_C, 7), ("BlindMint$Coin", bt_O, 6), ("BlindMint$Credit", bt_R, 5), ("BlindMint$Payment", bt_P, 1), ("BlindMint$Proposal", bt_Q, 4), ("BlindMint", bt_B, 12), ("BlindMintModel", bt_M, 22)]
/-- a method's words: its code, and all of the tables' -/
abbrev bm_ws (y : MethodName) (c : ByteArray) (n : Nat) (r : Option FieldType) : List Cond := Cond.code y c n r :: bm_big
theorem bm_goodW {y : MethodName} {c : ByteArray} {n : Nat} {r : Option FieldType} (h : Cond.code y c n r ∈ bm_big) : GoodIn bm_big (bm_ws y c n r) := fun w hw => (List.mem_cons.mp hw).elim (fun e => by subst e; exact ⟨h, bm_bigG h⟩) (fun h1 => ⟨h1, bm_bigG h1⟩)
theorem bm_goodS {own : String} {idx : Nat} {y : MethodName} {c : ByteArray} {n : Nat} {r : Option FieldType} (h1 : Cond.methodLink own idx y ∈ bm_big) (h2 : Cond.static y ∈ bm_big) (h3 : Cond.initialized y.cls ∈ bm_big) (h : Cond.code y c n r ∈ bm_big) : GoodIn bm_big (va_wsS own idx y (bm_ws y c n r)) := by
  intro w hw
  rcases List.mem_append.mp hw with hw | hw
  · have hm : w ∈ bm_big := by
      rcases List.mem_cons.mp hw with rfl | hw
      · exact h1
      rcases List.mem_cons.mp hw with rfl | hw
      · exact h2
      rcases List.mem_cons.mp hw with rfl | hw
      · exact h3
      cases hw
    exact ⟨hm, bm_bigG hm⟩
  · exact bm_goodW h w hw
theorem bm_goodV {own C : String} {idx : Nat} {y : MethodName} {c : ByteArray} {n : Nat} {r : Option FieldType} (h1 : Cond.methodLink own idx y ∈ bm_big) (h2 : Cond.instanceMethod y ∈ bm_big) (h3 : Cond.selects C y y ∈ bm_big) (h4 : Cond.initialized C ∈ bm_big) (h : Cond.code y c n r ∈ bm_big) : GoodIn bm_big (wsV own idx C y (bm_ws y c n r)) := by
  intro w hw
  rcases List.mem_append.mp hw with hw | hw
  · have hm : w ∈ bm_big := by
      rcases List.mem_cons.mp hw with rfl | hw
      · exact h1
      rcases List.mem_cons.mp hw with rfl | hw
      · exact h2
      rcases List.mem_cons.mp hw with rfl | hw
      · exact h3
      rcases List.mem_cons.mp hw with rfl | hw
      · exact h4
      cases hw
    exact ⟨hm, bm_bigG hm⟩
  · exact bm_goodW h w hw
