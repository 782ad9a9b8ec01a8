/-! the law's calls -/
def lwC (p : Program) (l : Launch) (s : State) (m : MethodId) (c : Code) (D : va_G) (cy : Nat → ClassId) (B0 b L : Nat) (xs : Nat → Int32) : Prop := CallFix p m c cL_law 8 s #[Value.ref b] lw_tbl RL ∧ gK D cy s ∧ B0 = s.heap.size ∧ va_X b L xs s s.heap ∧ b < s.heap.size ∧ L ≤ 5632 ∧ l.stackTraces = false
/-- between two calls: the class's world and the reference's, at one state -/
def lwI (D : va_G) (cy : Nat → ClassId) (B0 : Nat) (s : State) (ix : Nat → Nat) (o b x0 : Nat) (iz : Int) (S : ST) (H : Heap) (locs : List Loc) (ls : Array Slot) : Prop := ∃ (ad bk : Nat → Nat) (I : Int → Bool) (cX qX : Int → Int64) (J : Int → Bool) (aM qM : Int → Int64) (tM : Int) (v : Nat → Int64), ad 0 = x0 ∧ (nP S = 0 → ad 11 = D.1 21) ∧ (nE S = 0 → bk 10 = D.1 21) ∧ gW D B0 s (kW cy ad bk S (I, cX, qX) (lwG cy ix o S (mX J aM qM tM) v)) H locs ∧ lv_has ls 8 [(0, .ref b), (1, .ref x0), (2, .ref (ix 100)), (3, .ref o), (4, .int (iI iz))]
def lcC (n : Nat) (S : ST) : Nat := 100 + kTc (nE S) + 16 * n
def lcS (n : Nat) (S : ST) : Nat := 200000 + kTs (nE S) + 400 * n
def lcK (p : Program) (l : Launch) (e : Env) (s : State) (m : MethodId) (below : List Frame) (meth : Method) (c : Code) (D : va_G) (cy : Nat → ClassId) (B0 b : Nat) (ix : Nat → Nat) (o x0 : Nat) (Q : State → Prop) (n : Nat) (S : ST) : Prop := ∀ (S2 : ST) (H2 : Heap) (locs2 : List Loc) (ls2 : Array Slot), cJ n S S2 → lwI D cy B0 s ix o b x0 (11 * n) S2 H2 locs2 ls2 → W p l e room_1 s m #[Value.ref b] below meth c H2 locs2 (lcC (n + 1) S2) (lcS (n + 1) S2) Q (F0 m 1966 ls2 [])
theorem nE_b {n : Nat} {S : ST} (h : cI n S) (hn : n ≤ 513) : nE S ≤ 19050 := by
  have h4 := h.2.2.2.1
  have c := cNF_nn S
  unfold nE
  omega
theorem lc_room {n : Nat} {S S2 : ST} (hn : n < 512) (hI : cI n S) (hJ : cJ n S S2) : (lcC n S + (kTc (nE S2) - kTc (nE S) + 16) ≤ 601024 ∧ lcS n S + (kTs (nE S2) - kTs (nE S) + 400) ≤ 7293034) ∧ lcC n S + (kTc (nE S2) - kTc (nE S) + 16) = lcC (n + 1) S2 ∧ lcS n S + (kTs (nE S2) - kTs (nE S) + 400) = lcS (n + 1) S2 ∧ (lcC (n + 1) S2 ≤ 601024 ∧ lcS (n + 1) S2 ≤ 7293034) := by
  have b := nE_b hJ.1 (by omega)
  have t1 := kTc_le hJ.2
  have t2 := kTs_le hJ.2
  have t3 := kTc_b (nE S2)
  have t4 := kTs_b (nE S2)
  unfold lcC lcS
  omega
theorem lc_up {n : Nat} {S : ST} (hn : n < 512) (hI : cI n S) : (lcC n S ≤ 601024 ∧ lcS n S ≤ 7293034) ∧ lcC n S ≤ lcC (n + 1) S ∧ lcS n S ≤ lcS (n + 1) S := by
  have b := nE_b hI (by omega)
  have t3 := kTc_b (nE S)
  have t4 := kTs_b (nE S)
  unfold lcC lcS
  omega
theorem rI_32 (x : Int32) : rI x.toInt := ⟨by have := Int32.le_toInt x; omega, by have := Int32.toInt_lt x; omega⟩
theorem nat_0 : (iI 0).toNatClampNeg = 0 := by decide
theorem iI_z {z : Int} (h : 0 ≤ z ∧ z ≤ 3) (e : iI z = 0) : z = 0 := (iI_eq (x := z) (y := 0) ⟨by omega, by omega⟩ rI_0).mp e
theorem cI_acc {n : Nat} {S : ST} (hS : cI n S) (b c : Int) : cJ n S (pAcc S b c).2.2 := by unfold pAcc; split <;> exact cI_up hS
theorem cI_anew {n : Nat} {S : ST} (hS : cI n S) (b c : Int) : cJ n S (pAnew S b c).2.2 := by unfold pAnew; split <;> exact cI_up hS
theorem cI_paid {n : Nat} {S : ST} (hS : cI n S) (b u c : Int) : cJ n S (pPaid S b u c).2.2 := by unfold pPaid; split <;> exact cI_up hS
theorem cI_stat {n : Nat} {S : ST} (hS : cI n S) (k : Int) : cJ n S (pStat S k).2.2 := by unfold pStat; split <;> exact cI_up hS
theorem cI_que {n : Nat} {S : ST} (hS : cI n S) (b c p : Int) : cJ n S (pQue S b c p).2.2 := by unfold pQue; split <;> exact cI_up hS
theorem cI_ent {n : Nat} {S : ST} (hS : cI n S) (k j : Int) : cJ n S (pEnt S k j).2.2 := by unfold pEnt; split <;> exact cI_up hS
