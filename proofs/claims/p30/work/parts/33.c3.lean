/-! the class's picture -/
abbrev CX : Type := (Int → Bool) × (Int → Int64) × (Int → Int64)
/-- an ArrayList's capacity when n things have been added to it -/
def kcap : Nat → Nat
  | 0 => 0
  | n + 1 => if n = kcap n then (if n = 0 then 10 else n + n / 2) else kcap n
theorem kcap_ge : ∀ n : Nat, n ≤ kcap n
  | 0 => Nat.le_refl 0
  | n + 1 => by
    have h := kcap_ge n
    unfold kcap
    split
    · split
      · omega
      · rename_i h1 h2
        have : n ≠ 1 := by
          intro e
          subst e
          exact absurd h1 (by decide)
        omega
    · omega
theorem kcap_pos {n : Nat} (h : n ≠ 0) : kcap n ≠ 0 := by
  have := kcap_ge n
  omega
theorem kcap_le : ∀ n : Nat, kcap n ≤ 2 * n + 10
  | 0 => by decide
  | n + 1 => by
    have h := kcap_le n
    unfold kcap
    split
    · split <;> omega
    · omega
def nE (S : ST) : Nat := (S.1 31 0).toNat
def kLen : Nat → Nat := fun r => match r with
  | 0 => 3000
  | 1 => 21
  | 2 => 18
  | 3 => 108
  | 4 => 108
  | 5 => 600
  | 6 => 360
  | 11 => 20
  | 12 => 60
  | 13 => 21
  | 14 => 108
  | _ => 6
def rowF : Nat → Nat := fun r => match r with
  | 0 => 6
  | 2 => 2
  | 4 => 3
  | 5 => 25
  | 6 => 43
  | 7 => 44
  | 8 => 29
  | 9 => 30
  | 10 => 5
  | 11 => 7
  | _ => 1000
def kRow (S : ST) (X : CX) (r : Nat) : Int → Int64 :=
  if r = 1 then S.2 1 else if r = 3 then S.2 4 else if r = 12 then (fun z => Int64.ofInt (bI (X.1 z))) else if r = 13 then X.2.1 else if r = 14 then X.2.2 else fun z => Int64.ofInt (S.1 (rowF r) z)
/-- a payment, or null -/
def pR (ad : Nat → Nat) (k : Int) : Value := if k = -1 then .null else .ref (ad (1000 + 2 * k.toNat))
theorem pR_n (ad : Nat → Nat) : pR ad (-1) = .null := rfl
theorem pR_r (ad : Nat → Nat) {k : Int} (h : k ≠ -1) : pR ad k = .ref (ad (1000 + 2 * k.toNat)) := by unfold pR; rw [if_neg h]
def payF (ad : Nat → Nat) (S : ST) (k : Int) : List Value := [.int (iI k), .ref (ad (1001 + 2 * k.toNat)), .int (iI (S.1 18 k)), pR ad (S.1 21 k), .int (iI (S.1 40 k)), .int (iI (S.1 19 k)), .int (iI (S.1 41 k)), .int (iI (S.1 42 k)), .int (iI (S.1 24 k))]
def trmF (S : ST) (k : Int) : List Value := [.int (iI (S.1 9 k)), .int (iI (S.1 10 k)), .int (iI (S.1 11 k)), .int (iI (S.1 12 k)), .int (iI (S.1 13 k)), .int (iI (S.1 14 k)), .int (iI (S.1 15 k)), .int (iI (S.1 16 k)), .int (iI (S.1 17 k))]
def entF (S : ST) (e : Int) : List Value := [.int (iI (S.2 32 (5 * e)).toInt), .int (iI (S.2 32 (5 * e + 1)).toInt), .int (iI (S.2 32 (5 * e + 2)).toInt), .long (S.2 32 (5 * e + 3)), .int (iI (S.2 32 (5 * e + 4)).toInt)]
def lsE (bk : Nat → Nat) (S : ST) : Nat → Option Nat := fun e => if e < nE S then some (bk (2000 + e)) else none
def lsP (ad : Nat → Nat) (S : ST) : Nat → Option Nat := fun k => if k < nP S then some (ad (1000 + 2 * k)) else none
def kO (ad bk : Nat → Nat) (S : ST) (i : Nat) : Option (Nat × va_E) := match i with
  | 0 => some (ad 0, .inr (12, [.ref (ad 1)]))
  | 1 => some (ad 1, .inr (7, [.ref (ad 2), .ref (ad 3), .ref (ad 5), .ref (ad 6), .ref (ad 30), .ref (ad 31), .int (iI (S.1 26 0)), .ref (ad 7)]))
  | 2 => some (ad 2, .inr (5, [.int (iI (S.1 0 0)), .ref (ad 20)]))
  | 3 => some (ad 3, .inr (1, [.ref (ad 4), .ref (ad 21), .ref (ad 22), .ref (ad 23), .ref (ad 24)]))
  | 4 => some (ad 4, .inr (4, [.ref (ad 8)]))
  | 5 => some (ad 5, .inr (9, [.ref (ad 9), .ref (ad 25)]))
  | 6 => some (ad 6, .inr (2, [.ref (ad 26), .ref (ad 27), .ref (ad 28), .ref (ad 29)]))
  | 7 => some (ad 7, .inr (3, [.ref (ad 32), .ref (ad 33), .ref (ad 34)]))
  | 8 => some (ad 8, .inr (0, [.int (iI (bk 92 : Int)), .ref (bk 10), .int (iI (S.1 31 0))]))
  | 9 => some (ad 9, .inr (0, [.int (iI (ad 93 : Int)), .ref (ad 11), .int (iI (S.1 8 0))]))
  | _ => none
def kC (cy : Nat → ClassId) (ad bk : Nat → Nat) (S : ST) (X : CX) (i : Nat) : Option (Nat × va_E) :=
  if i < 10 then kO ad bk S i
  else if i = 10 then (if kcap (nE S) = 0 then none else some (bk 10, cO cy (kcap (nE S)) (lsE bk S)))
  else if i = 11 then (if kcap (nP S) = 0 then none else some (ad 11, cO cy (kcap (nP S)) (lsP ad S)))
  else if 20 ≤ i ∧ i < 35 then some (ad i, .inr (10, [.ref (ad (i + 20))]))
  else if 40 ≤ i ∧ i < 55 then some (ad i, cR cy (kLen (i - 40)) (kRow S X (i - 40)))
  else if 1000 ≤ i ∧ i < 1000 + 2 * nP S then some (ad i, if i % 2 = 0 then .inr (8, payF ad S (((i - 1000) / 2 : Nat) : Int)) else .inr (11, trmF S (((i - 1000) / 2 : Nat) : Int)))
  else if 2000 ≤ i ∧ i < 2000 + nE S then some (bk i, .inr (6, entF S ((i - 2000 : Nat) : Int)))
  else none
/-- the class's world: the places from 100000 on are its own (address ad i at 100000 + i), the others are G -/
def kW (cy : Nat → ClassId) (ad bk : Nat → Nat) (S : ST) (X : CX) (G : gF) : gF := fun i => if 100000 ≤ i then kC cy ad bk S X (i - 100000) else G i
theorem kW_at {cy : Nat → ClassId} {ad bk : Nat → Nat} {S : ST} {X : CX} {G : gF} {i a : Nat} {e : va_E} (h : kC cy ad bk S X i = some (a, e)) : kW cy ad bk S X G (100000 + i) = some (a, e) := by
  unfold kW
  rw [if_pos (by omega), show 100000 + i - 100000 = i by omega, h]
theorem kC_pay {cy : Nat → ClassId} {ad bk : Nat → Nat} {S : ST} {X : CX} {k : Int} (hw : wf S) (h0 : 0 ≤ k) (h1 : k < S.1 8 0) : kC cy ad bk S X (1000 + 2 * k.toNat) = some (ad (1000 + 2 * k.toNat), .inr (8, payF ad S k)) := by
  have h8 := wf_8 hw 0
  unfold kC nP
  rw [if_neg (by omega), if_neg (by omega), if_neg (by omega), if_neg (by omega), if_neg (by omega), if_pos (by omega), if_pos (by omega), show (((1000 + 2 * k.toNat - 1000) / 2 : Nat) : Int) = k by omega]
theorem kC_trm {cy : Nat → ClassId} {ad bk : Nat → Nat} {S : ST} {X : CX} {k : Int} (hw : wf S) (h0 : 0 ≤ k) (h1 : k < S.1 8 0) : kC cy ad bk S X (1001 + 2 * k.toNat) = some (ad (1001 + 2 * k.toNat), .inr (11, trmF S k)) := by
  have h8 := wf_8 hw 0
  unfold kC nP
  rw [if_neg (by omega), if_neg (by omega), if_neg (by omega), if_neg (by omega), if_neg (by omega), if_pos (by omega), if_neg (by omega), show (((1001 + 2 * k.toNat - 1000) / 2 : Nat) : Int) = k by omega]
theorem kC_ent {cy : Nat → ClassId} {ad bk : Nat → Nat} {S : ST} {X : CX} {k : Int} (hw : wf S) (h0 : 0 ≤ k) (h1 : k < S.1 31 0) : kC cy ad bk S X (2000 + k.toNat) = some (bk (2000 + k.toNat), .inr (6, entF S k)) := by
  have h8 := wf_8 hw 0
  unfold kC nP nE
  rw [if_neg (by omega), if_neg (by omega), if_neg (by omega), if_neg (by omega), if_neg (by omega), if_neg (by omega), if_pos (by omega), show ((2000 + k.toNat - 2000 : Nat) : Int) = k by omega]
theorem kC_l10 {cy : Nat → ClassId} {ad bk : Nat → Nat} {S : ST} {X : CX} (h : kcap (nE S) ≠ 0) : kC cy ad bk S X 10 = some (bk 10, cO cy (kcap (nE S)) (lsE bk S)) := by
  unfold kC
  rw [if_neg (by omega), if_pos rfl, if_neg h]
theorem kC_l11 {cy : Nat → ClassId} {ad bk : Nat → Nat} {S : ST} {X : CX} (h : kcap (nP S) ≠ 0) : kC cy ad bk S X 11 = some (ad 11, cO cy (kcap (nP S)) (lsP ad S)) := by
  unfold kC
  rw [if_neg (by omega), if_neg (by omega), if_pos rfl, if_neg h]
/-- a world whose cell at one place alone changes -/
theorem kW_up {cy : Nat → ClassId} {ad bk : Nat → Nat} {S S' : ST} {X X' : CX} {G : gF} {i a : Nat} {e : va_E} (he : kC cy ad bk S' X' i = some (a, e)) (ho : ∀ j : Nat, j ≠ i → kC cy ad bk S' X' j = kC cy ad bk S X j) : gup (kW cy ad bk S X G) (100000 + i) a e = kW cy ad bk S' X' G := by
  funext j
  by_cases h : j = 100000 + i
  · subst h
    rw [gup_s, kW_at he]
  · rw [gup_n _ _ _ h]
    unfold kW
    by_cases hj : 100000 ≤ j
    · rw [if_pos hj, if_pos hj, ho (j - 100000) (by omega)]
    · rw [if_neg hj, if_neg hj]
theorem kRow_pI {S : ST} {X : CX} {f r : Nat} {z v : Int} (h : rowF r ≠ f) : kRow (pI S f z v) X r = kRow S X r := by
  unfold kRow
  rw [pI_2, pI_f S z v h]
def isPF (f : Nat) : Bool := f == 18 || f == 21 || f == 40 || f == 19 || f == 41 || f == 42 || f == 24
theorem kC_pI {cy : Nat → ClassId} {ad bk : Nat → Nat} {S : ST} {X : CX} {f i : Nat} {z v : Int} (h8 : f ≠ 8) (h31 : f ≠ 31) (h0 : i = 2 → f ≠ 0) (h26 : i = 1 → f ≠ 26) (hR : 40 ≤ i → i < 55 → rowF (i - 40) ≠ f) (hT : f < 9 ∨ 17 < f) (hP : 1000 ≤ i → i % 2 = 0 → isPF f = true → (((i - 1000) / 2 : Nat) : Int) ≠ z) : kC cy ad bk (pI S f z v) X i = kC cy ad bk S X i := by
  have e8 : (pI S f z v).1 8 = S.1 8 := pI_f S z v (Ne.symm h8)
  have e31 : (pI S f z v).1 31 = S.1 31 := pI_f S z v (Ne.symm h31)
  have eP : nP (pI S f z v) = nP S := by unfold nP; rw [e8]
  have eE : nE (pI S f z v) = nE S := by unfold nE; rw [e31]
  have qe : lsE bk (pI S f z v) = lsE bk S := by unfold lsE; rw [eE]
  have qp : lsP ad (pI S f z v) = lsP ad S := by unfold lsP; rw [eP]
  unfold kC
  rw [eP, eE, qe, qp]
  by_cases c1 : i < 10
  · rw [if_pos c1, if_pos c1]
    unfold kO
    rw [e8, e31]
    split <;> first | rfl | skip
    · rw [pI_f S z v (Ne.symm (h26 rfl))]
    · rw [pI_f S z v (Ne.symm (h0 rfl))]
  · rw [if_neg c1, if_neg c1]
    by_cases c2 : i = 10
    · rw [if_pos c2, if_pos c2]
    · rw [if_neg c2, if_neg c2]
      by_cases c3 : i = 11
      · rw [if_pos c3, if_pos c3]
      · rw [if_neg c3, if_neg c3]
        by_cases c4 : 20 ≤ i ∧ i < 35
        · rw [if_pos c4, if_pos c4]
        · rw [if_neg c4, if_neg c4]
          by_cases c5 : 40 ≤ i ∧ i < 55
          · rw [if_pos c5, if_pos c5, kRow_pI (hR c5.1 c5.2)]
          · rw [if_neg c5, if_neg c5]
            by_cases c6 : 1000 ≤ i ∧ i < 1000 + 2 * nP S
            · rw [if_pos c6, if_pos c6]
              by_cases c7 : i % 2 = 0
              · rw [if_pos c7, if_pos c7]
                have key : ∀ g : Nat, isPF g = true → (pI S f z v).1 g (((i - 1000) / 2 : Nat) : Int) = S.1 g (((i - 1000) / 2 : Nat) : Int) := by
                  intro g hg
                  by_cases e : g = f
                  · subst e
                    exact pI_n S z _ v (Or.inr (hP c6.1 c7 hg))
                  · exact pI_n S z _ v (Or.inl e)
                unfold payF
                rw [key 18 rfl, key 21 rfl, key 40 rfl, key 19 rfl, key 41 rfl, key 42 rfl, key 24 rfl]
              · rw [if_neg c7, if_neg c7]
                unfold trmF
                rw [pI_f S z v (show 9 ≠ f by omega), pI_f S z v (show 10 ≠ f by omega), pI_f S z v (show 11 ≠ f by omega), pI_f S z v (show 12 ≠ f by omega), pI_f S z v (show 13 ≠ f by omega), pI_f S z v (show 14 ≠ f by omega), pI_f S z v (show 15 ≠ f by omega), pI_f S z v (show 16 ≠ f by omega), pI_f S z v (show 17 ≠ f by omega)]
            · rw [if_neg c6, if_neg c6]
              rfl
/-- other rows than those of a scratch or a long field -/
theorem kC_rows {cy : Nat → ClassId} {ad bk : Nat → Nat} {S S' : ST} {X X' : CX} {i : Nat} (h1 : S'.1 = S.1) (h32 : S'.2 32 = S.2 32) (hR : 40 ≤ i → i < 55 → kRow S' X' (i - 40) = kRow S X (i - 40)) : kC cy ad bk S' X' i = kC cy ad bk S X i := by
  have eP : nP S' = nP S := by unfold nP; rw [h1]
  have eE : nE S' = nE S := by unfold nE; rw [h1]
  have qe : lsE bk S' = lsE bk S := by unfold lsE; rw [eE]
  have qp : lsP ad S' = lsP ad S := by unfold lsP; rw [eP]
  unfold kC kO payF trmF entF
  rw [eP, eE, qe, qp, h1, h32]
  by_cases c5 : 40 ≤ i ∧ i < 55
  · rw [hR c5.1 c5.2]
  · rw [if_neg c5, if_neg c5]
theorem kC_row {cy : Nat → ClassId} {ad bk : Nat → Nat} {S : ST} {X : CX} {r : Nat} (hr : r < 15) : kC cy ad bk S X (40 + r) = some (ad (40 + r), cR cy (kLen r) (kRow S X r)) := by
  unfold kC
  rw [if_neg (by omega), if_neg (by omega), if_neg (by omega), if_neg (by omega), if_pos (by omega), show 40 + r - 40 = r by omega]
theorem rowF_inj : ∀ a, a < 15 → ∀ b, b < 15 → rowF a ≠ 1000 → rowF b = rowF a → b = a := by decide
/-- a row's store: a row of ints of the state -/
theorem kW_rI {cy : Nat → ClassId} {ad bk : Nat → Nat} {S : ST} {X : CX} {G : gF} (r : Nat) (hr : r < 15) {z v : Int} (h0 : rowF r ≠ 1000) : gup (kW cy ad bk S X G) (100000 + (40 + r)) (ad (40 + r)) (cR cy (kLen r) (lup (kRow S X r) z (Int64.ofInt v))) = kW cy ad bk (pI S (rowF r) z v) X G := by
  have hb : r ≠ 1 ∧ r ≠ 3 ∧ r ≠ 12 ∧ r ≠ 13 ∧ r ≠ 14 := by
    refine ⟨?_, ?_, ?_, ?_, ?_⟩ <;> (rintro rfl; exact h0 rfl)
  have hv : rowF r = 6 ∨ rowF r = 2 ∨ rowF r = 3 ∨ rowF r = 25 ∨ rowF r = 43 ∨ rowF r = 44 ∨ rowF r = 29 ∨ rowF r = 30 ∨ rowF r = 5 ∨ rowF r = 7 := by
    revert h0
    unfold rowF
    split <;> simp
  refine kW_up ?_ (fun j hj => kC_pI ?_ ?_ ?_ ?_ ?_ ?_ ?_)
  · have e : kRow (pI S (rowF r) z v) X r = lup (kRow S X r) z (Int64.ofInt v) := by
      unfold kRow
      rw [if_neg hb.1, if_neg hb.2.1, if_neg hb.2.2.1, if_neg hb.2.2.2.1, if_neg hb.2.2.2.2, if_neg hb.1, if_neg hb.2.1, if_neg hb.2.2.1, if_neg hb.2.2.2.1, if_neg hb.2.2.2.2]
      funext x
      unfold lup
      by_cases e : x = z
      · subst e
        rw [if_pos rfl, pI_s]
      · rw [if_neg e, pI_n _ _ _ _ (Or.inr e)]
    rw [kC_row hr, e]
  · omega
  · omega
  · omega
  · omega
  · intro a1 a2 e
    have := rowF_inj r hr (j - 40) (by omega) h0 e
    omega
  · omega
  · intro _ _ h
    exfalso
    revert h
    rcases hv with e | e | e | e | e | e | e | e | e | e <;> rw [e] <;> decide
