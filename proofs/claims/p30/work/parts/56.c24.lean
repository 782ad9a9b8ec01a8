/-! settleFirst: who is in the set, and whether it settles -/
def kM1 (I : Int → Bool) (k : Int) : Int → Bool := iup (kCl I) k true
def kD1 (S : ST) (a : Int → Int64) (k : Int) : Int → Int64 := kC1 S k (Int64.ofInt (S.1 12 k)) (flG a 0 21)
def kE1 (S : ST) (a : Int → Int64) (k : Int) : Int → Int64 := kQ1 S k (Int64.ofInt (S.1 12 k)) (flG a 0 108)
def kM2 (I : Int → Bool) (k u : Int) : Int → Bool := iup (kM1 I k) u true
def kD2 (S : ST) (a : Int → Int64) (k u : Int) : Int → Int64 := kC1 S u (Int64.ofInt (S.1 12 u)) (kD1 S a k)
def kE2 (S : ST) (a : Int → Int64) (k u : Int) : Int → Int64 := kQ1 S u (Int64.ofInt (S.1 12 u)) (kE1 S a k)
/-- the set, if it settles -/
def kSF (S : ST) (I : Int → Bool) (a q : Int → Int64) (b c : Int) : Option (Int → Bool) :=
  let k := kNx S b c (-1) (nP S)
  if k = -1 then none else if moves S k = false then none
  else if S.1 21 k = -1 then (if kFit S (kD1 S a k) (kE1 S q k) c = true then some (kM1 I k) else none)
  else if ¬ S.1 18 (S.1 21 k) = 2 then none else if moves S (S.1 21 k) = false then none
  else if kFit S (kD2 S a k (S.1 21 k)) (kE2 S q k (S.1 21 k)) (S.1 11 (S.1 21 k)) = false then none
  else if kFit S (kD2 S a k (S.1 21 k)) (kE2 S q k (S.1 21 k)) c = true then some (kM2 I k (S.1 21 k)) else none
def kSFn (S : ST) (x : Option (Int → Bool)) : Int := match x with | none => 0 | some J => cnB J (nP S)
def kSFs (S : ST) (x : Option (Int → Bool)) : ST := match x with | none => S | some J => sSets S J (nP S)
theorem kNx_q (S : ST) (b c : Int) : ∀ n : Nat, kNx S b c (-1) n = -1 ∨ (S.1 18 (kNx S b c (-1) n) = 2 ∧ S.1 11 (kNx S b c (-1) n) = c ∧ S.1 9 (kNx S b c (-1) n) = b)
  | 0 => Or.inl rfl
  | n + 1 => by
    rw [kNx_s]
    unfold kNxB
    split
    · rename_i h
      simp only [Bool.and_eq_true, decide_eq_true_eq] at h
      exact Or.inr ⟨h.1.1.1.1, h.1.1.1.2, h.1.1.2⟩
    · exact kNx_q S b c n
theorem kM1_h {S : ST} {I : Int → Bool} {k : Int} (hw : wf S) (h : S.1 18 k = 2) : ∀ j : Int, 0 ≤ j → j < nP S → kM1 I k j = true → S.1 18 j ≠ 4 := by
  intro j j0 j1 hj
  have h60 := nP_le hw
  unfold kM1 iup at hj
  split at hj
  · rename_i e; rw [e, h]; decide
  · unfold kCl at hj
    rw [if_pos (by omega)] at hj
    cases hj
theorem kM2_h {S : ST} {I : Int → Bool} {k u : Int} (hw : wf S) (h : S.1 18 k = 2) (h2 : S.1 18 u = 2) : ∀ j : Int, 0 ≤ j → j < nP S → kM2 I k u j = true → S.1 18 j ≠ 4 := by
  intro j j0 j1 hj
  unfold kM2 iup at hj
  split at hj
  · rename_i e; rw [e, h2]; decide
  · exact kM1_h (I := I) hw h j j0 j1 hj
