/-! one payment becomes FINAL; a set of them -/
def sBk (S : ST) (k : Int) : ST := sBook (pI (pI S 18 k 4) 22 k (S.1 0 0)) (S.1 9 k) (S.1 10 k) (S.1 11 k) (Int64.ofInt (S.1 12 k)) k
def sPd (S : ST) (k : Int) : ST := pL (sBk S k) 4 (3 * (6 * S.1 9 k + S.1 10 k) + S.1 11 k) ((sBk S k).2 4 (3 * (6 * S.1 9 k + S.1 10 k) + S.1 11 k) + Int64.ofInt (S.1 12 k))
def sFinM (S : ST) (k : Int) : ST := pI (pI (pL (sPd S k) 4 (3 * (6 * S.1 10 k + S.1 9 k) + S.1 11 k) ((sPd S k).2 4 (3 * (6 * S.1 10 k + S.1 9 k) + S.1 11 k) - Int64.ofInt (S.1 12 k))) 28 (S.1 27 0) k) 27 0 (S.1 27 0 + 1)
/-- with what the class holds of it: the day, the bank's advice -/
def sFin (S : ST) (k : Int) : ST := pI (pI (pI (sFinM S k) 41 k (S.1 0 0)) 43 (60 * S.1 10 k + S.1 44 (S.1 10 k)) k) 44 (S.1 10 k) (S.1 44 (S.1 10 k) + 1)
def sSets (S : ST) (I : Int → Bool) (n : Nat) : ST := foS (fun k S => if I k = true then sFin S k else S) S n
def cnB (I : Int → Bool) (n : Nat) : Int := suI (fun k => bI (I k)) n
theorem sSets_s (S : ST) (I : Int → Bool) (n : Nat) : sSets S I (n + 1) = if I n = true then sFin (sSets S I n) n else sSets S I n := rfl
theorem cnB_s (I : Int → Bool) (n : Nat) : cnB I (n + 1) = cnB I n + bI (I n) := rfl
/-- how many are not FINAL -/
def cNF (S : ST) : Int := suI (fun k => if S.1 18 k = 4 then 0 else 1) 60
theorem suI_at {f g : Int → Int} {k : Int} : ∀ {n : Nat}, 0 ≤ k → k < n → (∀ j : Int, j ≠ k → g j = f j) → suI g n = suI f n + (g k - f k)
  | 0, h1, h2, _ => by omega
  | n + 1, h1, h2, h => by
    rw [suI, suI]
    by_cases hk : k = n
    · subst hk
      rw [suI_congr (f := g) (g := f) (n := n) (fun j a b => h j (by omega))]
      omega
    · rw [suI_at h1 (by omega) h, h n (by omega)]
      omega
theorem suI_nn {f : Int → Int} : ∀ {n : Nat}, (∀ j : Int, 0 ≤ j → j < n → 0 ≤ f j) → 0 ≤ suI f n
  | 0, _ => by simp [suI]
  | n + 1, h => by
    have h1 := suI_nn (f := f) (n := n) (fun j a b => h j a (by omega))
    have h2 := h n (by omega) (by omega)
    rw [suI]
    omega
theorem suI_le {f g : Int → Int} : ∀ {n : Nat}, (∀ j : Int, 0 ≤ j → j < n → f j ≤ g j) → suI f n ≤ suI g n
  | 0, _ => by simp [suI]
  | n + 1, h => by
    have h1 := suI_le (f := f) (g := g) (n := n) (fun j a b => h j a (by omega))
    have h2 := h n (by omega) (by omega)
    rw [suI, suI]
    omega
theorem cNF_nn (S : ST) : 0 ≤ cNF S := suI_nn (fun j _ _ => by split <;> omega)
theorem cNF_pos {S : ST} {k : Int} (h0 : 0 ≤ k) (h1 : k < 60) (h : S.1 18 k ≠ 4) : 1 ≤ cNF S := by
  have e := suI_at (f := fun j => if j = k then 0 else if S.1 18 j = 4 then 0 else 1) (g := fun k => if S.1 18 k = 4 then 0 else 1) (k := k) (n := 60) h0 (by omega) (fun j hj => by simp [hj])
  have n1 := suI_nn (f := fun j => if j = k then 0 else if S.1 18 j = 4 then 0 else 1) (n := 60) (fun j _ _ => by split <;> (try split) <;> omega)
  simp only [h, if_false, if_true] at e
  unfold cNF
  omega
/-- what holds of the state at every point: ranges; who is FINAL is counted; the book has room; advices have room -/
def okS (S : ST) : Prop := wf S ∧ S.1 27 0 + cNF S = 60 ∧ S.1 31 0 + cNF S ≤ 29000 ∧ ∀ b : Int, 0 ≤ b → b ≤ 5 → S.1 44 b + cNF S ≤ 60
theorem sFin_1 (S : ST) (k : Int) : (sFin S k).1 = (pI (pI (pI (pI (pI (pI (pI (pI S 18 k 4) 22 k (S.1 0 0)) 31 0 (S.1 31 0 + 1)) 28 (S.1 27 0) k) 27 0 (S.1 27 0 + 1)) 41 k (S.1 0 0)) 43 (60 * S.1 10 k + S.1 44 (S.1 10 k)) k) 44 (S.1 10 k) (S.1 44 (S.1 10 k) + 1)).1 := rfl
theorem sFin_18 (S : ST) (k j : Int) : (sFin S k).1 18 j = if j = k then 4 else S.1 18 j := by
  rw [sFin_1]
  simp [pI]
theorem sFin_f (S : ST) (k : Int) {f : Nat} (h : f ≠ 18 ∧ f ≠ 22 ∧ f ≠ 31 ∧ f ≠ 28 ∧ f ≠ 27 ∧ f ≠ 41 ∧ f ≠ 43 ∧ f ≠ 44) : (sFin S k).1 f = S.1 f := by
  obtain ⟨h1, h2, h3, h4, h5, h6, h7, h8⟩ := h
  rw [sFin_1, pI_f _ _ _ h8, pI_f _ _ _ h7, pI_f _ _ _ h6, pI_f _ _ _ h5, pI_f _ _ _ h4, pI_f _ _ _ h3, pI_f _ _ _ h2, pI_f _ _ _ h1]
theorem cNF_sFin {S : ST} {k : Int} (h0 : 0 ≤ k) (h1 : k < 60) (h : S.1 18 k ≠ 4) : cNF (sFin S k) = cNF S - 1 := by
  have e := suI_at (f := fun k => if S.1 18 k = 4 then 0 else 1) (g := fun j => if (sFin S k).1 18 j = 4 then 0 else 1) (k := k) (n := 60) h0 (by omega) (fun j hj => by rw [sFin_18, if_neg hj])
  simp only [sFin_18, h, if_false, if_true] at e
  unfold cNF
  simp only [sFin_18]
  omega
theorem sFin_ok {S : ST} (ho : okS S) {k : Int} (h0 : 0 ≤ k) (h1 : k < 60) (h : S.1 18 k ≠ 4) : okS (sFin S k) := by
  obtain ⟨hw, hf, he, hc⟩ := ho
  have hp := cNF_pos h0 h1 h
  have hn := cNF_sFin h0 h1 h
  have r10 := wf_10 hw k
  have hcb := hc (S.1 10 k) r10.1 r10.2
  have r44 := wf_44 hw (S.1 10 k)
  have r0 := wf_0 hw 0
  have r27 := wf_27 hw 0
  have r31 := wf_31 hw 0
  have hw' : wf (sFin S k) := by
    have q : wf (pI (pI (pI (pI (pI (pI (pI (pI S 18 k 4) 22 k (S.1 0 0)) 31 0 (S.1 31 0 + 1)) 28 (S.1 27 0) k) 27 0 (S.1 27 0 + 1)) 41 k (S.1 0 0)) 43 (60 * S.1 10 k + S.1 44 (S.1 10 k)) k) 44 (S.1 10 k) (S.1 44 (S.1 10 k) + 1)) := by
      refine wf_pI (wf_pI (wf_pI (wf_pI (wf_pI (wf_pI (wf_pI (wf_pI hw _ _ ?_) _ _ ?_) _ _ ?_) _ _ ?_) _ _ ?_) _ _ ?_) _ _ ?_) _ _ ?_ <;> (simp only [rLo, rHi]; omega)
    exact q
  refine ⟨hw', ?_, ?_, fun b hb0 hb1 => ?_⟩
  · rw [hn, sFin_1]
    simp [pI]
    omega
  · rw [hn, sFin_1]
    simp [pI]
    omega
  · rw [hn, sFin_1]
    have hb := hc b hb0 hb1
    by_cases hbe : b = S.1 10 k
    · simp [pI, hbe]
      omega
    · simp [pI, hbe]
      omega
def cht (f : Nat) : Prop := f ≠ 18 ∧ f ≠ 22 ∧ f ≠ 31 ∧ f ≠ 28 ∧ f ≠ 27 ∧ f ≠ 41 ∧ f ≠ 43 ∧ f ≠ 44
theorem sSets_inv {S : ST} {I : Int → Bool} (ho : okS S) : ∀ (n : Nat), n ≤ 60 → (∀ j : Int, 0 ≤ j → j < n → I j = true → S.1 18 j ≠ 4) → okS (sSets S I n) ∧ (∀ f : Nat, cht f → (sSets S I n).1 f = S.1 f) ∧ (∀ j : Int, n ≤ j → (sSets S I n).1 18 j = S.1 18 j) ∧ cNF (sSets S I n) = cNF S - cnB I n
  | 0, _, _ => ⟨ho, fun _ _ => rfl, fun _ _ => rfl, by simp [sSets, foS, cnB, suI]⟩
  | n + 1, hn, h => by
    obtain ⟨h1, h2, h3, h4⟩ := sSets_inv (I := I) ho n (by omega) (fun j a b => h j a (by omega))
    rw [sSets_s, cnB_s]
    by_cases hI : I n = true
    · rw [if_pos hI, hI]
      have h18 : (sSets S I n).1 18 n ≠ 4 := by
        rw [h3 n (by omega)]
        exact h n (by omega) (by omega) hI
      refine ⟨sFin_ok h1 (by omega) (by omega) h18, fun f hf => by rw [sFin_f _ _ hf, h2 f hf], fun j hj => by rw [sFin_18, if_neg (by omega), h3 j (by omega)], ?_⟩
      rw [cNF_sFin (by omega) (by omega) h18, h4]
      simp [bI]
      omega
    · have hf : I n = false := by simpa using hI
      rw [if_neg hI, hf]
      refine ⟨h1, h2, fun j hj => h3 j (by omega), ?_⟩
      rw [h4]
      simp [bI]
