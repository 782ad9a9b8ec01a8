theorem lsB_ok {S : ST} {x : Int × ST} {nm k : Int} {is : Bool} (h0 : 0 ≤ k) (h1 : k < 60) (h : okS x.2 ∧ cNF x.2 = cNF S ∧ 0 ≤ x.1 ∧ x.1 ≤ k ∧ ∀ f : Nat, f ≠ 18 → x.2.1 f = S.1 f) : okS (lsB nm is k x).2 ∧ cNF (lsB nm is k x).2 = cNF S ∧ 0 ≤ (lsB nm is k x).1 ∧ (lsB nm is k x).1 ≤ k + 1 ∧ ∀ f : Nat, f ≠ 18 → (lsB nm is k x).2.1 f = S.1 f := by
  obtain ⟨q1, q2, q3, q4, q5⟩ := h
  unfold lsB
  split
  · rename_i hc
    simp only [lsC, Bool.and_eq_true, Bool.or_eq_true, decide_eq_true_eq] at hc
    exact ⟨okS_18 q1 h0 h1 (by omega) (by decide) (by decide), (cNF_18 h0 h1 (by omega) (by decide)).trans q2, by show 0 ≤ x.1 + 1; omega, by show x.1 + 1 ≤ k + 1; omega, fun f hf => (pI_f _ _ _ hf).trans (q5 f hf)⟩
  · exact ⟨q1, q2, q3, by omega, q5⟩
theorem sCom1_18 (S : ST) (b u c v nm h : Int) (rl : Bool) (d : Int) (st : Bool) (j : Int) : (sCom1 S b u c v nm h rl d st).1 18 j = (pI S 18 (S.1 8 0) 0).1 18 j := by
  unfold sCom1
  by_cases e : j = S.1 8 0
  · rw [e, pI_s, pI_s]
  · rw [pI_n _ _ _ _ (Or.inr e), pI_n _ _ _ _ (Or.inr e)]
    simp [pI, e]
theorem okS_com1 {S : ST} (ho : okS S) {b u c v nm h : Int} {rl : Bool} {d : Int} {st : Bool} (hn : S.1 8 0 < 60) (hs : S.1 18 (S.1 8 0) ≠ 4) (hb : 0 ≤ b ∧ b ≤ 5) (hu : 0 ≤ u ∧ u ≤ 5) (hc : 0 ≤ c ∧ c ≤ 2) (hv : 0 ≤ v ∧ v ≤ 1000000) (hnm : 0 ≤ nm ∧ nm ≤ 19) (hh : 0 ≤ h ∧ h ≤ 2) (hd : 0 ≤ d ∧ d ≤ 999) : okS (sCom1 S b u c v nm h rl d st) := by
  have h80 := wf_8 ho.1 0
  have hrl := bI_01 rl
  have hst := bI_01 st
  unfold sCom1
  refine okS_18 ?_ (by omega) (by omega) ?_ (by decide) (by decide)
  · exact okS_pI (okS_pI (okS_pI (okS_pI (okS_pI (okS_pI (okS_pI (okS_pI (okS_pI (okS_pI (okS_pI (okS_pI (okS_pI ho _ _ (by decide) ⟨by simp only [rLo]; omega, by simp only [rHi]; omega⟩) _ _ (by decide) ⟨by simp only [rLo]; omega, by simp only [rHi]; omega⟩) _ _ (by decide) ⟨by simp only [rLo]; omega, by simp only [rHi]; omega⟩) _ _ (by decide) ⟨by simp only [rLo]; omega, by simp only [rHi]; omega⟩) _ _ (by decide) ⟨by simp only [rLo]; omega, by simp only [rHi]; omega⟩) _ _ (by decide) ⟨by simp only [rLo]; omega, by simp only [rHi]; omega⟩) _ _ (by decide) ⟨by simp only [rLo]; omega, by simp only [rHi]; omega⟩) _ _ (by decide) ⟨by simp only [rLo]; omega, by simp only [rHi]; omega⟩) _ _ (by decide) ⟨by simp only [rLo]; omega, by simp only [rHi]; omega⟩) _ _ (by decide) ⟨by simp only [rLo]; omega, by simp only [rHi]; omega⟩) _ _ (by decide) ⟨by simp only [rLo]; omega, by simp only [rHi]; omega⟩) _ _ (by decide) ⟨by simp only [rLo]; omega, by simp only [rHi]; omega⟩) _ _ (by decide) ⟨by simp only [rLo]; omega, by simp only [rHi]; omega⟩
  · simp [pI]
    exact hs
theorem okS_come {S : ST} (ho : okS S) {b u c v nm h : Int} {rl : Bool} {d : Int} {st : Bool} (hn : S.1 8 0 < 60) (hs : S.1 18 (S.1 8 0) ≠ 4) (hb : 0 ≤ b ∧ b ≤ 5) (hu : 0 ≤ u ∧ u ≤ 5) (hc : 0 ≤ c ∧ c ≤ 2) (hv : 0 ≤ v ∧ v ≤ 1000000) (hnm : 0 ≤ nm ∧ nm ≤ 19) (hh : 0 ≤ h ∧ h ≤ 2) (hd : 0 ≤ d ∧ d ≤ 999) : okS (sCome S b u c v nm h rl d st) := by
  have h80 := wf_8 ho.1 0
  have h1 := okS_com1 ho (rl := rl) (st := st) hn hs hb hu hc hv hnm hh hd
  unfold sCome gCome
  refine okS_pI (okS_pI (okS_pI ?_ _ _ (by decide) ⟨by simp only [rLo]; omega, by simp only [rHi]; omega⟩) _ _ (by decide) ⟨by simp only [rLo]; omega, by simp only [rHi]; omega⟩) _ _ (by decide) ⟨by simp only [rLo]; omega, by simp only [rHi]; omega⟩
  split
  · exact okS_ent h1 (by omega) (by omega) (by rw [sCom1_18, pI_s]; decide)
  · exact h1
