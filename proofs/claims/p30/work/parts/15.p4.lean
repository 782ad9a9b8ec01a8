/-! what keeps the state in order -/
theorem okS_1 {S T : ST} (h : okS S) (e : T.1 = S.1) : okS T := by
  obtain ⟨h1, h2, h3, h4⟩ := h
  have ec : cNF T = cNF S := by unfold cNF; rw [e]
  exact ⟨fun f j => by rw [e]; exact h1 f j, by rw [e, ec]; exact h2, by rw [e, ec]; exact h3, fun b b0 b1 => by rw [e, ec]; exact h4 b b0 b1⟩
theorem cNF_pI {S : ST} {f : Nat} {k v : Int} (hf : f ≠ 18) : cNF (pI S f k v) = cNF S := by
  unfold cNF
  rw [pI_f S k v (Ne.symm hf)]
theorem okS_pI {S : ST} (h : okS S) {f : Nat} (k v : Int) (hf : f ≠ 18 ∧ f ≠ 27 ∧ f ≠ 31 ∧ f ≠ 44) (hv : rLo f ≤ v ∧ v ≤ rHi f) : okS (pI S f k v) := by
  obtain ⟨h1, h2, h3, h4⟩ := h
  have ec := cNF_pI (S := S) (k := k) (v := v) hf.1
  refine ⟨wf_pI h1 k v hv, ?_, ?_, fun b b0 b1 => ?_⟩
  · rw [ec, pI_f S k v (Ne.symm hf.2.1)]; exact h2
  · rw [ec, pI_f S k v (Ne.symm hf.2.2.1)]; exact h3
  · rw [ec, pI_f S k v (Ne.symm hf.2.2.2)]; exact h4 b b0 b1
/-- a payment's state changes, but not to FINAL or from it -/
theorem cNF_18 {S : ST} {k v : Int} (h0 : 0 ≤ k) (h1 : k < 60) (hs : S.1 18 k ≠ 4) (hv : v ≠ 4) : cNF (pI S 18 k v) = cNF S := by
  have e := suI_at (f := fun j => if S.1 18 j = 4 then 0 else 1) (g := fun j => if (pI S 18 k v).1 18 j = 4 then 0 else 1) (k := k) (n := 60) h0 (by omega) (fun j hj => by rw [pI_n S k j v (Or.inr hj)])
  simp only [pI_s, hs, hv, if_false] at e
  unfold cNF
  omega
theorem okS_18 {S : ST} (h : okS S) {k v : Int} (h0 : 0 ≤ k) (h1 : k < 60) (hs : S.1 18 k ≠ 4) (hv : v ≠ 4) (hr : 0 ≤ v ∧ v ≤ 5) : okS (pI S 18 k v) := by
  obtain ⟨q1, q2, q3, q4⟩ := h
  have ec := cNF_18 h0 h1 hs hv
  refine ⟨wf_pI q1 k v hr, ?_, ?_, fun b b0 b1 => ?_⟩
  · rw [ec, pI_f S k v (show (27 : Nat) ≠ 18 by decide)]; exact q2
  · rw [ec, pI_f S k v (show (31 : Nat) ≠ 18 by decide)]; exact q3
  · rw [ec, pI_f S k v (show (44 : Nat) ≠ 18 by decide)]; exact q4 b b0 b1
theorem sEntV_r (S : ST) (k : Int) : 1 ≤ sEntV S k ∧ sEntV S k ≤ 3 := by
  unfold sEntV
  split
  · omega
  · split <;> omega
theorem okS_ent {S : ST} (h : okS S) {k : Int} (h0 : 0 ≤ k) (h1 : k < 60) (hs : S.1 18 k ≠ 4) : okS (sEnter S k) := by
  have := sEntV_r S k
  exact okS_18 h h0 h1 hs (by omega) (by omega)
theorem sBook_1 (S : ST) (b o c : Int) (v : Int64) (k : Int) : (sBook S b o c v k).1 = (pI S 31 0 (S.1 31 0 + 1)).1 := rfl
theorem cNF_book (S : ST) (b o c : Int) (v : Int64) (k : Int) : cNF (sBook S b o c v k) = cNF S := by
  unfold cNF
  rw [sBook_1, pI_f S 0 _ (show (18 : Nat) ≠ 31 by decide)]
theorem sBook_31 (S : ST) (b o c : Int) (v : Int64) (k : Int) : (sBook S b o c v k).1 31 0 = S.1 31 0 + 1 := by
  rw [sBook_1, pI_s]
theorem sBook_f (S : ST) (b o c : Int) (v : Int64) (k : Int) {f : Nat} (hf : f ≠ 31) : (sBook S b o c v k).1 f = S.1 f := by
  rw [sBook_1, pI_f S 0 _ hf]
theorem okS_book {S : ST} (h : okS S) (b o c : Int) (v : Int64) (k : Int) (he : S.1 31 0 + cNF S ≤ 28999) : okS (sBook S b o c v k) := by
  obtain ⟨q1, q2, q3, q4⟩ := h
  have h31 := wf_31 q1 0
  have hn := cNF_nn S
  have e : okS (pI S 31 0 (S.1 31 0 + 1)) := by
    have ec := cNF_pI (S := S) (f := 31) (k := 0) (v := S.1 31 0 + 1) (by decide)
    refine ⟨wf_pI q1 0 _ ⟨by simp only [rLo]; omega, by simp only [rHi]; omega⟩, ?_, ?_, fun b b0 b1 => ?_⟩
    · rw [ec, pI_f S 0 _ (show (27 : Nat) ≠ 31 by decide)]; exact q2
    · rw [ec, pI_s]; omega
    · rw [ec, pI_f S 0 _ (show (44 : Nat) ≠ 31 by decide)]; exact q4 b b0 b1
  exact okS_1 e (sBook_1 S b o c v k)
/-- legs: FINAL together; none is NETTED -/
def lg4 (S : ST) : Prop := ∀ k : Int, 0 ≤ k → k < S.1 8 0 → S.1 21 k = -1 ∨ ((S.1 18 k = 4 ↔ S.1 18 (S.1 21 k) = 4) ∧ S.1 18 k ≠ 3 ∧ S.1 18 (S.1 21 k) ≠ 3)
theorem okS_ret {S : ST} (h : okS S) {k : Int} (h0 : 0 ≤ k) (h1 : k < S.1 8 0) (hs : S.1 18 k ≠ 4) (hl : lg4 S) : okS (sRet S k) := by
  have h8 := wf_8 h.1 0
  have ha := okS_18 h h0 (by omega) hs (v := 5) (by decide) (by decide)
  unfold sRet
  split
  · rename_i hr
    simp only [sRe1, Bool.and_eq_true, Bool.not_eq_true', decide_eq_false_iff_not] at hr
    have h21 := wf_21 h.1 k
    rcases hl k h0 h1 with q | ⟨q, _, _⟩
    · exact absurd q hr.1
    · refine okS_18 ha (by omega) (by omega) ?_ (by decide) (by decide)
      by_cases e : S.1 21 k = k
      · rw [e, pI_s]; decide
      · rw [pI_n _ _ _ _ (Or.inr e)]
        exact fun x => hs (q.mpr x)
  · exact ha
theorem sRet_18 (S : ST) (k j : Int) : (sRet S k).1 18 j = 5 ∨ (sRet S k).1 18 j = S.1 18 j := by
  unfold sRet
  split
  · by_cases e : j = S.1 21 k
    · rw [e, pI_s]; exact Or.inl rfl
    · rw [pI_n _ _ _ _ (Or.inr e)]
      by_cases e2 : j = k
      · rw [e2, pI_s]; exact Or.inl rfl
      · rw [pI_n _ _ _ _ (Or.inr e2)]; exact Or.inr rfl
  · by_cases e2 : j = k
    · rw [e2, pI_s]; exact Or.inl rfl
    · rw [pI_n _ _ _ _ (Or.inr e2)]; exact Or.inr rfl
theorem sRet_f (S : ST) (k : Int) {f : Nat} (hf : f ≠ 18) : (sRet S k).1 f = S.1 f := by
  unfold sRet
  split
  · rw [pI_f _ _ _ hf, pI_f _ _ _ hf]
  · rw [pI_f _ _ _ hf]
theorem sRet_4 {S : ST} {k j : Int} (hs : S.1 18 k ≠ 4) (hg : S.1 21 k = -1 ∨ (S.1 18 k = 4 ↔ S.1 18 (S.1 21 k) = 4)) : (sRet S k).1 18 j = 4 ↔ S.1 18 j = 4 := by
  unfold sRet
  split
  · rename_i hr
    simp only [sRe1, Bool.and_eq_true, Bool.not_eq_true', decide_eq_false_iff_not] at hr
    have hleg : S.1 18 (S.1 21 k) ≠ 4 := by
      rcases hg with q | q
      · exact absurd q hr.1
      · exact fun x => hs (q.mpr x)
    by_cases e : j = S.1 21 k
    · rw [e, pI_s]
      constructor
      · intro x; omega
      · intro x; exact absurd x hleg
    · rw [pI_n _ _ _ _ (Or.inr e)]
      by_cases e2 : j = k
      · rw [e2, pI_s]
        constructor
        · intro x; omega
        · intro x; exact absurd x hs
      · rw [pI_n _ _ _ _ (Or.inr e2)]
  · by_cases e2 : j = k
    · rw [e2, pI_s]
      constructor
      · intro x; omega
      · intro x; exact absurd x hs
    · rw [pI_n _ _ _ _ (Or.inr e2)]
theorem lg4_ret {S : ST} {k : Int} (h0 : 0 ≤ k) (h1 : k < S.1 8 0) (hs : S.1 18 k ≠ 4) (hl : lg4 S) : lg4 (sRet S k) := by
  intro j j0 j1
  rw [sRet_f S k (show (8 : Nat) ≠ 18 by decide)] at j1
  rw [sRet_f S k (show (21 : Nat) ≠ 18 by decide)]
  have hg : S.1 21 k = -1 ∨ (S.1 18 k = 4 ↔ S.1 18 (S.1 21 k) = 4) := (hl k h0 h1).imp id (fun q => q.1)
  rcases hl j j0 j1 with q | ⟨q1, q2, q3⟩
  · exact Or.inl q
  · refine Or.inr ⟨by rw [sRet_4 hs hg, sRet_4 hs hg]; exact q1, ?_, ?_⟩
    · rcases sRet_18 S k j with e | e <;> rw [e]
      · decide
      · exact q2
    · rcases sRet_18 S k (S.1 21 j) with e | e <;> rw [e]
      · decide
      · exact q3
theorem cNF_ret {S : ST} {k : Int} (hs : S.1 18 k ≠ 4) (hg : S.1 21 k = -1 ∨ (S.1 18 k = 4 ↔ S.1 18 (S.1 21 k) = 4)) : cNF (sRet S k) = cNF S := by
  unfold cNF
  refine suI_congr (fun j _ _ => ?_)
  have := sRet_4 (j := j) hs hg
  by_cases e : S.1 18 j = 4
  · rw [if_pos e, if_pos (this.mpr e)]
  · rw [if_neg e, if_neg (fun x => e (this.mp x))]
/-! the parts of a day's end -/
def netI (S : ST) (c : Int) : Int → Bool := fun k => decide (k < S.1 8 0) && decide (S.1 18 k = 3) && decide (S.1 11 k = c) && decide (S.1 5 (S.1 9 k) = 0) && decide (S.1 5 (S.1 10 k) = 0)
def offI (S : ST) (c : Int) : Int → Bool := fun k => decide (k < S.1 8 0) && decide (S.1 18 k = 2) && decide (S.1 11 k = c) && decide (S.1 21 k = -1) && decide (S.1 5 (S.1 9 k) = 0) && decide (S.1 5 (S.1 10 k) = 0)
theorem sRedN_congr {S : ST} {c : Int} {q : Bool} (hc : 0 ≤ c ∧ c ≤ 2) : ∀ (n : Nat) (I J : Int → Bool), (∀ j : Int, 0 ≤ j → j < nP S → I j = J j) → ∀ j : Int, 0 ≤ j → j < nP S → sRedN S c q n I j = sRedN S c q n J j
  | 0, _, _, h, j, j0, j1 => h j j0 j1
  | n + 1, I, J, h, j, j0, j1 => by
    have ef := fit_congr (S := S) (c := c) hc h
    have eo : outO S I c q = outO S J c q := by
      unfold outO
      rw [outX_congr (a' := dS S J (nP S)) (p' := pS S J (nP S)) hc (fun x _ _ => dS_congr h) (fun x _ _ => pS_congr h)]
      have el : ∀ b u : Int, ∀ m : Nat, m ≤ nP S → laS S I b u q m = laS S J b u q m := by
        intro b u m
        induction m with
        | zero => intro _; rfl
        | succ m ih =>
          intro hm
          rw [laS_s, laS_s, ih (by omega)]
          unfold laN
          rw [h m (by omega) (by omega)]
      unfold outX o1X o2X
      rw [foS_congr (f := fun k r => if shX S (dS S J (nP S)) (5 - k) c = true then laS S I (5 - k) (-1) q (nP S) else r) (g := fun k r => if shX S (dS S J (nP S)) (5 - k) c = true then laS S J (5 - k) (-1) q (nP S) else r) (n := 6) (fun k h1 h2 x => by rw [el _ _ _ (Nat.le_refl _)]),
        foS_congr (f := fun k r => if paX S (pS S J (nP S)) ((35 - k) / 6) ((35 - k) % 6) c = true then laS S I ((35 - k) / 6) ((35 - k) % 6) q (nP S) else r) (g := fun k r => if paX S (pS S J (nP S)) ((35 - k) / 6) ((35 - k) % 6) c = true then laS S J ((35 - k) / 6) ((35 - k) % 6) q (nP S) else r) (n := 36) (fun k h1 h2 x => by rw [el _ _ _ (Nat.le_refl _)])]
    unfold sRedN
    rw [ef]
    split
    · exact h j j0 j1
    · refine sRedN_congr hc n _ _ (fun i i0 i1 => ?_) j j0 j1
      rw [eo]
      unfold iup
      split
      · rfl
      · exact h i i0 i1
theorem sRedS_congr {S : ST} {I J : Int → Bool} {c : Int} {q : Bool} (hc : 0 ≤ c ∧ c ≤ 2) (h : ∀ j : Int, 0 ≤ j → j < nP S → I j = J j) : sRedS S I c q = sRedS S J c q := by
  have h2 := sRedN_congr (q := q) hc 61 I J h
  unfold sRedS sRed
  rw [cnB_congr h2, sSets_congr h2]
theorem sRedS_ok {S : ST} (ho : okS S) {I : Int → Bool} {c : Int} {q : Bool} (hI : ∀ j : Int, 0 ≤ j → j < nP S → I j = true → S.1 18 j ≠ 4) : rdOk S (sRedS S I c q) ∧ ∀ j : Int, (sRedS S I c q).2.1 18 j = S.1 18 j ∨ (0 ≤ j ∧ j < nP S ∧ I j = true) := by
  have hI2 : ∀ j : Int, 0 ≤ j → j < nP S → sRed S I c q j = true → S.1 18 j ≠ 4 := fun j a b h => hI j a b (sRedN_sub 61 I j h)
  obtain ⟨r1, r2, r3, r4⟩ := sSets_inv (I := sRed S I c q) ho (nP S) (nP_le ho.1) hI2
  refine ⟨rdOk_mk r1 (cnB_nn _ _) (by omega) r2, fun j => ?_⟩
  have key : ∀ n : Nat, n ≤ nP S → (sSets S (sRed S I c q) n).1 18 j = S.1 18 j ∨ (0 ≤ j ∧ j < n ∧ I j = true) := by
    intro n
    induction n with
    | zero => intro _; exact Or.inl rfl
    | succ n ih =>
      intro hn
      rw [sSets_s]
      split
      · rename_i hs
        rw [sFin_18]
        split
        · rename_i e
          exact Or.inr ⟨by omega, by omega, by rw [e]; exact sRedN_sub 61 I _ hs⟩
        · rcases ih (by omega) with h | ⟨h1, h2, h3⟩
          · exact Or.inl h
          · exact Or.inr ⟨h1, by omega, h3⟩
      · rcases ih (by omega) with h | ⟨h1, h2, h3⟩
        · exact Or.inl h
        · exact Or.inr ⟨h1, by omega, h3⟩
  rcases key (nP S) (Nat.le_refl _) with h | h
  · exact Or.inl h
  · exact Or.inr h
def sCut (S : ST) (c : Int) : Int × ST := sRedS S (netI S c) c false
theorem netI_3 {S : ST} {c k : Int} (h : netI S c k = true) : S.1 18 k = 3 := by
  simp only [netI, Bool.and_eq_true, decide_eq_true_eq] at h
  exact h.1.1.1.2
theorem sCut_ok {S : ST} (ho : okS S) (hl : lg4 S) (c : Int) : rdOk S (sCut S c) ∧ lg4 (sCut S c).2 := by
  obtain ⟨r1, r2⟩ := sRedS_ok (I := netI S c) (c := c) (q := false) ho (fun j _ _ h => by rw [netI_3 h]; decide)
  refine ⟨r1, fun k k0 k1 => ?_⟩
  have f8 : (sCut S c).2.1 8 = S.1 8 := r1.2.2.2 8 (by unfold cht; decide)
  have f21 : (sCut S c).2.1 21 = S.1 21 := r1.2.2.2 21 (by unfold cht; decide)
  rw [f8] at k1
  rw [f21]
  rcases hl k k0 k1 with q | ⟨q1, q2, q3⟩
  · exact Or.inl q
  · have e : ∀ j : Int, S.1 18 j ≠ 3 → (sCut S c).2.1 18 j = S.1 18 j := fun j hj => by
      rcases r2 j with h | ⟨_, _, h⟩
      · exact h
      · exact absurd (netI_3 h) hj
    rw [e k q2, e _ q3]
    exact Or.inr ⟨q1, q2, q3⟩
def ed1 (c : Int) (x : Int × ST) : Int × ST := if sOpen x.2 c (x.2.1 0 0) = true then (x.1 + (sCut x.2 c).1, (sCut x.2 c).2) else (x.1 + 0, x.2)
def sEd1 (S : ST) : Int × ST := foS ed1 (0, S) 3
def ed2 (k : Int) (S : ST) : ST := if ((decide (S.1 18 k = 2) || decide (S.1 18 k = 3)) && decide (S.1 17 k = 0) && sOpen S (S.1 11 k) (S.1 0 0)) = true then sRet S k else S
def sEd2 (S : ST) : ST := foS ed2 S (nP S)
def feB (S : ST) (b c k : Int) : Bool := decide (S.1 18 k = 4) && decide (S.1 22 k = S.1 0 0) && decide (S.1 9 k = b) && decide (S.1 11 k = c)
def feK (S : ST) (b c k : Int) : Int := if feB S b c k = false then 0 else if S.1 15 k = 0 then 1 else 2
def sFee (S : ST) (b c : Int) (n : Nat) : Int := suI (feK S b c) n
def sBel (S : ST) (b c : Int) : Int64 := if S.2 1 (3 * b + c) < 0 then -(S.2 1 (3 * b + c)) else 0
def sInt (S : ST) (b c : Int) : Int64 := (sBel S b c + 99) / 100
def sCh1 (S : ST) (b c : Int) : ST := if 0 < sFee S b c (nP S) then sBook S b 6 c (Int64.ofInt (sFee S b c (nP S))) (-1) else S
def sChg (S : ST) (b c : Int) : ST := if 0 < sInt S b c then sBook (sCh1 S b c) b 6 c (sInt S b c) (-1) else sCh1 S b c
theorem sFee_r (S : ST) (b c : Int) (n : Nat) : 0 ≤ sFee S b c n ∧ sFee S b c n ≤ 2 * n := by
  constructor
  · exact suI_nn (fun k _ _ => by unfold feK; split; · omega
                                  · split <;> omega)
  · have h := suI_bd (f := feK S b c) (B := 2) (n := n) (fun k _ _ => by unfold feK; split; · omega
                                                                         · split <;> omega)
    exact h.2
def ed3 (k : Int) (S : ST) : ST := sChg S (k / 3) (k % 3)
def sEd3 (S : ST) : ST := foS ed3 S 18
def ed4 (k : Int) (S : ST) : ST := pL S 4 k 0
def sEd4 (S : ST) : ST := foS ed4 (pI S 0 0 (S.1 0 0 + 1)) 108
def ed5 (k : Int) (S : ST) : ST := if (decide (S.1 18 k = 0) && decide (S.1 16 k ≤ S.1 0 0) && sOpen S (S.1 11 k) (S.1 0 0)) = true then sEnter S k else S
def sEd5 (S : ST) : ST := foS ed5 S (nP S)
