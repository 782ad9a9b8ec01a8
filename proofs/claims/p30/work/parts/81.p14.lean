/-! the end of the day -/
theorem inv_chg {S : ST} (h : inv S) (hf : finJ S) {b c : Int} (he : S.1 31 0 + cNF S ≤ 28990) (hb : rI b) (hc : rI c) : inv (sChg S b c) ∧ finJ (sChg S b c) := by
  have h1 : inv (sCh1 S b c) ∧ finJ (sCh1 S b c) ∧ (sCh1 S b c).1 31 0 + cNF (sCh1 S b c) ≤ 28991 := by
    unfold sCh1
    split
    · exact ⟨inv_book h _ (by omega) hb (by decide) hc (by decide), fin_book hf _ _ _ _ _, by rw [sBook_31, cNF_book]; omega⟩
    · exact ⟨h, hf, by omega⟩
  unfold sChg
  split
  · exact ⟨inv_book h1.1 _ (by omega) hb (by decide) hc (by decide), fin_book h1.2.1 _ _ _ _ _⟩
  · exact ⟨h1.1, h1.2.1⟩
theorem fin_ed3 {S : ST} (h : inv S) (hf : finJ S) (he : S.1 31 0 + cNF S ≤ 28800) : inv (sEd3 S) ∧ finJ (sEd3 S) := by
  have q : ∀ n : Nat, n ≤ 18 → inv (foS ed3 S n) ∧ finJ (foS ed3 S n) := by
    intro n
    induction n with
    | zero => intro _; exact ⟨h, hf⟩
    | succ n ih =>
      intro hn
      obtain ⟨a, b⟩ := ih (by omega)
      obtain ⟨_, e2, _, e4, _⟩ := ed3_all h.1 he n (by omega)
      rw [foS_s]
      generalize foS ed3 S n = T at a b e2 e4 ⊢
      exact inv_chg a b (by omega) (by unfold rI; omega) (by unfold rI; omega)
  exact q 18 (Nat.le_refl _)
theorem ed4_32 (S : ST) : ∀ n : Nat, (foS ed4 S n).2 32 = S.2 32
  | 0 => rfl
  | n + 1 => by
    rw [foS_s]
    unfold ed4
    rw [pL_f _ _ _ (by decide)]
    exact ed4_32 S n
theorem ed4_21 (S : ST) : ∀ n : Nat, (foS ed4 S n).2 1 = S.2 1
  | 0 => rfl
  | n + 1 => by
    rw [foS_s]
    unfold ed4
    rw [pL_f _ _ _ (by decide)]
    exact ed4_21 S n
theorem sEd4_f (S : ST) {f : Nat} (hf : f ≠ 0) : (sEd4 S).1 f = S.1 f := by
  unfold sEd4
  rw [ed4_1, pI_f _ _ _ hf]
theorem fin_ed4 {S : ST} (h : inv S) (hf : finJ S) (hd : S.1 0 0 < 998) : inv (sEd4 S) ∧ finJ (sEd4 S) := by
  have w0 := wf_0 h.1.1 0
  have o4 : okS (sEd4 S) := okS_1 (okS_pI h.1 (f := 0) 0 (S.1 0 0 + 1) (by decide) (by simp only [rLo, rHi]; omega)) (ed4_1 _ _)
  exact ⟨inv_keep o4 (fun f hf => sEd4_f S (by omega)) (ed4_32 _ _) h, finJ_of (sEd4_f S (by decide)) (sEd4_f S (by decide)) (fun j => by rw [sEd4_f S (by decide)]) hf⟩
/-- before the charges -/
theorem fin_pre {S : ST} (h : inv S) (hf : finJ S) : inv (sEd2 (sEd1 S).2) ∧ finJ (sEd2 (sEd1 S).2) := by
  have a := fin_ed1 h hf
  exact fin_ed2 a.1 a.2
theorem pre_31 {S : ST} (h : inv S) (hf : finJ S) : (sEd2 (sEd1 S).2).1 31 0 + cNF (sEd2 (sEd1 S).2) = S.1 31 0 + cNF S ∧ (sEd2 (sEd1 S).2).1 0 0 = S.1 0 0 ∧ (sEd2 (sEd1 S).2).1 26 0 = S.1 26 0 ∧ (sEd2 (sEd1 S).2).2 = (sEd1 S).2.2 ∧ cNF (sEd2 (sEd1 S).2) = cNF (sEd1 S).2 := by
  have ho := h.1
  obtain ⟨h1, h2, h3⟩ := ed1_all ho (inv_lg4 h.2.1 h.2.2.1 hf) 3
  have e1 : foS ed1 (0, S) 3 = sEd1 S := rfl
  rw [e1] at h1 h2 h3
  have b1 := rdP_bd ho ⟨h1, h2⟩
  obtain ⟨q1, q2, q3, q4⟩ := ed2_all h1.1 h3 (nP (sEd1 S).2) (Nat.le_refl _)
  have e2 : foS ed2 (sEd1 S).2 (nP (sEd1 S).2) = sEd2 (sEd1 S).2 := rfl
  rw [e2] at q1 q2 q3 q4
  have k2 : ∀ (T : ST) (n : Nat), (foS ed2 T n).2 = T.2 := by
    intro T n
    induction n with
    | zero => rfl
    | succ n ih =>
      rw [foS_s]
      generalize foS ed2 T n = U at ih ⊢
      unfold ed2 sRet
      split
      · split <;> exact ih
      · exact ih
  refine ⟨?_, ?_, ?_, ?_, q3⟩
  · rw [q4 31 (by decide), q3]; exact b1.2.2.1
  · rw [q4 0 (by decide), h1.2.2.2 0 (by unfold cht; decide)]
  · rw [q4 26 (by decide), h1.2.2.2 26 (by unfold cht; decide)]
  · exact k2 _ _
theorem fin_end {S : ST} (h : inv S) (hf : finJ S) (he : S.1 31 0 + cNF S ≤ 28700) (hd : S.1 0 0 < 998) : inv (sEndS S) ∧ finJ (sEndS S) := by
  have a := fin_pre h hf
  obtain ⟨p1, p2, _⟩ := pre_31 h hf
  have b := fin_ed3 a.1 a.2 (by omega)
  obtain ⟨_, _, _, _, r5⟩ := ed3_all a.1.1 (by omega) 18 (Nat.le_refl _)
  have e3 : foS ed3 (sEd2 (sEd1 S).2) 18 = sEd3 (sEd2 (sEd1 S).2) := rfl
  rw [e3] at r5
  have c := fin_ed4 b.1 b.2 (by rw [r5 0 (by decide)]; omega)
  exact fin_ed5 c.1 c.2
/-! a payment comes -/
theorem come_15 (S : ST) (b u c v nm h : Int) (rl : Bool) (d : Int) (st : Bool) : (sCome S b u c v nm h rl d st).1 15 (S.1 8 0) = bI rl := by
  rw [come_g S b u c v nm h rl d st (by decide)]
  simp [gCome, sCom1, pI]
theorem come_9 (S : ST) (b u c v nm h : Int) (rl : Bool) (d : Int) (st : Bool) : (sCome S b u c v nm h rl d st).1 9 (S.1 8 0) = b := by
  rw [come_g S b u c v nm h rl d st (by decide)]
  simp [gCome, sCom1, pI]
theorem come_m (S : ST) (b u c v nm h : Int) (rl : Bool) (d : Int) (st : Bool) : (sCome S b u c v nm h rl d st).1 20 (S.1 8 0) = -1 ∧ (sCome S b u c v nm h rl d st).1 40 (S.1 8 0) = -1 ∧ (sCome S b u c v nm h rl d st).1 23 (S.1 8 0) = -1 ∧ (sCome S b u c v nm h rl d st).1 42 (S.1 8 0) = -1 ∧ (sCome S b u c v nm h rl d st).1 19 (S.1 8 0) = S.1 19 (S.1 8 0) := by
  rw [come_g S b u c v nm h rl d st (by decide), come_g S b u c v nm h rl d st (by decide), come_g S b u c v nm h rl d st (by decide), come_g S b u c v nm h rl d st (by decide), come_g S b u c v nm h rl d st (by decide)]
  simp [gCome, sCom1, pI]
theorem come_18 (S : ST) (b u c v nm h : Int) (rl : Bool) (d : Int) (st : Bool) : (sCome S b u c v nm h rl d st).1 18 (S.1 8 0) = 0 ∨ (sCome S b u c v nm h rl d st).1 18 (S.1 8 0) = sEntV (sCom1 S b u c v nm h rl d st) (S.1 8 0) := by
  unfold sCome gCome
  rw [pI_f _ _ _ (by decide), pI_f _ _ _ (by decide), pI_f _ _ _ (by decide)]
  split
  · right; unfold sEnter; rw [pI_s]
  · left; unfold sCom1; rw [pI_s]
theorem inv_come {S : ST} (hi : inv S) (hf : finJ S) {b u c v nm h : Int} {rl : Bool} {d : Int} {st : Bool} (hn : S.1 8 0 < 60) (hb : 0 ≤ b ∧ b ≤ 5) (hu : 0 ≤ u ∧ u ≤ 5) (hc : 0 ≤ c ∧ c ≤ 2) (hv : 0 ≤ v ∧ v ≤ 1000000) (hnm : 0 ≤ nm ∧ nm ≤ 19) (hh : 0 ≤ h ∧ h ≤ 2) (hd : 0 ≤ d ∧ d ≤ 999) : inv (sCome S b u c v nm h rl d st) ∧ finJ (sCome S b u c v nm h rl d st) := by
  obtain ⟨a0, a1, a2, a3, a4, a5, a6, a7, a8, a9, a10, a11⟩ := hi
  have w8 := wf_8 a0.1 0
  obtain ⟨n18, n19, n24⟩ := a9 (S.1 8 0) (Int.le_refl _) hn
  have f8 := come_8 S b u c v nm h rl d st
  have f21 := come_21n S b u c v nm h rl d st
  have f15 := come_15 S b u c v nm h rl d st
  have f9 := come_9 S b u c v nm h rl d st
  obtain ⟨f20, f40, f23, f42, f19⟩ := come_m S b u c v nm h rl d st
  have f18 := come_18 S b u c v nm h rl d st
  have hV := sEntV_c (sCom1 S b u c v nm h rl d st) (S.1 8 0)
  have c15 : (sCom1 S b u c v nm h rl d st).1 15 (S.1 8 0) = bI rl := by simp [sCom1, pI]
  have J : ∀ {f : Nat} {j : Int}, 9 ≤ f → j ≠ S.1 8 0 → (sCome S b u c v nm h rl d st).1 f j = S.1 f j := fun p q => come_j S b u c v nm h rl d st p q
  have F : ∀ {f : Nat}, (f < 8 ∨ (25 ≤ f ∧ f ≤ 39) ∨ 43 ≤ f) → (sCome S b u c v nm h rl d st).1 f = S.1 f := fun p => come_f S b u c v nm h rl d st p
  have e2 := come_2 S b u c v nm h rl d st
  have hO := okS_come (rl := rl) (st := st) a0 hn (by rw [n18]; decide) hb hu hc hv hnm hh hd
  generalize sCome S b u c v nm h rl d st = T at *
  refine ⟨⟨hO, ?_, ?_, smE_of (F (by decide)) (by rw [e2]) a3, toldI_of (F (by decide)) (F (by decide)) (F (by decide)) (F (by decide)) (fun i i0 i1 => J (by decide) (by have := a5 i i0 i1; omega)) a4, ?_, ?_, ?_, ?_, ?_, ?_, ?_⟩, ?_⟩
  · intro k k0 k1
    rw [f8] at k1 ⊢
    by_cases e : k = S.1 8 0
    · rw [e, f21]; exact Or.inl rfl
    · rw [J (by decide) e, J (by decide) e]
      rcases a1 k k0 (by omega) with x | ⟨x0, x1, x2, x3, x4⟩
      · exact Or.inl x
      · exact Or.inr ⟨x0, by omega, x2, by rw [J (by decide) (by omega)]; exact x3, x4⟩
  · intro k k0 k1
    rw [f8] at k1
    by_cases e : k = S.1 8 0
    · rw [e, f15]
      intro x
      rw [← c15]
      rcases f18 with y | y
      · omega
      · exact hV.1 (by omega)
    · rw [J (by decide) e, J (by decide) e]
      exact a2 k k0 (by omega)
  · intro i i0 i1
    rw [F (f := 27) (by decide)] at i1
    rw [F (f := 28) (by decide), f8]
    have := a5 i i0 i1
    omega
  · unfold takI; rw [F (f := 29) (by decide), F (f := 30) (by decide)]; exact a6
  · intro k k0 k1
    rw [f8] at k1
    by_cases e : k = S.1 8 0
    · rw [e]; exact Or.inl ⟨f23, f42⟩
    · rw [J (by decide) e, J (by decide) e]; exact a7 k k0 (by omega)
  · intro k k0 k1
    rw [f8] at k1
    by_cases e : k = S.1 8 0
    · rw [e]; exact ⟨fun _ => by rw [f40, f20], fun _ => by rw [f19, n19]⟩
    · rw [J (by decide) e, J (by decide) e, J (by decide) e, J (by decide) e]; exact a8 k k0 (by omega)
  · intro k k0 k1
    rw [f8] at k0
    rw [J (by decide) (by omega), J (by decide) (by omega), J (by decide) (by omega)]
    exact a9 k (by omega) k1
  · intro x m x0 x1 m0 m1
    rw [F (f := 25) (by decide), f8]
    rcases a10 x m x0 x1 m0 m1 with y | ⟨y0, y1, y2⟩
    · exact Or.inl y
    · exact Or.inr ⟨y0, by omega, by rw [J (by decide) (by omega)]; exact y2⟩
  · intro k k0 k1
    rw [f8] at k1
    by_cases e : k = S.1 8 0
    · rw [e]
      intro x
      rcases f18 with y | y
      · omega
      · exact absurd (y.symm.trans x) hV.2.2
    · rw [J (by decide) e, J (by decide) e, J (by decide) e]; exact a11 k k0 (by omega)
  · intro k k0 k1
    rw [f8] at k1
    by_cases e : k = S.1 8 0
    · rw [e, f21]; exact Or.inl rfl
    · rw [J (by decide) e, J (by decide) e]
      rcases a1 k k0 (by omega) with x | ⟨x0, x1, x2, x3, x4⟩
      · exact Or.inl x
      · rw [J (by decide) (by omega)]
        exact hf k k0 (by omega)
