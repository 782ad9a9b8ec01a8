/-! the end of a day, and a payment that comes -/
def qq (f : Int → Int64) (S0 T : ST) : Prop := (inv T ∧ finJ T) ∧ kI f T ∧ evS S0 T
theorem qq_ed2 {f : Int → Int64} {S0 S : ST} (h : qq f S0 S) : qq f S0 (sEd2 S) := by
  have w8 := wf_8 h.1.1.1.1 0
  have q : ∀ n : Nat, n ≤ nP S → qq f S0 (foS ed2 S n) ∧ (foS ed2 S n).1 8 0 = S.1 8 0 := by
    intro n
    induction n with
    | zero => intro _; exact ⟨h, rfl⟩
    | succ n ih =>
      intro hn
      obtain ⟨a, c⟩ := ih (by omega)
      rw [foS_s]
      generalize foS ed2 S n = T at a c ⊢
      unfold ed2
      split
      · rename_i hc
        simp only [Bool.and_eq_true, Bool.or_eq_true, decide_eq_true_eq] at hc
        have hk : (n : Int) < T.1 8 0 := by rw [c]; unfold nP at hn; omega
        have r := inv_ret (k := (n : Int)) a.1.1 a.1.2 (by omega) hk (by omega)
        have s := act_ret (k := (n : Int)) a.2.1 a.1.1 a.1.2 (by omega) hk (by omega)
        exact ⟨⟨r, s.1, evS_tr a.2.2 s.2⟩, by rw [sRet_f _ _ (by decide)]; exact c⟩
      · exact ⟨a, c⟩
  exact (q _ (Nat.le_refl _)).1
theorem qq_ed5 {f : Int → Int64} {S0 S : ST} (h : qq f S0 S) : qq f S0 (sEd5 S) := by
  have w8 := wf_8 h.1.1.1.1 0
  have q : ∀ n : Nat, n ≤ nP S → qq f S0 (foS ed5 S n) ∧ (foS ed5 S n).1 8 0 = S.1 8 0 := by
    intro n
    induction n with
    | zero => intro _; exact ⟨h, rfl⟩
    | succ n ih =>
      intro hn
      obtain ⟨a, c⟩ := ih (by omega)
      rw [foS_s]
      generalize foS ed5 S n = T at a c ⊢
      unfold ed5
      split
      · rename_i hc
        simp only [Bool.and_eq_true, decide_eq_true_eq] at hc
        have hk : (n : Int) < T.1 8 0 := by rw [c]; unfold nP at hn; omega
        have r := inv_ent (k := (n : Int)) a.1.1 a.1.2 (by omega) hk (by omega)
        have s := act_ent (k := (n : Int)) a.2.1 (by omega)
        exact ⟨⟨r, s.1, evS_tr a.2.2 s.2⟩, by unfold sEnter; rw [pI_f _ _ _ (by decide)]; exact c⟩
      · exact ⟨a, c⟩
  exact (q _ (Nat.le_refl _)).1
theorem qq_ed3 {f : Int → Int64} {S0 S : ST} (h : qq f S0 S) (he : S.1 31 0 + cNF S ≤ 28800) : qq f S0 (sEd3 S) := by
  have q : ∀ n : Nat, n ≤ 18 → qq f S0 (foS ed3 S n) := by
    intro n
    induction n with
    | zero => intro _; exact h
    | succ n ih =>
      intro hn
      have a := ih (by omega)
      obtain ⟨e1, e2, _, e4, _⟩ := ed3_all h.1.1.1 he n (by omega)
      rw [foS_s]
      generalize foS ed3 S n = T at a e1 e2 e4 ⊢
      have hw1 : wf (sCh1 T ((n : Int) / 3) ((n : Int) % 3)) := by
        unfold sCh1
        split
        · exact (okS_book e1 _ _ _ _ _ (by omega)).1
        · exact e1.1
      have r := inv_chg (b := (n : Int) / 3) (c := (n : Int) % 3) a.1.1 a.1.2 (by omega) (by unfold rI; omega) (by unfold rI; omega)
      have s := act_chg (b := (n : Int) / 3) (c := (n : Int) % 3) a.2.1 a.1.1.1.1 hw1 (by omega) (by omega)
      exact ⟨r, s.1, evS_tr a.2.2 s.2⟩
  exact q 18 (Nat.le_refl _)
theorem ed4_4 (S : ST) (y : Int) : ∀ n : Nat, (foS ed4 S n).2 4 y = if 0 ≤ y ∧ y < n then 0 else S.2 4 y
  | 0 => by rw [if_neg (by omega)]; rfl
  | n + 1 => by
    have ih := ed4_4 S y n
    rw [foS_s]
    generalize foS ed4 S n = T at ih ⊢
    unfold ed4
    by_cases e : y = n
    · rw [e, pL_s, if_pos (by omega)]
    · rw [pL_n _ _ _ _ (Or.inr e), ih]
      by_cases q : 0 ≤ y ∧ y < n
      · rw [if_pos q, if_pos (by omega)]
      · rw [if_neg q, if_neg (by omega)]
theorem qq_ed4 {f : Int → Int64} {S0 S : ST} (h : qq f S0 S) (hd : S.1 0 0 < 998) : qq f S0 (sEd4 S) := by
  obtain ⟨h1, h2, h3⟩ := h
  have F : ∀ {i : Nat}, i ≠ 0 → (sEd4 S).1 i = S.1 i := fun hi => sEd4_f S hi
  have z : ∀ y : Int, 0 ≤ y → y < 108 → (sEd4 S).2 4 y = 0 := fun y y0 y1 => by
    unfold sEd4
    rw [ed4_4, if_pos ⟨y0, y1⟩]
  have e32 : (sEd4 S).2 32 = S.2 32 := ed4_32 _ _
  obtain ⟨a1, a2, a3, a4, a5, a6, a7, a8, a9, a10, a11, a12⟩ := id h2
  refine ⟨fin_ed4 h1.1 h1.2 hd, kI_keep h2 (fun i hi => F (by omega)) (ed4_21 _ _) e32 (fun j => by rw [F (by decide)]) ?_ (fun b u c b0 b1 u0 u1 c0 c1 => ?_) ?_ ?_ ?_, evS_tr h3 ⟨by rw [F (by decide)]; exact Int.le_refl _, fun _ _ _ => by rw [e32], by rw [F (by decide)]; exact Int.le_refl _, fun i j hi _ _ => by rw [F (by omega)], fun j _ _ => by rw [F (by decide)]; exact ⟨id, id⟩⟩⟩
  · unfold kQ; rw [F (i := 8) (by decide), F (i := 18) (by decide), F (i := 15) (by decide)]; exact a6
  · rw [z _ (by omega) (by omega), z _ (by omega) (by omega), z _ (by omega) (by omega)]
    exact ⟨by decide, rfl⟩
  · unfold kL; rw [F (i := 2) (by decide), F (i := 3) (by decide)]; exact a9
  · unfold kR; rw [F (i := 8) (by decide), F (i := 18) (by decide), F (i := 23) (by decide)]; exact a10
  · unfold kB; rw [F (i := 30) (by decide), F (i := 44) (by decide)]; exact a12
theorem qq_end {f : Int → Int64} {S : ST} (h : inv S) (hf : finJ S) (hk : kI f S) (he : S.1 31 0 + cNF S ≤ 28700) (hd : S.1 0 0 < 998) : qq f S (sEndS S) := by
  have k1 := kk_ed1 (f := f) (S0 := S) (S := S) ⟨⟨h, hf⟩, hk, evR_0 S⟩
  have a := qq_ed2 (f := f) (S0 := S) ⟨k1.1, k1.2.1, evS_R k1.2.2⟩
  obtain ⟨p1, p2, _⟩ := pre_31 h hf
  have b := qq_ed3 a (by omega)
  obtain ⟨_, _, _, _, r5⟩ := ed3_all a.1.1.1 (by omega) 18 (Nat.le_refl _)
  have e3 : foS ed3 (sEd2 (sEd1 S).2) 18 = sEd3 (sEd2 (sEd1 S).2) := rfl
  rw [e3] at r5
  exact qq_ed5 (qq_ed4 b (by rw [r5 0 (by decide)]; omega))
theorem end_0 {S : ST} (h : inv S) (hf : finJ S) (he : S.1 31 0 + cNF S ≤ 28700) (hd : S.1 0 0 < 998) : (sEndS S).1 0 0 = S.1 0 0 + 1 := by
  have a := fin_pre h hf
  obtain ⟨p1, p2, _⟩ := pre_31 h hf
  obtain ⟨_, _, _, _, r5⟩ := ed3_all a.1.1 (by omega) 18 (Nat.le_refl _)
  have e3 : foS ed3 (sEd2 (sEd1 S).2) 18 = sEd3 (sEd2 (sEd1 S).2) := rfl
  rw [e3] at r5
  have b := fin_ed3 a.1 a.2 (by omega)
  have c := fin_ed4 b.1 b.2 (by rw [r5 0 (by decide)]; omega)
  obtain ⟨_, _, t3⟩ := ed5_all c.1.1 (nP (sEd4 (sEd3 (sEd2 (sEd1 S).2)))) (nP_le c.1.1.1)
  have e5 : foS ed5 (sEd4 (sEd3 (sEd2 (sEd1 S).2))) (nP (sEd4 (sEd3 (sEd2 (sEd1 S).2)))) = sEndS S := rfl
  rw [e5] at t3
  rw [t3 0 (by decide)]
  unfold sEd4
  rw [ed4_1, pI_s, r5 0 (by decide), p2]
/-! a payment comes -/
theorem come_n (S : ST) (b u c v nm h : Int) (rl : Bool) (d : Int) (st : Bool) : (sCome S b u c v nm h rl d st).1 10 (S.1 8 0) = u ∧ (sCome S b u c v nm h rl d st).1 11 (S.1 8 0) = c ∧ (sCome S b u c v nm h rl d st).1 12 (S.1 8 0) = v ∧ (sCome S b u c v nm h rl d st).1 14 (S.1 8 0) = h := by
  rw [come_g S b u c v nm h rl d st (by decide), come_g S b u c v nm h rl d st (by decide), come_g S b u c v nm h rl d st (by decide), come_g S b u c v nm h rl d st (by decide)]
  simp [gCome, sCom1, pI]
theorem act_come {f : Int → Int64} {S : ST} (h : kI f S) (hi : inv S) {b u c v nm r : Int} {rl : Bool} {d : Int} {st : Bool} (hbu : b ≠ u) (hv : 1 ≤ v ∧ v ≤ 50) : kI f (sCome S b u c v nm r rl d st) ∧ evS S (sCome S b u c v nm r rl d st) := by
  obtain ⟨a1, a2, a3, a4, a5, a6, a7, a8, a9, a10, a11, a12⟩ := id h
  have hann := hi.2.2.2.2.2.1
  have w8 := wf_8 hi.1.1 0
  have f8 := come_8 S b u c v nm r rl d st
  have f15 := come_15 S b u c v nm r rl d st
  have f9 := come_9 S b u c v nm r rl d st
  obtain ⟨f10, f11, f12, f14⟩ := come_n S b u c v nm r rl d st
  obtain ⟨_, _, f23, _, _⟩ := come_m S b u c v nm r rl d st
  have f18 := come_18 S b u c v nm r rl d st
  have hV := sEntV_c (sCom1 S b u c v nm r rl d st) (S.1 8 0)
  have hV2 := sEntV_2 (sCom1 S b u c v nm r rl d st) (S.1 8 0)
  have c15 : (sCom1 S b u c v nm r rl d st).1 15 (S.1 8 0) = bI rl := by simp [sCom1, pI]
  have J : ∀ {g : Nat} {j : Int}, 9 ≤ g → j ≠ S.1 8 0 → (sCome S b u c v nm r rl d st).1 g j = S.1 g j := fun p q => come_j S b u c v nm r rl d st p q
  have F : ∀ {g : Nat}, (g < 8 ∨ (25 ≤ g ∧ g ≤ 39) ∨ 43 ≤ g) → (sCome S b u c v nm r rl d st).1 g = S.1 g := fun p => come_f S b u c v nm r rl d st p
  have e2 := come_2 S b u c v nm r rl d st
  have n18 : (sCome S b u c v nm r rl d st).1 18 (S.1 8 0) ≠ 4 := by
    rcases f18 with q | q
    · rw [q]; decide
    · rw [q]; exact hV.2.2
  have q18 : (sCome S b u c v nm r rl d st).1 18 (S.1 8 0) = 2 → bI rl ≠ 0 := by
    rcases f18 with q | q
    · rw [q]; intro x; omega
    · rw [q, ← c15]; exact hV2
  generalize sCome S b u c v nm r rl d st = T at *
  have f31 : T.1 31 = S.1 31 := F (by decide)
  have hx : pfx S T := fun x _ _ => by rw [e2]
  refine ⟨⟨kE_step a1 hx (by omega) (fun k k0 k1 => ⟨J (by decide) (by omega), J (by decide) (by omega), J (by decide) (by omega), J (by decide) (by omega)⟩) (fun k k0 k1 x => by rw [J (by decide) (by omega)]; exact x) (fun j _ j1 j2 => by rw [f31] at j2; omega), ?_, kH_step a3 hx (by rw [f31]; exact Int.le_refl _) (fun k k0 k1 x => ?_), ?_, ?_, ?_, ?_, ?_, ?_, ?_, ?_, ?_⟩, ⟨by rw [f31]; exact Int.le_refl _, hx, by omega, fun g k hg k0 k1 => J (by omega) (by omega), fun k k0 k1 => by rw [J (by decide) (by omega)]; exact ⟨id, id⟩⟩⟩
  · unfold kU; rw [f31, e2]; exact a2
  · by_cases e : k = S.1 8 0
    · rw [e] at x; exact absurd x n18
    · rw [J (by decide) e] at x; exact Or.inl ⟨by omega, x⟩
  · intro x y x0 x1 y0 y1
    have e : sAnew T x y (S.1 31 0).toNat = sAnew S x y (S.1 31 0).toNat := anew_pfx hx x y _ (by have := wf_31 hi.1.1 0; omega)
    rw [e2, f31, e]
    exact a4 x y x0 x1 y0 y1
  · unfold kS; rw [e2]; exact a5
  · intro k k0 k1
    by_cases e : k = S.1 8 0
    · rw [e, f15]; exact q18
    · rw [J (by decide) e, J (by decide) e]; exact a6 k k0 (by omega)
  · unfold kP; rw [e2]; exact a7
  · intro k k0 k1
    by_cases e : k = S.1 8 0
    · rw [e, f9, f10, f12]; exact ⟨hbu, hv⟩
    · rw [J (by decide) e, J (by decide) e, J (by decide) e]; exact a8 k k0 (by omega)
  · unfold kL; rw [F (g := 2) (by decide), F (g := 3) (by decide)]; exact a9
  · intro k k0 k1 x
    by_cases e : k = S.1 8 0
    · rw [e, f23] at x; exact absurd rfl x
    · rw [J (by decide) e] at x ⊢; exact a10 k k0 (by omega) x
  · intro i i0 i1
    rw [F (g := 27) (by decide)] at i1
    rw [F (g := 28) (by decide), J (by decide) (by have := hann i i0 i1; omega)]
    exact a11 i i0 i1
  · unfold kB; rw [F (g := 30) (by decide), F (g := 44) (by decide)]; exact a12
