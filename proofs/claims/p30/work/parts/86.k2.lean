/-! a payment becomes final: the property's invariants -/
theorem fin_bk (S : ST) (k : Int) : bkS S (sFin S k) (S.1 9 k) (S.1 10 k) (S.1 11 k) (Int64.ofInt (S.1 12 k)) k := by
  refine ⟨sFin_31 S k, fun x => ?_, fun x => ?_⟩
  · rw [sFin_32]
    unfold sBk
    rw [sBook_32, sEnt_32, sEnt_32, pI_f _ _ _ (show (31 : Nat) ≠ 22 by decide), pI_f _ _ _ (show (31 : Nat) ≠ 18 by decide)]
    rfl
  · rw [sFin_21]
    unfold sBk
    rw [book_1, book_1, less_1, less_1]
    rfl
theorem sFin_24 (S : ST) (k y : Int) : (sFin S k).2 4 y = (if y = 3 * (6 * S.1 10 k + S.1 9 k) + S.1 11 k then (if y = 3 * (6 * S.1 9 k + S.1 10 k) + S.1 11 k then S.2 4 y + Int64.ofInt (S.1 12 k) else S.2 4 y) - Int64.ofInt (S.1 12 k) else if y = 3 * (6 * S.1 9 k + S.1 10 k) + S.1 11 k then S.2 4 y + Int64.ofInt (S.1 12 k) else S.2 4 y) := by
  have b4 : ∀ z : Int, (sBk S k).2 4 z = S.2 4 z := by
    intro z
    unfold sBk sBook sMore sLess
    rw [pL_f _ _ _ (by decide)]
    show (if _ = -1 then _ else _ : Nat → Int → Int64) 4 z = _
    split
    · rfl
    · rw [pL_f _ _ _ (by decide)]; rfl
  have p4 : ∀ z : Int, (sPd S k).2 4 z = if z = 3 * (6 * S.1 9 k + S.1 10 k) + S.1 11 k then S.2 4 z + Int64.ofInt (S.1 12 k) else S.2 4 z := by
    intro z
    unfold sPd
    by_cases e : z = 3 * (6 * S.1 9 k + S.1 10 k) + S.1 11 k
    · rw [if_pos e, e, pL_s, b4]
    · rw [if_neg e, pL_n _ _ _ _ (Or.inr e), b4]
  have f4 : (sFin S k).2 4 y = (pL (sPd S k) 4 (3 * (6 * S.1 10 k + S.1 9 k) + S.1 11 k) ((sPd S k).2 4 (3 * (6 * S.1 10 k + S.1 9 k) + S.1 11 k) - Int64.ofInt (S.1 12 k))).2 4 y := rfl
  rw [f4]
  by_cases e : y = 3 * (6 * S.1 10 k + S.1 9 k) + S.1 11 k
  · rw [if_pos e, e, pL_s, p4]
  · rw [if_neg e, pL_n _ _ _ _ (Or.inr e), p4]
theorem n64 {a b : Int64} : a + b = -(-a - b) := by
  rw [Int64.neg_sub, Int64.sub_neg, Int64.add_comm]
theorem kP_fin {S : ST} (hw : wf S) (h : kP S) {k : Int} (hne : S.1 9 k ≠ S.1 10 k) : kP (sFin S k) := by
  intro b u c b0 b1 u0 u1 c0 c1
  obtain ⟨h1, h2⟩ := h b u c b0 b1 u0 u1 c0 c1
  have w9 := wf_9 hw k
  have w10 := wf_10 hw k
  have w11 := wf_11 hw k
  constructor
  · rw [sFin_24, sFin_24]
    by_cases e1 : b = S.1 9 k ∧ u = S.1 10 k ∧ c = S.1 11 k
    · obtain ⟨e1, e2, e3⟩ := e1
      rw [if_neg (by omega), if_pos (by omega), if_pos (by omega), if_neg (by omega), h1, Int64.neg_sub, Int64.sub_eq_add_neg, Int64.add_comm]
    · by_cases e2 : u = S.1 9 k ∧ b = S.1 10 k ∧ c = S.1 11 k
      · obtain ⟨e2, e3, e4⟩ := e2
        rw [if_pos (by omega), if_neg (by omega), if_neg (by omega), if_pos (by omega), h1, Int64.neg_add, Int64.sub_eq_add_neg]
      · rw [if_neg (by omega), if_neg (by omega), if_neg (by omega), if_neg (by omega), h1]
  · rw [sFin_24, if_neg (by omega), if_neg (by omega), h2]
theorem kI_fin {f : Int → Int64} {S : ST} (hi : inv S) (h : kI f S) {k : Int} (k0 : 0 ≤ k) (k1 : k < S.1 8 0) (hs : S.1 18 k ≠ 4) : kI f (sFin S k) := by
  obtain ⟨a1, a2, a3, a4, a5, a6, a7, a8, a9, a10, a11, a12⟩ := h
  have hw := hi.1.1
  have w8 := wf_8 hw 0
  have w9 := wf_9 hw k
  have w10 := wf_10 hw k
  have w11 := wf_11 hw k
  have w27 := wf_27 hw 0
  have w31 := wf_31 hw 0
  have F : ∀ {f : Nat}, (f ≠ 18 ∧ f ≠ 22 ∧ f ≠ 31 ∧ f ≠ 28 ∧ f ≠ 27 ∧ f ≠ 41 ∧ f ≠ 43 ∧ f ≠ 44) → (sFin S k).1 f = S.1 f := fun hf => sFin_f S k hf
  have f27 : (sFin S k).1 27 0 = S.1 27 0 + 1 := by rw [sFin_1]; simp [pI]
  have f28 : ∀ j : Int, (sFin S k).1 28 j = if j = S.1 27 0 then k else S.1 28 j := fun j => by rw [sFin_1]; simp [pI]
  have f44 : ∀ j : Int, (sFin S k).1 44 j = if j = S.1 10 k then S.1 44 (S.1 10 k) + 1 else S.1 44 j := fun j => by rw [sFin_1]; simp [pI]
  have hb := fin_bk S k
  have hp := bk_pfx hb
  obtain ⟨e0, e1, e2, e3, e4⟩ := bk_at hb
  obtain ⟨t1, t2, t3⟩ := a8 k k0 k1
  have h31 := hb.1
  refine ⟨kE_step a1 hp (by rw [F (by decide)]; omega) (fun j _ _ => ⟨by rw [F (by decide)], by rw [F (by decide)], by rw [F (by decide)], by rw [F (by decide)]⟩) (fun j _ _ hj => by rw [sFin_18]; split <;> trivial) (fun j j0 j1 j2 => ?_), kU_step a2 hp (by omega) (fun _ => Or.inr (fun i i0 i1 he => ?_)), kH_step a3 hp (by omega) (fun j j0 j1 j4 => ?_), kA_bk a4 w31.1 hb (by omega) (by omega) w11, kS_bk a5 hb (by omega) (by omega) w11, ?_, kP_fin hw a7 t1, ?_, ?_, ?_, ?_, ?_⟩
  · have ej : j = S.1 31 0 := by omega
    unfold entOK
    rw [ej, e0, e1, e2, e3, e4]
    refine ⟨?_, Or.inr ⟨k, k0, by rw [F (by decide)]; exact k1, rfl, by rw [sFin_18, if_pos rfl], by rw [F (by decide)], by rw [F (by decide)], by rw [F (by decide)], by rw [F (by decide)]⟩⟩
    rw [Int64.lt_iff_toInt_lt, ti_of (by omega)]
    have z : (0 : Int64).toInt = 0 := by decide
    omega
  · rw [e4] at he
    rcases (a1 i i0 i1).2 with q | ⟨k', q0, q1, q2, q3, _⟩
    · rw [q, of_inj (by omega) (by omega)] at he; omega
    · rw [q2, of_inj (by omega) (by omega)] at he
      rw [he] at q3
      exact hs q3
  · rw [F (f := 8) (by decide)] at j1
    by_cases ej : j = k
    · exact Or.inr ⟨S.1 31 0, w31.1, by omega, by rw [e4, ej]⟩
    · rw [sFin_18, if_neg ej] at j4
      exact Or.inl ⟨j1, j4⟩
  · intro j j0 j1
    rw [F (f := 8) (by decide)] at j1
    rw [sFin_18, F (f := 15) (by decide)]
    split
    · intro x; omega
    · exact a6 j j0 j1
  · unfold kT
    rw [F (f := 8) (by decide), F (f := 9) (by decide), F (f := 10) (by decide), F (f := 12) (by decide)]
    exact a8
  · unfold kL
    rw [F (f := 2) (by decide), F (f := 3) (by decide)]
    exact a9
  · intro j j0 j1 hj
    rw [F (f := 8) (by decide)] at j1
    rw [F (f := 23) (by decide)] at hj
    rw [sFin_18]
    split
    · rfl
    · exact a10 j j0 j1 hj
  · intro i i0 i1
    rw [f27] at i1
    rw [f28, sFin_18]
    split
    · rw [if_pos rfl]
    · split
      · rfl
      · exact a11 i i0 (by omega)
  · intro b b0 b1
    rw [F (f := 30) (by decide), f44]
    have := a12 b b0 b1
    split
    · rename_i e; rw [← e]; omega
    · exact this
/-! how a state goes on while payments become final -/
def evR (S T : ST) : Prop := S.1 31 0 ≤ T.1 31 0 ∧ pfx S T ∧ (∀ g : Nat, cht g → T.1 g = S.1 g) ∧ ∀ k : Int, T.1 18 k = S.1 18 k ∨ (T.1 18 k = 4 ∧ S.1 18 k ≠ 5)
theorem evR_0 (S : ST) : evR S S := ⟨Int.le_refl _, fun _ _ _ => rfl, fun _ _ => rfl, fun _ => Or.inl rfl⟩
theorem evR_fin {S T : ST} (h : evR S T) {k : Int} (hs : T.1 18 k ≠ 4 ∧ T.1 18 k ≠ 5) : evR S (sFin T k) := by
  obtain ⟨a1, a2, a3, a4⟩ := h
  have hb := fin_bk T k
  have hp := bk_pfx hb
  have h31 := hb.1
  refine ⟨by omega, fun x x0 x1 => by rw [hp x x0 (by omega), a2 x x0 x1], fun g hg => by rw [sFin_f _ _ hg]; exact a3 g hg, fun j => ?_⟩
  rw [sFin_18]
  by_cases e : j = k
  · rw [if_pos e]
    right
    refine ⟨rfl, ?_⟩
    rcases a4 k with q | q
    · rw [e, ← q]; exact hs.2
    · exact absurd q.1 hs.1
  · rw [if_neg e]; exact a4 j
def kk (f : Int → Int64) (S0 T : ST) : Prop := (inv T ∧ finJ T) ∧ kI f T ∧ evR S0 T
theorem kk_sets {f : Int → Int64} {S0 S : ST} {I : Int → Bool} (h : kk f S0 S) : ∀ (n : Nat), n ≤ nP S → (∀ j : Int, 0 ≤ j → j < n → I j = true → S.1 18 j ≠ 4 ∧ S.1 18 j ≠ 5) → kI f (sSets S I n) ∧ evR S0 (sSets S I n)
  | 0, _, _ => h.2
  | n + 1, hn, hI => by
    have w8 := wf_8 h.1.1.1.1 0
    have ih := kk_sets h n (by omega) (fun j a b => hI j a (by omega))
    obtain ⟨q1, q2, q3, q4⟩ := inv_sets (I := I) h.1.1 n (by omega) (fun j a b c => (hI j a (by omega) c).1)
    rw [sSets_s]
    by_cases e : I n = true
    · rw [if_pos e]
      have hs : (sSets S I n).1 18 n ≠ 4 ∧ (sSets S I n).1 18 n ≠ 5 := by rw [q4, if_neg (by omega)]; exact hI n (by omega) (by omega) e
      exact ⟨kI_fin q1 ih.1 (by omega) (by rw [q2]; unfold nP at hn; omega) hs.1, evR_fin ih.2 hs⟩
    · rw [if_neg e]; exact ih
theorem kk_first {f : Int → Int64} {S0 S : ST} (h : kk f S0 S) (b c : Int) : kk f S0 (sFirst S b c).2 := by
  refine ⟨fin_first h.1.1 h.1.2 b c, ?_⟩
  unfold sFirst
  split
  · rename_i hq
    simp only [Bool.and_eq_true, Bool.not_eq_true', decide_eq_false_iff_not, fstOk, Bool.or_eq_true, decide_eq_true_eq] at hq
    obtain ⟨h1, ⟨⟨⟨h2, _⟩, _⟩, _⟩, _⟩ := hq
    have hr := (qAt_r h.1.1.1.1 (rfl : qAt S b c 0 = _)).resolve_left h1
    refine kk_sets h _ (Nat.le_refl _) (fun j a1 a2 hj => ?_)
    simp only [fstI, Bool.or_eq_true, decide_eq_true_eq] at hj
    rcases hj with hj | hj
    · rw [hj, hr.2.2.1]; decide
    · rcases h2 with q | q
      · omega
      · rw [hj, q]; decide
  · exact h.2
theorem kk_runs {f : Int → Int64} {S0 S : ST} (h : kk f S0 S) : kk f S0 (sRuns S).2 := runs_P (P := kk f S0) (fun _ b c hT => kk_first hT b c) h
theorem kk_red {f : Int → Int64} {S0 S : ST} {I : Int → Bool} (h : kk f S0 S) (c : Int) (q : Bool) (hI : ∀ j : Int, 0 ≤ j → j < nP S → I j = true → S.1 18 j ≠ 4 ∧ S.1 18 j ≠ 5) : kI f (sRedS S I c q).2 ∧ evR S0 (sRedS S I c q).2 := kk_sets h _ (Nat.le_refl _) (fun j a b e => hI j a b (sRedN_sub 61 I j e))
theorem kk_off {f : Int → Int64} {S0 S : ST} (h : kk f S0 S) (c : Int) : kk f S0 (sOff S c).2 := by
  refine ⟨fin_off h.1.1 h.1.2 c, ?_⟩
  unfold sOff
  split
  · refine kk_red h c true (fun j a b e => ?_)
    simp only [offI, Bool.and_eq_true, decide_eq_true_eq] at e
    omega
  · exact h.2
theorem kk_cut {f : Int → Int64} {S0 S : ST} (h : kk f S0 S) (c : Int) : kk f S0 (sCut S c).2 := ⟨fin_cut h.1.1 h.1.2 c, kk_red h c false (fun j a b e => by have := netI_3 e; omega)⟩
theorem kk_ed1 {f : Int → Int64} {S0 S : ST} (h : kk f S0 S) : kk f S0 (sEd1 S).2 := by
  have q := foS_keeps (P := fun x : Int × ST => kk f S0 x.2) (f := ed1) (s := (0, S)) h (fun c x hx => by
    unfold ed1
    split
    · exact kk_cut hx c
    · exact hx) 3
  exact q
