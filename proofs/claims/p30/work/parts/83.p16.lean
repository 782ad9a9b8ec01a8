/-! the balances stay small -/
theorem ti_add {a b : Int64} (ha : -1000000000000000000 ≤ a.toInt ∧ a.toInt ≤ 1000000000000000000) (hb : -1000000000000000000 ≤ b.toInt ∧ b.toInt ≤ 1000000000000000000) : (a + b).toInt = a.toInt + b.toInt := by
  have e : a + b = Int64.ofInt (a.toInt + b.toInt) := by rw [Int64.ofInt_add, Int64.ofInt_toInt, Int64.ofInt_toInt]
  rw [e]
  exact Int64.toInt_ofInt_of_le (by omega) (by omega)
theorem ti_neg {a : Int64} (ha : -1000000000000000000 ≤ a.toInt ∧ a.toInt ≤ 1000000000000000000) : (-a).toInt = -a.toInt := by
  have e : -a = Int64.ofInt (-a.toInt) := by rw [ofInt_neg64, Int64.ofInt_toInt]
  rw [e]
  exact Int64.toInt_ofInt_of_le (by omega) (by omega)
theorem ti_sub {a b : Int64} (ha : -1000000000000000000 ≤ a.toInt ∧ a.toInt ≤ 1000000000000000000) (hb : -1000000000000000000 ≤ b.toInt ∧ b.toInt ≤ 1000000000000000000) : (a - b).toInt = a.toInt - b.toInt := by
  rw [Int64.sub_eq_add_neg, ti_add ha (by rw [ti_neg hb]; omega), ti_neg hb]
  omega
theorem ti_of {z : Int} (h : -1000000000000000000 ≤ z ∧ z ≤ 1000000000000000000) : (Int64.ofInt z).toInt = z := Int64.toInt_ofInt_of_le (by omega) (by omega)
theorem less_1 (S : ST) (b o c : Int) (v : Int64) (k x : Int) : (sLess (sEnt S b o c v k) b c v).2 1 x = if b = -1 then S.2 1 x else if x = 3 * b + c then S.2 1 x - v else S.2 1 x := by
  have e : ∀ y : Int, (sEnt S b o c v k).2 1 y = S.2 1 y := fun y => rfl
  unfold sLess
  show (if b = -1 then (sEnt S b o c v k).2 else _ : Nat → Int → Int64) 1 x = _
  split
  · exact e x
  · by_cases h : x = 3 * b + c
    · rw [if_pos h, h, pL_s, e]
    · rw [if_neg h, pL_n _ _ _ _ (Or.inr h), e]
theorem book_1 (S : ST) (b o c : Int) (v : Int64) (k x : Int) : (sBook S b o c v k).2 1 x = if x = 3 * o + c then (sLess (sEnt S b o c v k) b c v).2 1 x + v else (sLess (sEnt S b o c v k) b c v).2 1 x := by
  unfold sBook sMore
  by_cases h : x = 3 * o + c
  · rw [if_pos h, h, pL_s]
  · rw [if_neg h, pL_n _ _ _ _ (Or.inr h)]
theorem book_bd {S : ST} {b o c : Int} {v : Int64} {k x V : Int} (hv : 0 ≤ v.toInt ∧ v.toInt ≤ V) (hV : V ≤ 10000000000000000) (hx : -100000000000000000 ≤ (S.2 1 x).toInt ∧ (S.2 1 x).toInt ≤ 100000000000000000) : (S.2 1 x).toInt - V ≤ ((sBook S b o c v k).2 1 x).toInt ∧ ((sBook S b o c v k).2 1 x).toInt ≤ (S.2 1 x).toInt + V := by
  have h1 : (S.2 1 x).toInt - v.toInt ≤ ((sLess (sEnt S b o c v k) b c v).2 1 x).toInt ∧ ((sLess (sEnt S b o c v k) b c v).2 1 x).toInt ≤ (S.2 1 x).toInt := by
    rw [less_1]
    split
    · omega
    · split
      · rw [ti_sub (by omega) (by omega)]; omega
      · omega
  rw [book_1]
  split
  · rw [ti_add (by omega) (by omega)]; omega
  · omega
def balP (M : Int) (S : ST) : Prop := ∀ x : Int, 0 ≤ x → x < 18 → -M ≤ (S.2 1 x).toInt - 2000000 * cNF S ∧ (S.2 1 x).toInt + 2000000 * cNF S ≤ M
theorem balP_of {M : Int} {S T : ST} (h : balP M S) (h2 : T.2 1 = S.2 1) (hc : cNF T = cNF S) : balP M T := fun x x0 x1 => by rw [h2, hc]; exact h x x0 x1
theorem balP_le {M N : Int} {S : ST} (h : balP M S) (hn : M ≤ N) : balP N S := fun x x0 x1 => by have := h x x0 x1; omega
theorem sFin_21 (S : ST) (k : Int) : (sFin S k).2 1 = (sBk S k).2 1 := rfl
theorem bal_fin {M : Int} {S : ST} (h : balP M S) (hw : wf S) (hM : M ≤ 10000000000000000) {k : Int} (k0 : 0 ≤ k) (k1 : k < 60) (hs : S.1 18 k ≠ 4) : balP M (sFin S k) := by
  intro x x0 x1
  have q := h x x0 x1
  have w12 := wf_12 hw k
  have cn := cNF_nn S
  have e := book_bd (S := pI (pI S 18 k 4) 22 k (S.1 0 0)) (b := S.1 9 k) (o := S.1 10 k) (c := S.1 11 k) (v := Int64.ofInt (S.1 12 k)) (k := k) (x := x) (V := 1000000) (by rw [ti_of (by omega)]; omega) (by decide) (by show -100000000000000000 ≤ (S.2 1 x).toInt ∧ (S.2 1 x).toInt ≤ 100000000000000000; omega)
  have e1 : ((pI (pI S 18 k 4) 22 k (S.1 0 0)).2 1 x) = S.2 1 x := rfl
  rw [e1] at e
  rw [sFin_21, cNF_sFin k0 k1 hs]
  unfold sBk
  omega
theorem bal_sets {M : Int} {S : ST} {I : Int → Bool} (h : inv S) (hb : balP M S) (hM : M ≤ 10000000000000000) (hI : ∀ j : Int, 0 ≤ j → j < nP S → I j = true → S.1 18 j ≠ 4) : ∀ (n : Nat), n ≤ nP S → balP M (sSets S I n)
  | 0, _ => hb
  | n + 1, hn => by
    have w8 := wf_8 h.1.1 0
    have ih := bal_sets h hb hM hI n (by omega)
    obtain ⟨q1, q2, q3, q4⟩ := inv_sets (I := I) h n (by omega) (fun j a b => hI j a (by omega))
    rw [sSets_s]
    by_cases e : I n = true
    · rw [if_pos e]
      refine bal_fin ih q1.1.1 hM (by omega) (by unfold nP at hn; omega) ?_
      rw [q4, if_neg (by omega)]
      exact hI n (by omega) (by omega) e
    · rw [if_neg e]; exact ih
theorem bal_first {M : Int} {S : ST} (h : inv S) (hb : balP M S) (hM : M ≤ 10000000000000000) (b c : Int) : balP M (sFirst S b c).2 := by
  unfold sFirst
  split
  · rename_i hq
    simp only [Bool.and_eq_true, Bool.not_eq_true', decide_eq_false_iff_not, fstOk, Bool.or_eq_true, decide_eq_true_eq] at hq
    obtain ⟨h1, ⟨⟨⟨h2, _⟩, _⟩, _⟩, _⟩ := hq
    have hr := (qAt_r h.1.1 (rfl : qAt S b c 0 = _)).resolve_left h1
    refine bal_sets h hb hM (fun j a1 a2 hj => ?_) _ (Nat.le_refl _)
    simp only [fstI, Bool.or_eq_true, decide_eq_true_eq] at hj
    rcases hj with hj | hj
    · rw [hj, hr.2.2.1]; decide
    · rcases h2 with q | q
      · omega
      · rw [hj, q]; decide
  · exact hb
theorem bal_runs {M : Int} {S : ST} (h : inv S) (hf : finJ S) (hb : balP M S) (hM : M ≤ 10000000000000000) : balP M (sRuns S).2 := (runs_P (P := fun T => (inv T ∧ finJ T) ∧ balP M T) (fun T b c hT => ⟨fin_first hT.1.1 hT.1.2 b c, bal_first hT.1.1 hT.2 hM b c⟩) ⟨⟨h, hf⟩, hb⟩).2
theorem bal_red {M : Int} {S : ST} {I : Int → Bool} (h : inv S) (hb : balP M S) (hM : M ≤ 10000000000000000) (c : Int) (q : Bool) (hI : ∀ j : Int, 0 ≤ j → j < nP S → I j = true → S.1 18 j ≠ 4) : balP M (sRedS S I c q).2 := bal_sets h hb hM (fun j a b e => hI j a b (sRedN_sub 61 I j e)) _ (Nat.le_refl _)
theorem bal_off {M : Int} {S : ST} (h : inv S) (hb : balP M S) (hM : M ≤ 10000000000000000) (c : Int) : balP M (sOff S c).2 := by
  unfold sOff
  split
  · refine bal_red h hb hM c true (fun j a b e => ?_)
    simp only [offI, Bool.and_eq_true, decide_eq_true_eq] at e
    omega
  · exact hb
theorem bal_cut {M : Int} {S : ST} (h : inv S) (hb : balP M S) (hM : M ≤ 10000000000000000) (c : Int) : balP M (sCut S c).2 := bal_red h hb hM c false (fun j a b e => by have := netI_3 e; omega)
theorem bal_ed1 {M : Int} {S : ST} (h : inv S) (hf : finJ S) (hb : balP M S) (hM : M ≤ 10000000000000000) : balP M (sEd1 S).2 := by
  have q := foS_keeps (P := fun x : Int × ST => (inv x.2 ∧ finJ x.2) ∧ balP M x.2) (f := ed1) (s := (0, S)) ⟨⟨h, hf⟩, hb⟩ (fun c x hx => by
    unfold ed1
    split
    · exact ⟨fin_cut hx.1.1 hx.1.2 c, bal_cut hx.1.1 hx.2 hM c⟩
    · exact hx) 3
  exact q.2
/-! the charges -/
theorem int_bd {S : ST} {b c : Int} (h : -10000000000000000 ≤ (S.2 1 (3 * b + c)).toInt ∧ (S.2 1 (3 * b + c)).toInt ≤ 10000000000000000) : 0 ≤ (sInt S b c).toInt ∧ 100 * (sInt S b c).toInt ≤ 99 + (if (S.2 1 (3 * b + c)).toInt < 0 then -(S.2 1 (3 * b + c)).toInt else 0) := by
  have e : (sBel S b c).toInt = if (S.2 1 (3 * b + c)).toInt < 0 then -(S.2 1 (3 * b + c)).toInt else 0 := by
    unfold sBel
    have q : S.2 1 (3 * b + c) < 0 ↔ (S.2 1 (3 * b + c)).toInt < 0 := by
      rw [Int64.lt_iff_toInt_lt]; rfl
    by_cases z : (S.2 1 (3 * b + c)).toInt < 0
    · rw [if_pos (q.mpr z), if_pos z, ti_neg (by omega)]
    · rw [if_neg (fun y => z (q.mp y)), if_neg z]; rfl
  have hy : 0 ≤ (sBel S b c).toInt ∧ (sBel S b c).toInt ≤ 10000000000000000 := by
    rw [e]
    split <;> omega
  rw [← e]
  unfold sInt
  have e99 : (99 : Int64).toInt = 99 := by decide
  have e100 : (100 : Int64).toInt = 100 := by decide
  rw [Int64.toInt_div_of_ne_right _ _ (by decide), ti_add (by omega) (by rw [e99]; omega), e99, e100, Int.tdiv_eq_ediv_of_nonneg (by omega)]
  omega
theorem bookc_1 {S : ST} {b c x : Int} {v : Int64} (hb : 0 ≤ b) (hc : 0 ≤ c) (hx : x < 18) : (sBook S b 6 c v (-1)).2 1 x = if x = 3 * b + c then S.2 1 x - v else S.2 1 x := by
  rw [book_1, if_neg (by omega), less_1, if_neg (by omega)]
theorem chg_bd {S : ST} (hw : wf S) {b c x M : Int} (hb : 0 ≤ b) (hc : 0 ≤ c) (hx : x < 18) (hM : M ≤ 1000000000000000) (h : -M ≤ (S.2 1 x).toInt ∧ (S.2 1 x).toInt ≤ M) : (x ≠ 3 * b + c → (sChg S b c).2 1 x = S.2 1 x) ∧ ((sChg S b c).2 1 x).toInt ≤ (S.2 1 x).toInt ∧ (S.2 1 x).toInt - (M / 100 + 122) ≤ ((sChg S b c).2 1 x).toInt := by
  have hf := sFee_r S b c (nP S)
  have h8 := nP_le hw
  have h1 : (x ≠ 3 * b + c → (sCh1 S b c).2 1 x = S.2 1 x) ∧ ((sCh1 S b c).2 1 x).toInt ≤ (S.2 1 x).toInt ∧ (S.2 1 x).toInt - 120 ≤ ((sCh1 S b c).2 1 x).toInt := by
    unfold sCh1
    split
    · rw [bookc_1 hb hc hx]
      refine ⟨fun e => if_neg e, ?_⟩
      split
      · rw [ti_sub (by omega) (by rw [ti_of (by omega)]; omega), ti_of (by omega)]; omega
      · omega
    · exact ⟨fun _ => rfl, by omega, by omega⟩
  unfold sChg
  split
  · rw [bookc_1 hb hc hx]
    refine ⟨fun e => by rw [if_neg e]; exact h1.1 e, ?_⟩
    split
    · rename_i e
      rw [e] at h h1 ⊢
      have hi := int_bd (S := S) (b := b) (c := c) (by omega)
      have hi2 : (sInt S b c).toInt ≤ M / 100 + 1 := by
        have := hi.2
        split at this <;> omega
      rw [ti_sub (by omega) (by omega)]; omega
    · omega
  · exact ⟨h1.1, by omega, by omega⟩
theorem bal_ed3 {M : Int} {S : ST} (ho : okS S) (hb : balP M S) (hM : M ≤ 1000000000000000) (he : S.1 31 0 + cNF S ≤ 28800) : balP (M + M / 100 + 200) (sEd3 S) := by
  have cn := cNF_nn S
  have q : ∀ n : Nat, n ≤ 18 → ∀ x : Int, 0 ≤ x → x < 18 → (n ≤ x → (foS ed3 S n).2 1 x = S.2 1 x) ∧ ((foS ed3 S n).2 1 x).toInt ≤ (S.2 1 x).toInt ∧ (S.2 1 x).toInt - (M / 100 + 122) ≤ ((foS ed3 S n).2 1 x).toInt := by
    intro n
    induction n with
    | zero =>
      intro _ x x0 x1
      have := hb x x0 x1
      exact ⟨fun _ => rfl, Int.le_refl _, by show (S.2 1 x).toInt - (M / 100 + 122) ≤ (S.2 1 x).toInt; omega⟩
    | succ n ih =>
      intro hn x x0 x1
      have ih := ih (by omega) x x0 x1
      have hx := hb x x0 x1
      obtain ⟨e1, _⟩ := ed3_all ho he n (by omega)
      rw [foS_s]
      generalize foS ed3 S n = T at ih e1 ⊢
      unfold ed3
      by_cases e : x = n
      · have ex := ih.1 (by omega)
        have r := chg_bd (S := T) e1.1 (b := (n : Int) / 3) (c := (n : Int) % 3) (x := x) (M := M) (by omega) (by omega) x1 hM (by rw [ex]; omega)
        rw [ex] at r
        exact ⟨fun h => absurd h (by omega), r.2⟩
      · have hT : -10000000000000000 ≤ (T.2 1 x).toInt ∧ (T.2 1 x).toInt ≤ 10000000000000000 := by omega
        have r : (sChg T ((n : Int) / 3) ((n : Int) % 3)).2 1 x = T.2 1 x := by
          unfold sChg
          have r1 : (sCh1 T ((n : Int) / 3) ((n : Int) % 3)).2 1 x = T.2 1 x := by
            unfold sCh1
            split
            · rw [bookc_1 (by omega) (by omega) x1, if_neg (by omega)]
            · rfl
          split
          · rw [bookc_1 (by omega) (by omega) x1, if_neg (by omega)]; exact r1
          · exact r1
        rw [r]
        exact ⟨fun h => ih.1 (by omega), ih.2⟩
  obtain ⟨_, e2, _⟩ := ed3_all ho he 18 (by omega)
  intro x x0 x1
  have r := q 18 (by omega) x x0 x1
  have hx := hb x x0 x1
  have e : sEd3 S = foS ed3 S 18 := rfl
  rw [e, e2]
  omega
def mB : Nat → Int
  | 0 => 120000000
  | n + 1 => mB n + mB n / 100 + 1000300
theorem mB_nn : ∀ n : Nat, 0 ≤ mB n
  | 0 => by decide
  | n + 1 => by
    have := mB_nn n
    unfold mB
    omega
theorem mB_s (n : Nat) : mB n + mB n / 100 + 1000300 = mB (n + 1) := rfl
theorem mB_1 (n : Nat) : mB n + 1000300 ≤ mB (n + 1) := by
  have := mB_nn n
  have := mB_s n
  omega
theorem mB_mono {n : Nat} : ∀ {m : Nat}, n ≤ m → mB n ≤ mB m
  | 0, h => by
    have : n = 0 := by omega
    rw [this]
    exact Int.le_refl _
  | m + 1, h => by
    by_cases e : n = m + 1
    · rw [e]; exact Int.le_refl _
    · have := mB_mono (n := n) (m := m) (by omega)
      have := mB_1 m
      omega
theorem mB_512 : mB 514 ≤ 1000000000000000 := by decide +kernel
theorem mB_b {n : Nat} (h : n ≤ 514) : mB n ≤ 1000000000000000 := Int.le_trans (mB_mono h) mB_512
