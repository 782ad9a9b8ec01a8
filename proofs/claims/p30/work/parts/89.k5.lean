/-! the calls, one by one: what they answer and what they keep -/
def ac (f : Int → Int64) (S T : ST) : Prop := kI f T ∧ evS S T ∧ T.1 8 0 = S.1 8 0 ∧ T.1 0 0 = S.1 0 0
theorem ac_id {f : Int → Int64} {S : ST} (h : kI f S) : ac f S S := ⟨h, evS_0 S, rfl, rfl⟩
theorem ac_runs {f : Int → Int64} {S T : ST} (hi : inv T) (hf : finJ T) (h : ac f S T) : ac f S (sRuns T).2 ∧ evR T (sRuns T).2 := by
  obtain ⟨a, b, c⟩ := fin_act hi hf h.1 h.2.1
  have c8 := c.2.2.1 8 (by unfold cht; decide)
  have c0 := c.2.2.1 0 (by unfold cht; decide)
  exact ⟨⟨a, b, by rw [c8]; exact h.2.2.1, by rw [c0]; exact h.2.2.2⟩, c⟩
theorem ac_pI {f : Int → Int64} {S : ST} (h : kI f S) {g : Nat} (k v : Int) (hg : g ≠ 0 ∧ g ≠ 2 ∧ g ≠ 3 ∧ g ≠ 8 ∧ g ≠ 9 ∧ g ≠ 10 ∧ g ≠ 11 ∧ g ≠ 12 ∧ g ≠ 14 ∧ g ≠ 15 ∧ g ≠ 18 ∧ g ≠ 23 ∧ g ≠ 27 ∧ g ≠ 28 ∧ g ≠ 30 ∧ g ≠ 31 ∧ g ≠ 44) : ac f S (pI S g k v) := ⟨kI_pI h k v (by omega), evS_pI S k v (by omega), by rw [pI_f _ _ _ (by omega)], by rw [pI_f _ _ _ (by omega)]⟩
theorem ac_tr {f g : Int → Int64} {S T U : ST} (h : ac f S T) (h2 : ac g T U) : ac g S U := ⟨h2.1, evS_tr h.2.1 h2.2.1, by rw [h2.2.2.1, h.2.2.1], by rw [h2.2.2.2, h.2.2.2]⟩
theorem a_fund {n : Nat} {f : Int → Int64} {S : ST} (hn : n < 512) (hS : cI n S) (hk : kI f S) {b c v : Int} (hb : 0 ≤ b ∧ b ≤ 5) (hc : 0 ≤ c ∧ c ≤ 2) (hv : 1 ≤ v ∧ v ≤ 1000000) : (pFund S b c v).1 = 0 ∧ ac (fun x => if x = c then f c + Int64.ofInt v else f x) S (pFund S b c v).2.2 ∧ (pFund S b c v).2.1 = (pFund S b c v).2.2.2 1 (3 * b + c) := by
  have g1 : okBC b c = true := by simp only [okBC, sIn, Bool.and_eq_true, decide_eq_true_eq]; omega
  have g2 : sIn v 1 1000000 = true := by simp only [sIn, Bool.and_eq_true, decide_eq_true_eq]; omega
  have e : pFund S b c v = (0, (sRuns (sBook S (-1) b c (Int64.ofInt v) (-1))).2.2 1 (3 * b + c), (sRuns (sBook S (-1) b c (Int64.ofInt v) (-1))).2) := by
    unfold pFund
    rw [g1, g2]
    rfl
  have cn := cNF_nn S
  have hs := hS.2.2.2.1
  rw [e]
  have hbk : bkS S (sBook S (-1) b c (Int64.ofInt v) (-1)) (-1) b c (Int64.ofInt v) (-1) := ⟨sBook_31 _ _ _ _ _ _, fun x => by rw [sBook_32], fun _ => rfl⟩
  have q := kI_book hk hS.1.1.1 (b := -1) (o := b) (c := c) (v := Int64.ofInt v) (by omega) (by omega) hc (pos64 (by omega)) (kS_bkF hk.2.2.2.2.1 hbk (by omega) hc)
  exact ⟨rfl, (ac_runs (inv_book hS.1 _ (by omega) (by decide) (by unfold rI; omega) (by unfold rI; omega) (by decide)) (fin_book hS.2.1 _ _ _ _ _) ⟨q.1, q.2, by rw [sBook_f _ _ _ _ _ _ (by decide)], by rw [sBook_f _ _ _ _ _ _ (by decide)]⟩).1, rfl⟩
theorem ac_23 {f : Int → Int64} {S : ST} (h : kI f S) {g : Nat} {k v : Int} (hg : (g = 2 ∧ 0 ≤ v ∧ v ≤ 59) ∨ (g = 3 ∧ -1 ≤ v ∧ v ≤ 78)) : ac f S (pI S g k v) := by
  obtain ⟨a1, a2, a3, a4, a5, a6, a7, a8, a9, a10, a11, a12⟩ := id h
  have F : ∀ {i : Nat}, i ≠ g → (pI S g k v).1 i = S.1 i := fun hi => pI_f _ _ _ hi
  refine ⟨kI_keep h (fun i hi => F (by omega)) rfl rfl (fun j => by rw [F (by omega)]) ?_ a7 ⟨fun x x0 x1 => ?_, fun x x0 x1 => ?_⟩ ?_ ?_, evS_pI S k v (by omega), by rw [F (by omega)], by rw [F (by omega)]⟩
  · unfold kQ; rw [F (i := 8) (by omega), F (i := 18) (by omega), F (i := 15) (by omega)]; exact a6
  · have := a9.1 x x0 x1
    unfold pI
    show 0 ≤ (if 2 = g ∧ x = k then v else S.1 2 x) ∧ (if 2 = g ∧ x = k then v else S.1 2 x) ≤ 59
    split <;> omega
  · have := a9.2 x x0 x1
    unfold pI
    show -1 ≤ (if 3 = g ∧ x = k then v else S.1 3 x) ∧ (if 3 = g ∧ x = k then v else S.1 3 x) ≤ 78
    split <;> omega
  · unfold kR; rw [F (i := 8) (by omega), F (i := 18) (by omega), F (i := 23) (by omega)]; exact a10
  · unfold kB; rw [F (i := 30) (by omega), F (i := 44) (by omega)]; exact a12
theorem a_line {n : Nat} {f : Int → Int64} {S : ST} (hS : cI n S) (hk : kI f S) {b c v : Int} (hb : 0 ≤ b ∧ b ≤ 5) (hc : 0 ≤ c ∧ c ≤ 2) (hv : 0 ≤ v ∧ v ≤ 59) : (pLine S b c v).1 = 0 ∧ ac f S (pLine S b c v).2.2 ∧ 0 ≤ (pLine S b c v).2.1 ∧ (pLine S b c v).2.1 ≤ 59 := by
  have g1 : okBC b c = true := by simp only [okBC, sIn, Bool.and_eq_true, decide_eq_true_eq]; omega
  have g2 : sIn v 0 1000000 = true := by simp only [sIn, Bool.and_eq_true, decide_eq_true_eq]; omega
  have e : pLine S b c v = (0, S.1 2 (3 * b + c), (sRuns (pI S 2 (3 * b + c) v)).2) := by
    unfold pLine
    rw [g1, g2]
    rfl
  rw [e]
  have q := hk.2.2.2.2.2.2.2.2.1.1 (3 * b + c) (by omega) (by omega)
  exact ⟨rfl, (ac_runs (inv_pI hS.1 _ _ (by decide) (by simp only [rLo, rHi]; omega)) (fin_pI hS.2.1 _ _ (by decide)) (ac_23 hk (Or.inl ⟨rfl, hv⟩))).1, q.1, q.2⟩
theorem a_limit {n : Nat} {f : Int → Int64} {S : ST} (hS : cI n S) (hk : kI f S) {b u c v : Int} (hb : 0 ≤ b ∧ b ≤ 5) (hu : 0 ≤ u ∧ u ≤ 5) (hbu : b ≠ u) (hc : 0 ≤ c ∧ c ≤ 2) (hv : -1 ≤ v ∧ v ≤ 78) : (pLimit S b u c v).1 = 0 ∧ ac f S (pLimit S b u c v).2.2 ∧ -1 ≤ (pLimit S b u c v).2.1 ∧ (pLimit S b u c v).2.1 ≤ 78 := by
  have g1 : okBB b u c = true := by simp only [okBB, sIn, Bool.and_eq_true, decide_eq_true_eq]; omega
  have g2 : okLi b u v = true := by simp only [okLi, sIn, Bool.and_eq_true, Bool.not_eq_true', decide_eq_true_eq, decide_eq_false_iff_not]; omega
  have e : pLimit S b u c v = (0, S.1 3 (3 * (6 * b + u) + c), (sRuns (pI S 3 (3 * (6 * b + u) + c) v)).2) := by
    unfold pLimit
    rw [g1, g2]
    rfl
  rw [e]
  have q := hk.2.2.2.2.2.2.2.2.1.2 (3 * (6 * b + u) + c) (by omega) (by omega)
  exact ⟨rfl, (ac_runs (inv_pI hS.1 _ _ (by decide) (by simp only [rLo, rHi]; omega)) (fin_pI hS.2.1 _ _ (by decide)) (ac_23 hk (Or.inr ⟨rfl, hv⟩))).1, q.1, q.2⟩
theorem a_out {n : Nat} {f : Int → Int64} {S : ST} (hS : cI n S) (hk : kI f S) {b : Int} (is : Bool) (hb : 0 ≤ b ∧ b ≤ 5) : (pOut S b is).1 = 0 ∧ ac f S (pOut S b is).2.2 ∧ ((pOut S b is).2.1 = 0 ∨ (pOut S b is).2.1 = 1) := by
  have g1 : sIn b 0 5 = true := by simp only [sIn, Bool.and_eq_true, decide_eq_true_eq]; omega
  have e : pOut S b is = (0, S.1 5 b, (sRuns (pI S 5 b (bI is))).2) := by
    unfold pOut
    rw [g1]
    rfl
  rw [e]
  have w := wf_5 hS.1.1.1 b
  have := bI_01 is
  exact ⟨rfl, (ac_runs (inv_pI hS.1 _ _ (by decide) (by simp only [rLo, rHi]; omega)) (fin_pI hS.2.1 _ _ (by decide)) (ac_pI hk _ _ (by decide))).1, by show S.1 5 b = 0 ∨ S.1 5 b = 1; omega⟩
theorem a_holiday {n : Nat} {f : Int → Int64} {S : ST} (hS : cI n S) (hk : kI f S) {c d : Int} (is : Bool) (hc : 0 ≤ c ∧ c ≤ 2) (hd : 0 ≤ d ∧ d ≤ 999) : (pHoli S c d is).1 = 0 ∧ ac f S (pHoli S c d is).2.2 ∧ (pHoli S c d is).2.1 = (if is = true ∨ 4 < d % 7 then 0 else 1) := by
  have g1 : sIn c 0 2 = true := by simp only [sIn, Bool.and_eq_true, decide_eq_true_eq]; omega
  have g2 : sIn d 0 999 = true := by simp only [sIn, Bool.and_eq_true, decide_eq_true_eq]; omega
  have e : pHoli S c d is = (0, bI (sOpen (sRuns (pI S 6 (1000 * c + d) (bI is))).2 c d), (sRuns (pI S 6 (1000 * c + d) (bI is))).2) := by
    unfold pHoli
    rw [g1, g2]
    rfl
  rw [e]
  have := bI_01 is
  have r := ac_runs (inv_pI hS.1 (f := 6) (1000 * c + d) (bI is) (by decide) (by simp only [rLo, rHi]; omega)) (fin_pI hS.2.1 _ _ (by decide)) (ac_pI hk _ _ (by decide))
  refine ⟨rfl, r.1, ?_⟩
  show bI (sOpen (sRuns (pI S 6 (1000 * c + d) (bI is))).2 c d) = _
  unfold sOpen
  rw [r.2.2.2.1 6 (by unfold cht; decide), pI_s]
  cases is
  · by_cases q : d % 7 < 5
    · rw [decide_eq_true q, if_neg (fun h => h.elim (fun x => by cases x) (fun x => by omega))]; rfl
    · rw [decide_eq_false q, if_pos (Or.inr (by omega))]; rfl
  · rw [if_pos (Or.inl rfl)]
    by_cases q : d % 7 < 5
    · rw [decide_eq_true q]; rfl
    · rw [decide_eq_false q]; rfl
theorem list_ac {f : Int → Int64} {S : ST} (hi : inv S) (hf : finJ S) (hk : kI f S) {nm : Int} (is : Bool) : ∀ n : Nat, n ≤ nP S → ac f S (sList S nm is n).2 ∧ 0 ≤ (sList S nm is n).1 ∧ (sList S nm is n).1 ≤ n
  | 0, _ => ⟨ac_pI hk _ _ (by decide), Int.le_refl _, Int.le_refl _⟩
  | n + 1, hn => by
    obtain ⟨a, b, c⟩ := list_ac hi hf hk (nm := nm) is n (by omega)
    have s : sList S nm is (n + 1) = lsB nm is n (sList S nm is n) := rfl
    rw [s]
    generalize sList S nm is n = x at a b c ⊢
    unfold lsB
    split
    · rename_i hc
      simp only [lsC, Bool.and_eq_true, Bool.or_eq_true, decide_eq_true_eq] at hc
      have r := act_one (k := (n : Int)) (v := 1) a.1 (by omega) (by decide) (fun q => absurd q (by decide))
      refine ⟨⟨r.1, evS_tr a.2.1 r.2, by rw [pI_f _ _ _ (by decide)]; exact a.2.2.1, by rw [pI_f _ _ _ (by decide)]; exact a.2.2.2⟩, ?_, ?_⟩
      · show 0 ≤ x.1 + 1; omega
      · show x.1 + 1 ≤ ((n + 1 : Nat) : Int); omega
    · exact ⟨a, b, by omega⟩
theorem a_list {n : Nat} {f : Int → Int64} {S : ST} (hS : cI n S) (hk : kI f S) {nm : Int} (is : Bool) (hm : 0 ≤ nm ∧ nm ≤ 19) : (pList S nm is).1 = 0 ∧ ac f S (pList S nm is).2.2 ∧ 0 ≤ (pList S nm is).2.1 ∧ (pList S nm is).2.1 ≤ S.1 8 0 := by
  have g1 : sIn nm 0 19 = true := by simp only [sIn, Bool.and_eq_true, decide_eq_true_eq]; omega
  have e : pList S nm is = (0, (sList S nm is (nP S)).1, (sRuns (sList S nm is (nP S)).2).2) := by
    unfold pList
    rw [g1]
    rfl
  rw [e]
  have w8 := wf_8 hS.1.1.1 0
  obtain ⟨a, b, _⟩ := inv_list hS.1 hS.2.1 (nm := nm) is (nP S) (Nat.le_refl _)
  obtain ⟨p, q, r⟩ := list_ac hS.1 hS.2.1 hk (nm := nm) is (nP S) (Nat.le_refl _)
  refine ⟨rfl, (ac_runs a b p).1, q, ?_⟩
  show (sList S nm is (nP S)).1 ≤ S.1 8 0
  unfold nP at r ⊢
  omega
theorem okP_no {S : ST} {k : Int} (h : S.1 8 0 = 0) : okP S k = false := by
  unfold okP sIn
  rw [Bool.and_eq_false_iff]
  by_cases q : 0 ≤ k
  · right; rw [decide_eq_false_iff_not]; omega
  · left; rw [decide_eq_false_iff_not]; exact q
theorem okP_is {S : ST} {k : Int} (h0 : 0 ≤ k) (h1 : k < S.1 8 0) : okP S k = true := by
  simp only [okP, sIn, Bool.and_eq_true, decide_eq_true_eq]
  omega
theorem a_join {n : Nat} {f : Int → Int64} {S : ST} (hS : cI n S) (hk : kI f S) {k u : Int} (k0 : 0 ≤ k) (u0 : 0 ≤ u) (hr : 0 < S.1 8 0 → k < S.1 8 0 ∧ u < S.1 8 0) : ac f S (pJoin S k u).2 ∧ ((S.1 8 0 = 0 ∧ (pJoin S k u).1 = 1) ∨ (0 < S.1 8 0 ∧ (((pJoin S k u).1 = 0 ∧ k ≠ u) ∨ (pJoin S k u).1 = 2))) := by
  have w8 := wf_8 hS.1.1.1 0
  by_cases z : S.1 8 0 = 0
  · have e : pJoin S k u = (1, S) := by
      unfold pJoin okPP
      rw [okP_no z]
      rfl
    rw [e]
    exact ⟨ac_id hk, Or.inl ⟨z, rfl⟩⟩
  · obtain ⟨k1, u1⟩ := hr (by omega)
    have p1 : okPP S k u = true := by unfold okPP; rw [okP_is k0 k1, okP_is u0 u1]; rfl
    by_cases q : sJoin S k u = true
    · have e : pJoin S k u = (0, (sRuns (pI (pI S 21 k u) 21 u k)).2) := by
        unfold pJoin okJ
        rw [p1, q]
        rfl
      have a := inv_join hS.1 hS.2.1 k0 k1 u0 u1 q
      have b := ac_pI hk (g := 21) k u (by decide)
      rw [e]
      refine ⟨(ac_runs a.1 a.2 (ac_tr b (ac_pI b.1 (g := 21) u k (by decide)))).1, Or.inr ⟨by omega, Or.inl ⟨rfl, fun x => ?_⟩⟩⟩
      simp only [sJoin, sJ1, Bool.and_eq_true, Bool.not_eq_true', decide_eq_false_iff_not] at q
      exact q.1.1.1.1.1.1.1.1.1 x
    · have e : pJoin S k u = (2, S) := by
        unfold pJoin okJ
        rw [p1, Bool.eq_false_iff.mpr q]
        rfl
      rw [e]
      exact ⟨ac_id hk, Or.inr ⟨by omega, Or.inr rfl⟩⟩
theorem ret_ac {f : Int → Int64} {S : ST} (hi : inv S) (hf : finJ S) (hk : kI f S) {k : Int} (k0 : 0 ≤ k) (k1 : k < S.1 8 0) (hs : S.1 18 k ≠ 4) : ac f S (sRuns (sRet S k)).2 ∧ (sRuns (sRet S k)).2.1 18 k = 5 := by
  have a := inv_ret hi hf k0 k1 hs
  have b := act_ret hk hi hf k0 k1 hs
  have c := ac_runs a.1 a.2 (f := f) (S := S) ⟨b.1, b.2, by rw [sRet_f _ _ (by decide)], by rw [sRet_f _ _ (by decide)]⟩
  have r5 := ret_5 S hi.2.1 k0 k1
  refine ⟨c.1, ?_⟩
  rcases c.2.2.2.2 k with q | q
  · rw [q]; exact r5
  · exact absurd r5 q.2
theorem sRetN_r (S : ST) (k : Int) : sRetN S k = 1 ∨ sRetN S k = 2 := by unfold sRetN; split <;> simp
theorem a_with {n : Nat} {f : Int → Int64} {S : ST} (hS : cI n S) (hk : kI f S) {k : Int} (k0 : 0 ≤ k) (hr : 0 < S.1 8 0 → k < S.1 8 0) : ac f S (pWith S k).2.2 ∧ ((S.1 8 0 = 0 ∧ (pWith S k).1 = 1) ∨ (0 < S.1 8 0 ∧ ((S.1 18 k < 4 ∧ (pWith S k).1 = 0 ∧ ((pWith S k).2.1 = 1 ∨ (pWith S k).2.1 = 2) ∧ (pWith S k).2.2.1 18 k = 5) ∨ (4 ≤ S.1 18 k ∧ (pWith S k).1 = 2 ∧ (pWith S k).2.2 = S)))) := by
  have w8 := wf_8 hS.1.1.1 0
  have w18 := wf_18 hS.1.1.1 k
  by_cases z : S.1 8 0 = 0
  · have e : pWith S k = (1, 0, S) := by
      unfold pWith okW
      rw [okP_no z]
      rfl
    rw [e]
    exact ⟨ac_id hk, Or.inl ⟨z, rfl⟩⟩
  · have k1 := hr (by omega)
    by_cases q : sEnds S k = true
    · have e : pWith S k = (2, 0, S) := by
        unfold pWith okW
        rw [okP_is k0 k1, q]
        rfl
      rw [e]
      simp only [sEnds, Bool.or_eq_true, decide_eq_true_eq] at q
      exact ⟨ac_id hk, Or.inr ⟨by omega, Or.inr ⟨by omega, rfl, rfl⟩⟩⟩
    · have e : pWith S k = (0, sRetN S k, (sRuns (sRet S k)).2) := by
        unfold pWith okW
        rw [okP_is k0 k1, Bool.eq_false_iff.mpr q]
        rfl
      rw [e]
      simp only [sEnds, Bool.or_eq_true, decide_eq_true_eq] at q
      have r := ret_ac hS.1 hS.2.1 hk k0 k1 (by omega)
      exact ⟨r.1, Or.inr ⟨by omega, Or.inl ⟨by omega, rfl, sRetN_r S k, r.2⟩⟩⟩
theorem a_refuse {n : Nat} {f : Int → Int64} {S : ST} (hS : cI n S) (hk : kI f S) {k : Int} (k0 : 0 ≤ k) (hr : 0 < S.1 8 0 → k < S.1 8 0) : ac f S (pRefu S k).2.2 ∧ ((S.1 8 0 = 0 ∧ (pRefu S k).1 = 1) ∨ (0 < S.1 8 0 ∧ ((S.1 18 k = 1 ∧ (pRefu S k).1 = 0 ∧ ((pRefu S k).2.1 = 1 ∨ (pRefu S k).2.1 = 2) ∧ (pRefu S k).2.2.1 18 k = 5) ∨ (S.1 18 k ≠ 1 ∧ (pRefu S k).1 = 2 ∧ (pRefu S k).2.2 = S)))) := by
  have w8 := wf_8 hS.1.1.1 0
  by_cases z : S.1 8 0 = 0
  · have e : pRefu S k = (1, 0, S) := by
      unfold pRefu okF
      rw [okP_no z]
      rfl
    rw [e]
    exact ⟨ac_id hk, Or.inl ⟨z, rfl⟩⟩
  · have k1 := hr (by omega)
    by_cases q : S.1 18 k = 1
    · have e : pRefu S k = (0, sRetN S k, (sRuns (sRet S k)).2) := by
        unfold pRefu okF
        rw [okP_is k0 k1, decide_eq_true q]
        rfl
      rw [e]
      have r := ret_ac hS.1 hS.2.1 hk k0 k1 (by omega)
      exact ⟨r.1, Or.inr ⟨by omega, Or.inl ⟨q, rfl, sRetN_r S k, r.2⟩⟩⟩
    · have e : pRefu S k = (2, 0, S) := by
        unfold pRefu okF
        rw [okP_is k0 k1, decide_eq_false q]
        rfl
      rw [e]
      exact ⟨ac_id hk, Or.inr ⟨by omega, Or.inr ⟨q, rfl, rfl⟩⟩⟩
