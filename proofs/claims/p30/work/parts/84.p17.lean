/-! after n calls -/
def cI (n : Nat) (S : ST) : Prop := inv S ∧ finJ S ∧ stab S ∧ S.1 31 0 + cNF S ≤ 60 + 37 * n ∧ S.1 26 0 ≤ n ∧ balP (mB n) S
theorem cI_up0 {n : Nat} {S : ST} (h : cI n S) : cI (n + 1) S := by
  obtain ⟨h1, h2, h3, h4, h5, h6⟩ := h
  exact ⟨h1, h2, h3, by omega, by omega, balP_le h6 (mB_mono (by omega))⟩
/-- after one more call: what holds, and the book has not shrunk -/
def cJ (n : Nat) (S T : ST) : Prop := cI (n + 1) T ∧ nE S ≤ nE T ∧ T.1 31 0 + cNF T ≤ S.1 31 0 + cNF S + 37
theorem cI_up {n : Nat} {S : ST} (h : cI n S) : cJ n S S := ⟨cI_up0 h, Nat.le_refl _, by omega⟩
theorem cI_runs {n : Nat} {S T : ST} (hn : n < 512) (hS : cI n S) (h : inv T) (hf : finJ T) (h31 : S.1 31 0 ≤ T.1 31 0 ∧ T.1 31 0 + cNF T ≤ S.1 31 0 + cNF S + 37) (h26 : T.1 26 0 ≤ S.1 26 0 + 1) (hb : balP (mB (n + 1)) T) : cJ n S (sRuns T).2 := by
  obtain ⟨_, _, _, s4, s5, _⟩ := hS
  have hM := mB_b (n := n + 1) (by omega)
  have a := fin_runs h hf
  have b := rdP_bd h.1 (rdP_runs h.1)
  have c := (sRuns_ok h.1).2.2.2 26 (by unfold cht; decide)
  exact ⟨⟨a.1, a.2, stab_after h.1, by omega, by rw [c]; omega, bal_runs h hf hb (by omega)⟩, by have := b.2.2.2.1; unfold nE at this ⊢; omega, by have := b.2.2.1; omega⟩
/-- a call that runs no queue -/
theorem cI_q {n : Nat} {S T : ST} (hS : cI n S) (h : inv T) (hf : finJ T) (hq : qEq S T) (h31 : T.1 31 = S.1 31) (h18 : T.1 18 = S.1 18) (h26 : T.1 26 0 ≤ S.1 26 0 + 1) (h2 : T.2 1 = S.2 1) : cJ n S T := by
  have u := cI_up0 hS
  obtain ⟨_, _, s3, s4, s5, s6⟩ := hS
  have hc : cNF T = cNF S := by unfold cNF; rw [h18]
  exact ⟨⟨h, hf, stab_q hq s3, by rw [h31, hc]; omega, by omega, balP_of u.2.2.2.2.2 h2 hc⟩, by unfold nE; rw [h31]; omega, by rw [h31, hc]; omega⟩
theorem cI_pI {n : Nat} {S : ST} (hn : n < 512) (hS : cI n S) {f : Nat} (k v : Int) (hf : f < 8) (hv : rLo f ≤ v ∧ v ≤ rHi f) : cJ n S (sRuns (pI S f k v)).2 := by
  refine cI_runs hn hS (inv_pI hS.1 k v (Or.inl hf) hv) (fin_pI hS.2.1 k v (by omega)) ?_ ?_ (balP_of (cI_up0 hS).2.2.2.2.2 rfl (cNF_pI (by omega)))
  · rw [pI_f _ _ _ (by omega), cNF_pI (by omega)]; omega
  · rw [pI_f _ _ _ (by omega)]; omega
theorem cI_fund {n : Nat} {S : ST} (hn : n < 512) (hS : cI n S) (b c v : Int) : cJ n S (pFund S b c v).2.2 := by
  unfold pFund
  split
  · rename_i h
    simp only [okBC, sIn, Bool.and_eq_true, decide_eq_true_eq] at h
    have cn := cNF_nn S
    obtain ⟨s1, s2, s3, s4, s5, s6⟩ := id hS
    have hM := mB_b (n := n + 1) (by omega)
    have hM1 := mB_1 n
    refine cI_runs (T := sBook S (-1) b c (Int64.ofInt v) (-1)) hn hS (inv_book s1 _ (by omega) (by decide) (by unfold rI; omega) (by unfold rI; omega) (by decide)) (fin_book s2 _ _ _ _ _) (by rw [sBook_31, cNF_book]; omega) (by rw [sBook_f _ _ _ _ _ _ (by decide)]; omega) (fun x x0 x1 => ?_)
    have hx := s6 x x0 x1
    have q := book_bd (S := S) (b := -1) (o := b) (c := c) (v := Int64.ofInt v) (k := -1) (x := x) (V := 1000000) (by rw [ti_of (by omega)]; omega) (by decide) (by omega)
    rw [cNF_book]
    omega
  · exact cI_up hS
theorem cI_line {n : Nat} {S : ST} (hn : n < 512) (hS : cI n S) (b c v : Int) : cJ n S (pLine S b c v).2.2 := by
  unfold pLine
  split
  · rename_i h
    simp only [okBC, sIn, Bool.and_eq_true, decide_eq_true_eq] at h
    exact cI_pI hn hS _ _ (by decide) (by simp only [rLo, rHi]; omega)
  · exact cI_up hS
theorem cI_limit {n : Nat} {S : ST} (hn : n < 512) (hS : cI n S) (b u c v : Int) : cJ n S (pLimit S b u c v).2.2 := by
  unfold pLimit
  split
  · rename_i h
    simp only [okBB, okLi, sIn, Bool.and_eq_true, decide_eq_true_eq] at h
    exact cI_pI hn hS _ _ (by decide) (by simp only [rLo, rHi]; omega)
  · exact cI_up hS
theorem cI_out {n : Nat} {S : ST} (hn : n < 512) (hS : cI n S) (b : Int) (is : Bool) : cJ n S (pOut S b is).2.2 := by
  unfold pOut
  split
  · have := bI_01 is
    exact cI_pI hn hS _ _ (by decide) (by simp only [rLo, rHi]; omega)
  · exact cI_up hS
theorem cI_holi {n : Nat} {S : ST} (hn : n < 512) (hS : cI n S) (c d : Int) (is : Bool) : cJ n S (pHoli S c d is).2.2 := by
  unfold pHoli
  split
  · have := bI_01 is
    exact cI_pI hn hS _ _ (by decide) (by simp only [rLo, rHi]; omega)
  · exact cI_up hS
theorem cI_list {n : Nat} {S : ST} (hn : n < 512) (hS : cI n S) (nm : Int) (is : Bool) : cJ n S (pList S nm is).2.2 := by
  unfold pList
  split
  · obtain ⟨a, b, c, d, e⟩ := inv_list hS.1 hS.2.1 (nm := nm) is (nP S) (Nat.le_refl _)
    refine cI_runs hn hS a b ?_ ?_ (balP_of (cI_up0 hS).2.2.2.2.2 (by rw [d]) e)
    · rw [c 31 (by decide) (by decide), e]; omega
    · rw [c 26 (by decide) (by decide)]; omega
  · exact cI_up hS
theorem cI_offset {n : Nat} {S : ST} (hn : n < 512) (hS : cI n S) (c : Int) : cJ n S (pOff S c).2.2 := by
  unfold pOff
  split
  · rename_i h
    simp only [sIn, Bool.and_eq_true, decide_eq_true_eq] at h
    have hM := mB_b (n := n) (by omega)
    have a := fin_off hS.1 hS.2.1 c
    have r := rdP_off hS.1.1 (c := c) (by omega)
    have q := rdP_bd hS.1.1 r
    have f26 := r.1.2.2.2 26 (by unfold cht; decide)
    have hE : (sOff S c).2.1 31 0 = S.1 31 0 + (sOff S c).1 := r.2
    exact cI_runs (T := (sOff S c).2) hn hS a.1 a.2 (by omega) (by rw [f26]; omega) (balP_le (bal_off hS.1 hS.2.2.2.2.2 (by omega) c) (mB_mono (by omega)))
  · exact cI_up hS
theorem okP_i {S : ST} {k : Int} (h : okP S k = true) : 0 ≤ k ∧ k < S.1 8 0 := by
  simp only [okP, sIn, Bool.and_eq_true, decide_eq_true_eq] at h
  omega
theorem cI_send {n : Nat} {S : ST} (hn : n < 512) (hS : cI n S) (b msg u c v nm h : Int) (rl : Bool) (d : Int) (st : Bool) : cJ n S (pSend S b msg u c v nm h rl d st).2.2 := by
  unfold pSend
  split
  · rename_i hq
    simp only [Bool.and_eq_true] at hq
    obtain ⟨⟨qA, qB⟩, qD⟩ := hq
    split
    · have w := wf_26 hS.1.1.1 0
      have u26 := hS.2.2.2.2.1
      exact cI_q hS (inv_pI hS.1 0 _ (Or.inr rfl) (by simp only [rLo, rHi]; omega)) (fin_pI hS.2.1 _ _ (by decide)) (qEq_pI S _ _ (by decide)) (pI_f _ _ _ (by decide)) (pI_f _ _ _ (by decide)) (by rw [pI_s]; omega) rfl
    · rename_i hk
      have hA := qA
      have hB := qB
      simp only [sdA, sdB, sIn, Bool.and_eq_true, decide_eq_true_eq] at hA hB
      have w8 := wf_8 hS.1.1.1 0
      have hI : sdI S b msg u c nm = S.1 25 (100 * b + msg) := by unfold sdI; rw [if_pos qA]
      have h60 : S.1 8 0 < 60 := by
        unfold sdD at qD
        simp only [Bool.and_eq_true, Bool.or_eq_true, decide_eq_true_eq] at qD
        rcases qD.2 with x | x
        · exact x.2
        · rw [x.2] at hk; exact absurd rfl hk
      have a := inv_come (rl := rl) (st := st) hS.1 hS.2.1 h60 (b := b) (u := u) (c := c) (v := v) (nm := nm) (h := h) (d := d) (by omega) (by omega) (by omega) (by omega) (by omega) (by omega) (by omega)
      have f8 := come_8 S b u c v nm h rl d st
      have c31 := come_f S b u c v nm h rl d st (f := 31) (by decide)
      have c27 := come_f S b u c v nm h rl d st (f := 27) (by decide)
      have c26 := come_f S b u c v nm h rl d st (f := 26) (by decide)
      have m := inv_msg a.1 (b := b) (m := msg) (k := S.1 8 0) (by omega) (by omega) (by omega) (come_9 S b u c v nm h rl d st)
      have e : cNF (sdT S b msg u c v nm h rl d st) = cNF S := cNF_27 hS.1.1 m.1 (by unfold sdT; rw [pI_f _ _ _ (by decide), c27])
      refine cI_runs (T := sdT S b msg u c v nm h rl d st) hn hS m (fin_pI a.2 _ _ (by decide)) ?_ ?_ (balP_of (cI_up0 hS).2.2.2.2.2 ?_ e)
      · rw [e]
        unfold sdT
        rw [pI_f _ _ _ (by decide), c31]
        omega
      · unfold sdT
        rw [pI_f _ _ _ (by decide), c26]
        omega
      · unfold sdT
        rw [pI_2, come_2]
  · exact cI_up hS
theorem cI_join {n : Nat} {S : ST} (hn : n < 512) (hS : cI n S) (k u : Int) : cJ n S (pJoin S k u).2 := by
  unfold pJoin
  split
  · rename_i h
    simp only [okPP, okJ, Bool.and_eq_true] at h
    have hk := okP_i h.1.1.1
    have hu := okP_i h.1.1.2
    have a := inv_join hS.1 hS.2.1 hk.1 hk.2 hu.1 hu.2 h.1.2.2
    refine cI_runs (T := pI (pI S 21 k u) 21 u k) hn hS a.1 a.2 ?_ ?_ (balP_of (cI_up0 hS).2.2.2.2.2 rfl ((cNF_pI (by decide)).trans (cNF_pI (by decide))))
    · rw [pI_f _ _ _ (by decide), pI_f _ _ _ (by decide), cNF_pI (by decide), cNF_pI (by decide)]; omega
    · rw [pI_f _ _ _ (by decide), pI_f _ _ _ (by decide)]; omega
  · exact cI_up hS
theorem cI_ret {n : Nat} {S : ST} (hn : n < 512) (hS : cI n S) {k : Int} (hk : 0 ≤ k ∧ k < S.1 8 0) (hs : S.1 18 k ≠ 4) : cJ n S (sRuns (sRet S k)).2 := by
  have a := inv_ret hS.1 hS.2.1 hk.1 hk.2 hs
  have hc := cNF_ret hs (hS.2.1 k hk.1 hk.2)
  refine cI_runs (T := sRet S k) hn hS a.1 a.2 ?_ ?_ (balP_of (cI_up0 hS).2.2.2.2.2 ?_ hc)
  · rw [sRet_f _ _ (by decide), hc]; omega
  · rw [sRet_f _ _ (by decide)]; omega
  · unfold sRet; split <;> rfl
theorem cI_withdraw {n : Nat} {S : ST} (hn : n < 512) (hS : cI n S) (k : Int) : cJ n S (pWith S k).2.2 := by
  unfold pWith
  split
  · rename_i h
    simp only [okW, Bool.and_eq_true, Bool.not_eq_true', sEnds, Bool.or_eq_false_iff, decide_eq_false_iff_not] at h
    exact cI_ret hn hS (okP_i h.1.1) h.1.2.2.1
  · exact cI_up hS
theorem cI_refuse {n : Nat} {S : ST} (hn : n < 512) (hS : cI n S) (k : Int) : cJ n S (pRefu S k).2.2 := by
  unfold pRefu
  split
  · rename_i h
    simp only [okF, Bool.and_eq_true, decide_eq_true_eq] at h
    exact cI_ret hn hS (okP_i h.1.1) (by rw [h.1.2.2]; decide)
  · exact cI_up hS
theorem cI_release {n : Nat} {S : ST} (hn : n < 512) (hS : cI n S) (k y : Int) : cJ n S (pRel S k y).2.2 := by
  unfold pRel
  split
  · rename_i h
    simp only [okR1, okR2, sIn, Bool.and_eq_true, decide_eq_true_eq] at h
    have hk := okP_i h.1.1.1
    have w8 := wf_8 hS.1.1.1 0
    split
    · exact cI_q hS (inv_rel1 hS.1 k (by omega)) (fin_pI (fin_pI hS.2.1 _ _ (by decide)) _ _ (by decide)) ⟨fun f hf => by rw [pI_f _ _ _ (by omega), pI_f _ _ _ (by omega)], rfl, rfl⟩ (by rw [pI_f _ _ _ (by decide), pI_f _ _ _ (by decide)]) (by rw [pI_f _ _ _ (by decide), pI_f _ _ _ (by decide)]) (by rw [pI_f _ _ _ (by decide), pI_f _ _ _ (by decide)]; omega) rfl
    · have a := inv_rel2 hS.1 hS.2.1 hk.1 hk.2 h.1.2.1.2 (y := y) (by omega)
      have hv := sEntV_c (pI S 19 k 1) k
      have hc : cNF (pI (sEnter (pI S 19 k 1) k) 40 k y) = cNF S := by
        rw [cNF_pI (by decide)]
        refine (cNF_18 hk.1 (by omega) (by rw [pI_f _ _ _ (by decide), h.1.2.1.2]; decide) hv.2.2).trans (cNF_pI (by decide))
      have F : ∀ {f : Nat}, f ≠ 18 ∧ f ≠ 19 ∧ f ≠ 40 → (pI (sEnter (pI S 19 k 1) k) 40 k y).1 f = S.1 f := fun hf => by
        rw [pI_f _ _ _ hf.2.2]
        unfold sEnter
        rw [pI_f _ _ _ hf.1, pI_f _ _ _ hf.2.1]
      exact cI_runs hn hS a.1 a.2 (by rw [F (by decide), hc]; omega) (by rw [F (by decide)]; omega) (balP_of (cI_up0 hS).2.2.2.2.2 rfl hc)
  · exact cI_up hS
theorem cI_recall {n : Nat} {S : ST} (hS : cI n S) (k : Int) : cJ n S (pRec S k).2.2 := by
  unfold pRec
  split
  · exact cI_q hS (inv_recall hS.1 k) (fin_pI (fin_pI hS.2.1 _ _ (by decide)) _ _ (by decide)) ⟨fun f hf => by rw [pI_f _ _ _ (by omega), pI_f _ _ _ (by omega)], rfl, rfl⟩ (by rw [pI_f _ _ _ (by decide), pI_f _ _ _ (by decide)]) (by rw [pI_f _ _ _ (by decide), pI_f _ _ _ (by decide)]) (by rw [pI_f _ _ _ (by decide), pI_f _ _ _ (by decide)]; omega) rfl
  · exact cI_up hS
theorem cI_answer {n : Nat} {S : ST} (hn : n < 512) (hS : cI n S) (k : Int) (y : Bool) : cJ n S (pAns S k y).2.2 := by
  unfold pAns
  split
  · rename_i hq
    simp only [okA, Bool.and_eq_true, Bool.or_eq_true, Bool.not_eq_true', decide_eq_true_eq] at hq
    have hk := okP_i hq.1.1
    split
    · exact cI_q hS (inv_24 hS.1 hk.2 (by decide)) (fin_pI hS.2.1 _ _ (by decide)) (qEq_pI S _ _ (by decide)) (pI_f _ _ _ (by decide)) (pI_f _ _ _ (by decide)) (by rw [pI_f _ _ _ (by decide)]; omega) rfl
    · rename_i hy
      have h60 : S.1 8 0 < 60 := by
        rcases hq.1.2.2 with x | x
        · exact absurd x hy
        · exact x
      have w10 := wf_10 hS.1.1.1 k
      have w9 := wf_9 hS.1.1.1 k
      have w11 := wf_11 hS.1.1.1 k
      have w12 := wf_12 hS.1.1.1 k
      have w0 := wf_0 hS.1.1.1 0
      have i24 := inv_24 hS.1 hk.2 (v := 1) (by decide)
      have f24 := fin_pI hS.2.1 (f := 24) k 1 (by decide)
      have a := inv_come (S := pI S 24 k 1) (rl := true) (st := true) i24 f24 h60 (b := S.1 10 k) (u := S.1 9 k) (c := S.1 11 k) (v := S.1 12 k) (nm := 0) (h := 2) (d := S.1 0 0) (by omega) (by omega) (by omega) (by omega) (by decide) (by decide) (by omega)
      have c31 := come_f (pI S 24 k 1) (S.1 10 k) (S.1 9 k) (S.1 11 k) (S.1 12 k) 0 2 true (S.1 0 0) true (f := 31) (by decide)
      have c27 := come_f (pI S 24 k 1) (S.1 10 k) (S.1 9 k) (S.1 11 k) (S.1 12 k) 0 2 true (S.1 0 0) true (f := 27) (by decide)
      have c26 := come_f (pI S 24 k 1) (S.1 10 k) (S.1 9 k) (S.1 11 k) (S.1 12 k) 0 2 true (S.1 0 0) true (f := 26) (by decide)
      have e : cNF (anT S k) = cNF S := cNF_27 hS.1.1 a.1.1 (c27.trans (pI_f _ _ _ (by decide)))
      refine cI_runs (T := anT S k) hn hS a.1 a.2 ?_ ?_ (balP_of (cI_up0 hS).2.2.2.2.2 ?_ e)
      · rw [e]
        unfold anT
        rw [c31, pI_f _ _ _ (by decide)]
        omega
      · unfold anT
        rw [c26, pI_f _ _ _ (by decide)]
        omega
      · unfold anT
        rw [come_2]
        rfl
  · exact cI_up hS
theorem cI_advice {n : Nat} {S : ST} (hS : cI n S) (b : Int) : cJ n S (pAdv S b).2.2 := by
  unfold pAdv
  split
  · rename_i hq
    simp only [sIn, Bool.and_eq_true, decide_eq_true_eq] at hq
    have hw := hS.1.1.1
    have hk := hS.1.2.2.2.2.2.2.1 b hq.1.1.1 hq.1.1.2
    have ht := hS.1.2.2.2.2.1
    have w29 := wf_29 hw b
    have w30 := wf_30 hw b
    have w44 := wf_44 hw b
    have hT : 0 ≤ adT S b ∧ adT S b ≤ 60 := by
      unfold adT
      by_cases e : adZ S b = -1
      · rw [if_pos e]; omega
      · rw [if_neg e]
        by_cases h5 : S.1 5 b = 0
        · have z := adZ_eq hw ht hq.1.1.1 hq.1.1.2
          unfold adZ at e
          rw [if_pos h5, z] at e
          by_cases q : S.1 29 b < S.1 44 b
          · omega
          · rw [if_neg q] at e; exact absurd rfl e
        · unfold adZ at e
          rw [if_neg h5] at e
          exact absurd rfl e
    have hM : 0 ≤ adM S b ∧ adM S b ≤ 60 ∧ adT S b ≤ adM S b := by
      unfold adM
      split <;> omega
    have a := inv_tak hS.1 hS.2.1 (b := b) (x := adT S b) (y := adM S b) hT ⟨hM.1, hM.2.1⟩ hM.2.2
    exact cI_q hS a.1 a.2 ⟨fun f hf => by rw [pI_f _ _ _ (by omega), pI_f _ _ _ (by omega)], rfl, rfl⟩ (by rw [pI_f _ _ _ (by decide), pI_f _ _ _ (by decide)]) (by rw [pI_f _ _ _ (by decide), pI_f _ _ _ (by decide)]) (by rw [pI_f _ _ _ (by decide), pI_f _ _ _ (by decide)]; omega) rfl
  · exact cI_up hS
theorem cI_again {n : Nat} {S : ST} (hS : cI n S) (b y : Int) : cJ n S (pAga S b y).2.2 := by
  unfold pAga
  split
  · rename_i hq
    simp only [okG, sIn, Bool.and_eq_true, decide_eq_true_eq] at hq
    have w30 := wf_30 hS.1.1.1 b
    have a := inv_tak hS.1 hS.2.1 (b := b) (x := y) (y := S.1 30 b) (by omega) (by omega) (by omega)
    have e : pI (pI S 29 b y) 30 b (S.1 30 b) = pI S 29 b y := by
      have q := pI_self (pI S 29 b y) 30 b
      rw [pI_f _ _ _ (by decide)] at q
      exact q
    rw [e] at a
    exact cI_q hS a.1 a.2 (qEq_pI S _ _ (by decide)) (pI_f _ _ _ (by decide)) (pI_f _ _ _ (by decide)) (by rw [pI_f _ _ _ (by decide)]; omega) rfl
  · exact cI_up hS
theorem pre_bal {n : Nat} {S : ST} (hn : n < 512) (hS : cI n S) : balP (mB n) (sEd2 (sEd1 S).2) := by
  have hM := mB_b (n := n) (by omega)
  obtain ⟨_, _, _, p4, p5⟩ := pre_31 hS.1 hS.2.1
  exact balP_of (bal_ed1 hS.1 hS.2.1 hS.2.2.2.2.2 (by omega)) (by rw [p4]) p5
theorem pre_balB {n : Nat} {S : ST} (hn : n < 512) (hS : cI n S) : balB (sEd2 (sEd1 S).2) := by
  have hM := mB_b (n := n) (by omega)
  have cn := cNF_nn (sEd2 (sEd1 S).2)
  intro x x0 x1
  have := pre_bal hn hS x x0 x1
  omega
theorem cI_endDay {n : Nat} {S : ST} (hn : n < 512) (hS : cI n S) : cJ n S (pEnd S).2.2 := by
  unfold pEnd
  split
  · rename_i hq
    simp only [Bool.and_eq_true, decide_eq_true_eq] at hq
    have hd := hq.1.1
    obtain ⟨s1, s2, s3, s4, s5, s6⟩ := id hS
    have hM := mB_b (n := n) (by omega)
    have hM1 := mB_1 n
    have hMs := mB_s n
    have a := fin_end s1 s2 (by omega) hd
    have hl := inv_lg4 s1.2.1 s1.2.2.1 s2
    obtain ⟨p1, p2, p3, p4, p5⟩ := pre_31 s1 s2
    obtain ⟨e1, _, _, e4, _⟩ := endS_f s1.1 hl (by omega) hd
    have u1 := (rdP_bd s1.1 ⟨(ed1_all s1.1 hl 3).1, (ed1_all s1.1 hl 3).2.1⟩).2.2.2.1
    have u2 : nE (foS ed1 (0, S) 3).2 = nE (sEd1 S).2 := rfl
    have u3 := (endS_f s1.1 hl (by omega) hd).2.2.2.2
    have u4 := (wf_31 a.1.1.1 0).1
    have u5 := (wf_31 s1.1.1 0).1
    rw [u2] at u1
    have u6 : S.1 31 0 ≤ (sEndS S).1 31 0 := by unfold nE at u1 u3; omega
    have pr := fin_pre s1 s2
    obtain ⟨r1, r2, r3, r4, r5⟩ := ed3_all pr.1.1 (by omega) 18 (Nat.le_refl _)
    have e3 : foS ed3 (sEd2 (sEd1 S).2) 18 = sEd3 (sEd2 (sEd1 S).2) := rfl
    rw [e3] at r1 r2 r3 r4 r5
    have b3 := bal_ed3 pr.1.1 (pre_bal hn hS) (by omega) (by omega)
    have o4 := (fin_ed4 (fin_ed3 pr.1 pr.2 (by omega)).1 (fin_ed3 pr.1 pr.2 (by omega)).2 (by rw [r5 0 (by decide)]; omega))
    have c4 : cNF (sEd4 (sEd3 (sEd2 (sEd1 S).2))) = cNF (sEd3 (sEd2 (sEd1 S).2)) := by
      unfold cNF
      rw [sEd4_f _ (by decide)]
    obtain ⟨t1, t2, t3⟩ := ed5_all o4.1.1 (nP (sEd4 (sEd3 (sEd2 (sEd1 S).2)))) (nP_le o4.1.1.1)
    have e5 : foS ed5 (sEd4 (sEd3 (sEd2 (sEd1 S).2))) (nP (sEd4 (sEd3 (sEd2 (sEd1 S).2)))) = sEndS S := rfl
    rw [e5] at t1 t2 t3
    have k5 : ∀ (T : ST) (m : Nat), (foS ed5 T m).2 = T.2 := by
      intro T m
      induction m with
      | zero => rfl
      | succ m ih =>
        rw [foS_s]
        generalize foS ed5 T m = U at ih ⊢
        unfold ed5 sEnter
        split <;> exact ih
    have s21 : (sEndS S).2 1 = (sEd3 (sEd2 (sEd1 S).2)).2 1 := by
      rw [← e5, k5]
      unfold sEd4
      rw [ed4_21]
      rfl
    refine cI_runs (T := sEndS S) hn hS a.1 a.2 (by omega) ?_ (balP_of (balP_le b3 (by omega)) s21 (t2.trans c4))
    rw [t3 26 (by decide), sEd4_f _ (by decide), r5 26 (by decide), p3]
    omega
  · exact cI_up hS
/-! at the start -/
theorem ini_c : cNF sIni = 60 := by
  have h18 : sIni.1 18 = Zs.1 18 := sIni2_f (by decide) (by decide) 600
  unfold cNF; rw [h18]; decide
theorem cI_0 : cI 0 sIni := by
  have z : ∀ {f : Nat}, f ≠ 3 → f ≠ 25 → ∀ j : Int, sIni.1 f j = 0 := fun h h2 j => ini_0 h h2 j
  have n8 : ∀ {k : Int} {P : Prop}, 0 ≤ k → k < sIni.1 8 0 → P := fun h0 h1 => by
    rw [z (by decide) (by decide)] at h1
    omega
  refine ⟨⟨sIni_ok, fun k k0 k1 => n8 k0 k1, fun k k0 k1 => n8 k0 k1, fun k k0 k1 => ?_, fun b b0 b1 => ?_, fun i i0 i1 => ?_, fun b b0 b1 => ?_, fun k k0 k1 => n8 k0 k1, fun k k0 k1 => n8 k0 k1, fun j j0 j1 => ⟨z (by decide) (by decide) j, z (by decide) (by decide) j, z (by decide) (by decide) j⟩, fun b m b0 b1 m0 m1 => Or.inl (by rw [ini_25, if_pos (by omega)]), fun k k0 k1 => n8 k0 k1⟩, fun k k0 k1 => n8 k0 k1, fun b c b0 b1 c0 c1 => ?_, ?_, ?_, fun x x0 x1 => ?_⟩
  · rw [z (by decide) (by decide)] at k1
    omega
  · have e : aL sIni b (sIni.1 27 0).toNat = [] := by rw [z (by decide) (by decide)]; rfl
    rw [e, z (by decide) (by decide)]
    exact ⟨rfl, fun i hi => absurd hi (by simp)⟩
  · rw [z (by decide) (by decide)] at i1
    omega
  · rw [z (by decide) (by decide), z (by decide) (by decide)]
    exact Int.le_refl 0
  · unfold qcond
    have q : qAt sIni b c 0 = -1 := by
      rcases qAt_r sIni_ok.1 (rfl : qAt sIni b c 0 = _) with e | e
      · exact e
      · exact n8 e.1 e.2.1
    rw [q]
    rfl
  · rw [ini_c, z (by decide) (by decide)]
    decide
  · rw [z (by decide) (by decide)]
    decide
  · rw [ini_2, ini_c]
    decide
