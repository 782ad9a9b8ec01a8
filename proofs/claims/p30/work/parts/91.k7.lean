/-! send, what is asked, the start -/
theorem a_send {n : Nat} {f : Int → Int64} {S : ST} (hS : cI n S) (hk : kI f S) {b msg u c v nm h : Int} {rl : Bool} {d : Int} {st : Bool} (hb : 0 ≤ b ∧ b ≤ 5) (hm : 0 ≤ msg ∧ msg ≤ 99) (hu : 0 ≤ u ∧ u ≤ 5) (hbu : b ≠ u) (hc : 0 ≤ c ∧ c ≤ 2) (hv : 1 ≤ v ∧ v ≤ 50) (hnm : 0 ≤ nm ∧ nm ≤ 19) (hh : 0 ≤ h ∧ h ≤ 2) (hd : 0 ≤ d ∧ d ≤ 999) :
    ((pSend S b msg u c v nm h rl d st).1 = 3 ∧ (pSend S b msg u c v nm h rl d st).2.2 = S) ∨
    ((pSend S b msg u c v nm h rl d st).1 = 0 ∧ 0 ≤ (pSend S b msg u c v nm h rl d st).2.1 ∧ (pSend S b msg u c v nm h rl d st).2.1 < S.1 8 0 ∧ S.1 9 (pSend S b msg u c v nm h rl d st).2.1 = b ∧ S.1 10 (pSend S b msg u c v nm h rl d st).2.1 = u ∧ S.1 11 (pSend S b msg u c v nm h rl d st).2.1 = c ∧ S.1 12 (pSend S b msg u c v nm h rl d st).2.1 = v ∧ (pSend S b msg u c v nm h rl d st).2.2.1 26 0 = S.1 26 0 + 1 ∧ ac f S (pSend S b msg u c v nm h rl d st).2.2) ∨
    ((pSend S b msg u c v nm h rl d st).1 = 0 ∧ (pSend S b msg u c v nm h rl d st).2.1 = S.1 8 0 ∧ S.1 8 0 < 60 ∧ kI f (pSend S b msg u c v nm h rl d st).2.2 ∧ evS S (pSend S b msg u c v nm h rl d st).2.2 ∧ (pSend S b msg u c v nm h rl d st).2.2.1 8 0 = S.1 8 0 + 1 ∧ (pSend S b msg u c v nm h rl d st).2.2.1 0 0 = S.1 0 0 ∧ (pSend S b msg u c v nm h rl d st).2.2.1 26 0 = S.1 26 0 ∧ (pSend S b msg u c v nm h rl d st).2.2.1 9 (S.1 8 0) = b ∧ (pSend S b msg u c v nm h rl d st).2.2.1 10 (S.1 8 0) = u ∧ (pSend S b msg u c v nm h rl d st).2.2.1 11 (S.1 8 0) = c ∧ (pSend S b msg u c v nm h rl d st).2.2.1 12 (S.1 8 0) = v ∧ (pSend S b msg u c v nm h rl d st).2.2.1 14 (S.1 8 0) = h ∧ (pSend S b msg u c v nm h rl d st).2.2.1 15 (S.1 8 0) = bI rl) := by
  have gA : sdA b msg u c nm = true := by simp only [sdA, sIn, Bool.and_eq_true, decide_eq_true_eq]; omega
  have gB : sdB b u v h d = true := by simp only [sdB, sIn, Bool.and_eq_true, Bool.not_eq_true', decide_eq_true_eq, decide_eq_false_iff_not]; omega
  have gI : sdI S b msg u c nm = S.1 25 (100 * b + msg) := by unfold sdI; rw [if_pos gA]
  have w8 := wf_8 hS.1.1.1 0
  by_cases gD : sdD S true (sdK S (S.1 25 (100 * b + msg)) u c v nm h rl d st) b (S.1 25 (100 * b + msg)) = true
  · by_cases gK : sdK S (S.1 25 (100 * b + msg)) u c v nm h rl d st = true
    · have e : pSend S b msg u c v nm h rl d st = (0, S.1 25 (100 * b + msg), pI S 26 0 (S.1 26 0 + 1)) := by
        unfold pSend
        rw [gI, gA, gB, gD, gK]
        rfl
      rw [e]
      right; left
      simp only [sdK, sAlk, Bool.and_eq_true, Bool.not_eq_true', decide_eq_true_eq, decide_eq_false_iff_not] at gK
      obtain ⟨k1, k2⟩ := gK
      obtain ⟨m1, m2, m3⟩ := (hS.1.2.2.2.2.2.2.2.2.2.2.1 b msg hb.1 hb.2 hm.1 hm.2).resolve_left k1
      exact ⟨rfl, m1, m2, m3, k2.1.1.1.1.1.1.1, k2.1.1.1.1.1.1.2, k2.1.1.1.1.1.2, pI_s _ _ _ _, ac_pI hk _ _ (by decide)⟩
    · have gK' : sdK S (S.1 25 (100 * b + msg)) u c v nm h rl d st = false := Bool.eq_false_iff.mpr gK
      have e : pSend S b msg u c v nm h rl d st = (0, S.1 8 0, (sRuns (sdT S b msg u c v nm h rl d st)).2) := by
        unfold pSend
        rw [gI, gA, gB, gD, gK']
        rfl
      rw [e]
      right; right
      rw [gK'] at gD
      have h60 : S.1 8 0 < 60 := by
        unfold sdD at gD
        simp only [Bool.and_eq_true, Bool.or_eq_true, decide_eq_true_eq] at gD
        rcases gD.2 with x | x
        · exact x.2
        · exact absurd x.2 (by decide)
      have a := inv_come (rl := rl) (st := st) hS.1 hS.2.1 h60 (b := b) (u := u) (c := c) (v := v) (nm := nm) (h := h) (d := d) hb hu hc (by omega) hnm hh hd
      have f8 := come_8 S b u c v nm h rl d st
      have m := inv_msg a.1 (b := b) (m := msg) (k := S.1 8 0) hb hm (by omega) (come_9 S b u c v nm h rl d st)
      have q := act_come (rl := rl) (st := st) hk hS.1 (b := b) (u := u) (c := c) (v := v) (nm := nm) (r := h) (d := d) hbu hv
      have q2 := ac_pI q.1 (g := 25) (100 * b + msg) (S.1 8 0) (by decide)
      have r := fin_act (f := f) (S := S) (T := sdT S b msg u c v nm h rl d st) m (fin_pI a.2 _ _ (by decide)) q2.1 (evS_tr q.2 q2.2.1)
      have R : ∀ {g : Nat}, cht g → g ≠ 25 → (sRuns (sdT S b msg u c v nm h rl d st)).2.1 g = (sCome S b u c v nm h rl d st).1 g := fun hg h25 => by
        rw [r.2.2.2.2.1 _ hg]
        exact pI_f _ _ _ h25
      obtain ⟨f10, f11, f12, f14⟩ := come_n S b u c v nm h rl d st
      refine ⟨rfl, rfl, h60, r.1, r.2.1, ?_, ?_, ?_, ?_, ?_, ?_, ?_, ?_, ?_⟩
      · show (sRuns (sdT S b msg u c v nm h rl d st)).2.1 8 0 = _
        rw [R (by unfold cht; decide) (by decide)]; exact f8
      · show (sRuns (sdT S b msg u c v nm h rl d st)).2.1 0 0 = _
        rw [R (by unfold cht; decide) (by decide)]; exact congrFun (come_f S b u c v nm h rl d st (f := 0) (by decide)) 0
      · show (sRuns (sdT S b msg u c v nm h rl d st)).2.1 26 0 = _
        rw [R (by unfold cht; decide) (by decide)]; exact congrFun (come_f S b u c v nm h rl d st (f := 26) (by decide)) 0
      · show (sRuns (sdT S b msg u c v nm h rl d st)).2.1 9 _ = _
        rw [R (by unfold cht; decide) (by decide)]; exact come_9 S b u c v nm h rl d st
      · show (sRuns (sdT S b msg u c v nm h rl d st)).2.1 10 _ = _
        rw [R (by unfold cht; decide) (by decide)]; exact f10
      · show (sRuns (sdT S b msg u c v nm h rl d st)).2.1 11 _ = _
        rw [R (by unfold cht; decide) (by decide)]; exact f11
      · show (sRuns (sdT S b msg u c v nm h rl d st)).2.1 12 _ = _
        rw [R (by unfold cht; decide) (by decide)]; exact f12
      · show (sRuns (sdT S b msg u c v nm h rl d st)).2.1 14 _ = _
        rw [R (by unfold cht; decide) (by decide)]; exact f14
      · show (sRuns (sdT S b msg u c v nm h rl d st)).2.1 15 _ = _
        rw [R (by unfold cht; decide) (by decide)]; exact come_15 S b u c v nm h rl d st
  · have e : pSend S b msg u c v nm h rl d st = (3, 0, S) := by
      unfold pSend
      rw [gI, gA, gB, Bool.eq_false_iff.mpr gD]
      rfl
    rw [e]
    exact Or.inl ⟨rfl, rfl⟩
theorem a_state {S : ST} {k : Int} (h0 : 0 ≤ k) (h1 : k < S.1 8 0) : pStat S k = (0, S.1 18 k, S) := by
  unfold pStat
  rw [okP_is h0 h1]
  rfl
theorem a_state_no {S : ST} {k : Int} (h : S.1 8 0 = 0) : pStat S k = (1, 0, S) := by
  unfold pStat
  rw [okP_no h]
  rfl
theorem a_acc {S : ST} {b c : Int} (hb : 0 ≤ b ∧ b ≤ 6) (hc : 0 ≤ c ∧ c ≤ 2) : pAcc S b c = (0, S.2 1 (3 * b + c), S) := by
  have g : (sIn b 0 6 && sIn c 0 2) = true := by simp only [sIn, Bool.and_eq_true, decide_eq_true_eq]; omega
  unfold pAcc
  rw [g]
  rfl
theorem a_anew {S : ST} {b c : Int} (hb : 0 ≤ b ∧ b ≤ 6) (hc : 0 ≤ c ∧ c ≤ 2) : pAnew S b c = (0, sAnew S b c (S.1 31 0).toNat, S) := by
  have g : (sIn b 0 6 && sIn c 0 2) = true := by simp only [sIn, Bool.and_eq_true, decide_eq_true_eq]; omega
  unfold pAnew
  rw [g]
  rfl
theorem a_paid {S : ST} {b u c : Int} (hb : 0 ≤ b ∧ b ≤ 5) (hu : 0 ≤ u ∧ u ≤ 5) (hc : 0 ≤ c ∧ c ≤ 2) : pPaid S b u c = (0, S.2 4 (3 * (6 * b + u) + c), S) := by
  have g : okBB b u c = true := by simp only [okBB, sIn, Bool.and_eq_true, decide_eq_true_eq]; omega
  unfold pPaid
  rw [g]
  rfl
theorem a_que {S : ST} {b c p : Int} (hb : 0 ≤ b ∧ b ≤ 5) (hc : 0 ≤ c ∧ c ≤ 2) (hp : 0 ≤ p) : pQue S b c p = (0, qAt S b c p, S) := by
  have g : okQ b c p = true := by simp only [okQ, sIn, Bool.and_eq_true, decide_eq_true_eq]; omega
  unfold pQue
  rw [g]
  rfl
theorem a_ent {S : ST} {k j : Int} (hk : 0 ≤ k ∧ k < S.1 31 0) (hj : 0 ≤ j ∧ j ≤ 4) : pEnt S k j = (0, S.2 32 (5 * k + j), S) := by
  have g1 : sIn k 0 (S.1 31 0 - 1) = true := by simp only [sIn, Bool.and_eq_true, decide_eq_true_eq]; omega
  have g2 : sIn j 0 4 = true := by simp only [sIn, Bool.and_eq_true, decide_eq_true_eq]; omega
  unfold pEnt
  rw [g1, g2]
  rfl
/-! at the start -/
theorem ini_n {g : Nat} (h : g ≠ 3) (h2 : g ≠ 25) (j : Int) : sIni.1 g j = 0 := ini_0 h h2 j
theorem kI_0 : kI (fun _ => 0) sIni := by
  have z8 : sIni.1 8 0 = 0 := ini_n (by decide) (by decide) 0
  have z31 : sIni.1 31 0 = 0 := ini_n (by decide) (by decide) 0
  have z27 : sIni.1 27 0 = 0 := ini_n (by decide) (by decide) 0
  have e2 : ∀ (g : Nat) (x : Int), sIni.2 g x = 0 := fun g x => ini_2 g x
  refine ⟨fun j j0 j1 => by omega, fun i j i0 i1 => by omega, fun k k0 k1 => by omega, fun b c _ _ _ _ => by rw [z31, e2]; rfl, fun c _ _ => suL_0 (fun j _ _ => e2 1 _), fun k k0 k1 => by omega, fun b u c _ _ _ _ _ _ => by rw [e2, e2, e2]; exact ⟨by decide, rfl⟩, fun k k0 k1 => by omega, ⟨fun x _ _ => by rw [ini_n (by decide) (by decide)]; decide, fun x x0 x1 => ?_⟩, fun k k0 k1 => by omega, fun i i0 i1 => by omega, fun b _ _ => by rw [ini_n (by decide) (by decide), ini_n (by decide) (by decide)]; exact Int.le_refl 0⟩
  rw [ini_3, if_pos ⟨x0, x1⟩]
  decide
