/-! the other calls -/
theorem sEntV_1 (S : ST) (k : Int) (h : S.1 19 k ≠ 0) : sEntV S k ≠ 1 := fun x => h ((sEntV_c S k).2.1 x)
theorem a_release {n : Nat} {f : Int → Int64} {S : ST} (hS : cI n S) (hk : kI f S) {k y : Int} (k0 : 0 ≤ k) (hr : 0 < S.1 8 0 → k < S.1 8 0) (hy : 0 ≤ y ∧ y ≤ 3) : ac f S (pRel S k y).2.2 ∧ ((S.1 8 0 = 0 ∧ (pRel S k y).1 = 1) ∨ (0 < S.1 8 0 ∧ ((S.1 18 k ≠ 1 ∧ (pRel S k y).1 = 2) ∨ (S.1 18 k = 1 ∧ (((pRel S k y).1 = 2 ∧ (pRel S k y).2.2 = S) ∨ ((pRel S k y).1 = 0 ∧ (((pRel S k y).2.1 = 0 ∧ (pRel S k y).2.2.1 18 k = 1) ∨ ((pRel S k y).2.1 = 1 ∧ 1 < (pRel S k y).2.2.1 18 k)))))))) := by
  have w8 := wf_8 hS.1.1.1 0
  have g3 : sIn y 0 3 = true := by simp only [sIn, Bool.and_eq_true, decide_eq_true_eq]; omega
  by_cases z : S.1 8 0 = 0
  · have e : pRel S k y = (1, 0, S) := by
      unfold pRel okR2 okR1
      rw [okP_no z]
      rfl
    rw [e]
    exact ⟨ac_id hk, Or.inl ⟨z, rfl⟩⟩
  · have k1 := hr (by omega)
    have p1 : okR1 S k y = true := by unfold okR1; rw [okP_is k0 k1, g3]; rfl
    by_cases q : S.1 18 k = 1
    · by_cases q2 : S.1 20 k = y
      · have e : pRel S k y = (2, 0, S) := by
          unfold pRel okR2
          rw [p1, decide_eq_true q, decide_eq_true q2]
          rfl
        rw [e]
        exact ⟨ac_id hk, Or.inr ⟨by omega, Or.inr ⟨q, Or.inl ⟨rfl, rfl⟩⟩⟩⟩
      · have e0 : pRel S k y = (0, if S.1 20 k = -1 then (0, pI (pI S 20 k y) 40 k y) else (1, (sRuns (pI (sEnter (pI S 19 k 1) k) 40 k y)).2)) := by
          unfold pRel okR2
          rw [p1, decide_eq_true q, decide_eq_false q2]
          rfl
        by_cases q3 : S.1 20 k = -1
        · have e : pRel S k y = (0, 0, pI (pI S 20 k y) 40 k y) := by rw [e0, if_pos q3]
          rw [e]
          have b := ac_pI hk (g := 20) k y (by decide)
          refine ⟨ac_tr b (ac_pI b.1 (g := 40) k y (by decide)), Or.inr ⟨by omega, Or.inr ⟨q, Or.inr ⟨rfl, Or.inl ⟨rfl, ?_⟩⟩⟩⟩⟩
          show (pI (pI S 20 k y) 40 k y).1 18 k = 1
          rw [pI_f _ _ _ (by decide), pI_f _ _ _ (by decide)]
          exact q
        · have e : pRel S k y = (0, 1, (sRuns (pI (sEnter (pI S 19 k 1) k) 40 k y)).2) := by rw [e0, if_neg q3]
          rw [e]
          have a := inv_rel2 hS.1 hS.2.1 k0 k1 q hy
          have b := ac_pI hk (g := 19) k 1 (by decide)
          have c := act_ent b.1 (k := k) (by rw [pI_f _ _ _ (by decide), q]; decide)
          have c2 : ac f (pI S 19 k 1) (sEnter (pI S 19 k 1) k) := ⟨c.1, c.2, by unfold sEnter; rw [pI_f _ _ _ (by decide)], by unfold sEnter; rw [pI_f _ _ _ (by decide)]⟩
          have d := ac_pI c2.1 (g := 40) k y (by decide)
          have r := ac_runs a.1 a.2 (ac_tr b (ac_tr c2 d))
          have v := sEntV_r (pI S 19 k 1) k
          have v1 := sEntV_1 (pI S 19 k 1) k (by rw [pI_s]; decide)
          have t18 : (pI (sEnter (pI S 19 k 1) k) 40 k y).1 18 k = sEntV (pI S 19 k 1) k := by
            rw [pI_f _ _ _ (by decide)]
            unfold sEnter
            rw [pI_s]
          refine ⟨r.1, Or.inr ⟨by omega, Or.inr ⟨q, Or.inr ⟨rfl, Or.inr ⟨rfl, ?_⟩⟩⟩⟩⟩
          show 1 < (sRuns (pI (sEnter (pI S 19 k 1) k) 40 k y)).2.1 18 k
          rcases r.2.2.2.2 k with x | x
          · rw [x, t18]; omega
          · rw [x.1]; decide
    · have e : pRel S k y = (2, 0, S) := by
        unfold pRel okR2
        rw [p1, decide_eq_false q]
        rfl
      rw [e]
      exact ⟨ac_id hk, Or.inr ⟨by omega, Or.inl ⟨q, rfl⟩⟩⟩
theorem fin_le {S : ST} (h : inv S) : S.1 27 0 ≤ S.1 8 0 := by
  have w8 := wf_8 h.1.1 0
  have hn := h.2.2.2.2.2.2.2.2.2.1
  have q : ∀ m : Nat, suI (fun k => if k < S.1 8 0 then 0 else 1) m = if (m : Int) ≤ S.1 8 0 then 0 else (m : Int) - S.1 8 0 := by
    intro m
    induction m with
    | zero => rw [if_pos (by omega)]; rfl
    | succ m ih =>
      show suI (fun k => if k < S.1 8 0 then 0 else 1) m + (if (m : Int) < S.1 8 0 then 0 else 1) = _
      rw [ih]
      split <;> split <;> split <;> omega
  have p : suI (fun k => if k < S.1 8 0 then 0 else 1) 60 ≤ cNF S := suI_le (fun j j0 j1 => by
    by_cases e : j < S.1 8 0
    · rw [if_pos e]; split <;> omega
    · rw [if_neg e, (hn j (by omega) (by omega)).1, if_neg (by decide)]; omega)
  have s := h.1.2.1
  rw [q] at p
  split at p <;> omega
theorem a_off {n : Nat} {f : Int → Int64} {S : ST} (hS : cI n S) (hk : kI f S) {c : Int} (hc : 0 ≤ c ∧ c ≤ 2) : (pOff S c).1 = 0 ∧ ac f S (pOff S c).2.2 ∧ 0 ≤ (pOff S c).2.1 ∧ (pOff S c).2.1 ≤ S.1 8 0 := by
  have g1 : sIn c 0 2 = true := by simp only [sIn, Bool.and_eq_true, decide_eq_true_eq]; omega
  have e : pOff S c = (0, (sOff S c).1, (sRuns (sOff S c).2).2) := by
    unfold pOff
    rw [g1]
    rfl
  rw [e]
  have a := fin_off hS.1 hS.2.1 c
  have b := kk_off (f := f) (S0 := S) (S := S) ⟨⟨hS.1, hS.2.1⟩, hk, evR_0 S⟩ c
  have r := rdP_off hS.1.1 (c := c) hc
  have q := rdP_bd hS.1.1 r
  have l := fin_le a.1
  have s1 := hS.1.1.2.1
  have s2 := a.1.1.2.1
  have w := wf_27 hS.1.1.1 0
  have r3 := r.1.2.2.1
  have e8 := b.2.2.2.2.1 8 (by unfold cht; decide)
  refine ⟨rfl, (ac_runs a.1 a.2 ⟨b.2.1, evS_R b.2.2, by rw [e8], by rw [b.2.2.2.2.1 0 (by unfold cht; decide)]⟩).1, q.1, ?_⟩
  show (sOff S c).1 ≤ S.1 8 0
  rw [e8] at l
  omega
theorem a_recall {n : Nat} {f : Int → Int64} {S : ST} (hS : cI n S) (hk : kI f S) {k : Int} (k0 : 0 ≤ k) (hr : 0 < S.1 8 0 → k < S.1 8 0) : ac f S (pRec S k).2.2 ∧ ((S.1 8 0 = 0 ∧ (pRec S k).1 = 1) ∨ (0 < S.1 8 0 ∧ ((pRec S k).1 = 2 ∨ ((pRec S k).1 = 0 ∧ (pRec S k).2.1 = S.1 0 0 + 2 ∧ (pRec S k).2.2.1 18 k = 4)))) := by
  have w8 := wf_8 hS.1.1.1 0
  by_cases z : S.1 8 0 = 0
  · have e : pRec S k = (1, 0, S) := by
      unfold pRec okC
      rw [okP_no z]
      rfl
    rw [e]
    exact ⟨ac_id hk, Or.inl ⟨z, rfl⟩⟩
  · have k1 := hr (by omega)
    by_cases q : okC S k = true
    · have e : pRec S k = (0, S.1 0 0 + 2, pI (pI S 23 k (S.1 0 0)) 42 k (S.1 0 0 + 2)) := by
        unfold pRec
        rw [okP_is k0 k1, q]
        rfl
      rw [e]
      simp only [okC, Bool.and_eq_true, decide_eq_true_eq] at q
      have q4 := q.1.1.2
      obtain ⟨a1, a2, a3, a4, a5, a6, a7, a8, a9, a10, a11, a12⟩ := id hk
      have F : ∀ {i : Nat}, i ≠ 23 → (pI S 23 k (S.1 0 0)).1 i = S.1 i := fun hi => pI_f _ _ _ hi
      have b : ac f S (pI S 23 k (S.1 0 0)) := by
        refine ⟨kI_keep hk (fun i hi => F (by omega)) rfl rfl (fun j => by rw [F (by omega)]) a6 a7 a9 (fun j j0 j1 hj => ?_) a12, evS_pI S k _ (by decide), rfl, rfl⟩
        rw [F (i := 18) (by decide)]
        by_cases ej : j = k
        · rw [ej]; exact q4
        · rw [pI_n _ _ _ _ (Or.inr ej)] at hj
          exact a10 j j0 j1 hj
      exact ⟨ac_tr b (ac_pI b.1 (g := 42) k _ (by decide)), Or.inr ⟨by omega, Or.inr ⟨rfl, rfl, q4⟩⟩⟩
    · have e : pRec S k = (2, 0, S) := by
        unfold pRec
        rw [okP_is k0 k1, Bool.eq_false_iff.mpr q]
        rfl
      rw [e]
      exact ⟨ac_id hk, Or.inr ⟨by omega, Or.inl rfl⟩⟩
theorem a_answer {n : Nat} {f : Int → Int64} {S : ST} (hS : cI n S) (hk : kI f S) {k : Int} (k0 : 0 ≤ k) (hr : 0 < S.1 8 0 → k < S.1 8 0) : ((pAns S k true).1 ≠ 0 ∧ ac f S (pAns S k true).2.2 ∧ ((S.1 8 0 = 0 ∧ (pAns S k true).1 = 1) ∨ (0 < S.1 8 0 ∧ (pAns S k true).1 = 2))) ∨ (0 < S.1 8 0 ∧ S.1 8 0 < 60 ∧ (pAns S k true).1 = 0 ∧ (pAns S k true).2.1 = S.1 8 0 ∧ kI f (pAns S k true).2.2 ∧ evS S (pAns S k true).2.2 ∧ (pAns S k true).2.2.1 8 0 = S.1 8 0 + 1 ∧ (pAns S k true).2.2.1 0 0 = S.1 0 0 ∧ (pAns S k true).2.2.1 9 (S.1 8 0) = S.1 10 k ∧ (pAns S k true).2.2.1 10 (S.1 8 0) = S.1 9 k ∧ (pAns S k true).2.2.1 11 (S.1 8 0) = S.1 11 k ∧ (pAns S k true).2.2.1 12 (S.1 8 0) = S.1 12 k ∧ (pAns S k true).2.2.1 14 (S.1 8 0) = 2 ∧ (pAns S k true).2.2.1 15 (S.1 8 0) = 1 ∧ (pAns S k true).2.2.1 18 k = 4) := by
  have w8 := wf_8 hS.1.1.1 0
  by_cases z : S.1 8 0 = 0
  · have e : pAns S k true = (1, 0, S) := by
      unfold pAns okA
      rw [okP_no z]
      rfl
    rw [e]
    exact Or.inl ⟨(show (1 : Int) ≠ 0 by decide), ac_id hk, Or.inl ⟨z, rfl⟩⟩
  · have k1 := hr (by omega)
    by_cases q : okA S k true = true
    · have e : pAns S k true = (0, S.1 8 0, (sRuns (anT S k)).2) := by
        unfold pAns
        rw [okP_is k0 k1, q]
        rfl
      simp only [okA, Bool.and_eq_true, Bool.or_eq_true, Bool.not_eq_true', decide_eq_true_eq, decide_eq_false_iff_not] at q
      have h60 : S.1 8 0 < 60 := q.2.resolve_left (by decide)
      have q4 := hk.2.2.2.2.2.2.2.2.2.1 k k0 k1 q.1.1.1.2
      have w10 := wf_10 hS.1.1.1 k
      have w9 := wf_9 hS.1.1.1 k
      have w11 := wf_11 hS.1.1.1 k
      have w12 := wf_12 hS.1.1.1 k
      have w0 := wf_0 hS.1.1.1 0
      obtain ⟨t1, t2, t3⟩ := hk.2.2.2.2.2.2.2.1 k k0 k1
      have i24 := inv_24 hS.1 k1 (v := 1) (by decide)
      have f24 := fin_pI hS.2.1 (f := 24) k 1 (by decide)
      have b := ac_pI hk (g := 24) k 1 (by decide)
      have a := inv_come (S := pI S 24 k 1) (rl := true) (st := true) i24 f24 h60 (b := S.1 10 k) (u := S.1 9 k) (c := S.1 11 k) (v := S.1 12 k) (nm := 0) (h := 2) (d := S.1 0 0) (by omega) (by omega) (by omega) (by omega) (by decide) (by decide) (by omega)
      have c := act_come (S := pI S 24 k 1) (rl := true) (st := true) (b := S.1 10 k) (u := S.1 9 k) (c := S.1 11 k) (v := S.1 12 k) (nm := 0) (r := 2) (d := S.1 0 0) b.1 i24 (fun x => t1 x.symm) ⟨t2, t3⟩
      have f8 := come_8 (pI S 24 k 1) (S.1 10 k) (S.1 9 k) (S.1 11 k) (S.1 12 k) 0 2 true (S.1 0 0) true
      have f9 := come_9 (pI S 24 k 1) (S.1 10 k) (S.1 9 k) (S.1 11 k) (S.1 12 k) 0 2 true (S.1 0 0) true
      have f15 := come_15 (pI S 24 k 1) (S.1 10 k) (S.1 9 k) (S.1 11 k) (S.1 12 k) 0 2 true (S.1 0 0) true
      obtain ⟨f10, f11, f12, f14⟩ := come_n (pI S 24 k 1) (S.1 10 k) (S.1 9 k) (S.1 11 k) (S.1 12 k) 0 2 true (S.1 0 0) true
      have f0 := come_f (pI S 24 k 1) (S.1 10 k) (S.1 9 k) (S.1 11 k) (S.1 12 k) 0 2 true (S.1 0 0) true (f := 0) (by decide)
      have e8 : (pI S 24 k 1).1 8 0 = S.1 8 0 := rfl
      rw [e8] at f8 f9 f10 f11 f12 f14 f15
      have r := fin_act (f := f) (S := S) (T := anT S k) a.1 a.2 c.1 (evS_tr b.2.1 c.2)
      have R : ∀ {g : Nat}, cht g → (sRuns (anT S k)).2.1 g = (anT S k).1 g := fun hg => r.2.2.2.2.1 _ hg
      rw [e]
      right
      refine ⟨by omega, h60, rfl, rfl, r.1, r.2.1, ?_, ?_, ?_, ?_, ?_, ?_, ?_, ?_, (r.2.1.2.2.2.2 k k0 k1).1 q4⟩
      · show (sRuns (anT S k)).2.1 8 0 = _
        rw [R (by unfold cht; decide)]; exact f8
      · show (sRuns (anT S k)).2.1 0 0 = _
        rw [R (by unfold cht; decide)]; exact congrFun f0 0
      · show (sRuns (anT S k)).2.1 9 _ = _
        rw [R (by unfold cht; decide)]; exact f9
      · show (sRuns (anT S k)).2.1 10 _ = _
        rw [R (by unfold cht; decide)]; exact f10
      · show (sRuns (anT S k)).2.1 11 _ = _
        rw [R (by unfold cht; decide)]; exact f11
      · show (sRuns (anT S k)).2.1 12 _ = _
        rw [R (by unfold cht; decide)]; exact f12
      · show (sRuns (anT S k)).2.1 14 _ = _
        rw [R (by unfold cht; decide)]; exact f14
      · show (sRuns (anT S k)).2.1 15 _ = _
        rw [R (by unfold cht; decide)]; exact f15
    · have e : pAns S k true = (2, 0, S) := by
        unfold pAns
        rw [okP_is k0 k1, Bool.eq_false_iff.mpr q]
        rfl
      rw [e]
      exact Or.inl ⟨(show (2 : Int) ≠ 0 by decide), ac_id hk, Or.inr ⟨by omega, rfl⟩⟩
theorem a_end {n : Nat} {f : Int → Int64} {S : ST} (hn : n < 512) (hS : cI n S) (hk : kI f S) (hd : S.1 0 0 < 998) : (pEnd S).1 = 0 ∧ kI f (pEnd S).2.2 ∧ evS S (pEnd S).2.2 ∧ (pEnd S).2.2.1 8 0 = S.1 8 0 ∧ (pEnd S).2.2.1 0 0 = S.1 0 0 + 1 ∧ 0 ≤ (pEnd S).2.1 ∧ (pEnd S).2.1 ≤ S.1 8 0 := by
  have e : pEnd S = (0, (sEd1 S).1 + (sRuns (sEndS S)).1, (sRuns (sEndS S)).2) := by
    unfold pEnd
    rw [decide_eq_true hd]
    rfl
  rw [e]
  have hs := hS.2.2.2.1
  have hl := inv_lg4 hS.1.2.1 hS.1.2.2.1 hS.2.1
  have a := fin_end hS.1 hS.2.1 (by omega) hd
  have q := qq_end hS.1 hS.2.1 hk (by omega) hd
  have z := end_0 hS.1 hS.2.1 (by omega) hd
  obtain ⟨_, u8, _, _, _⟩ := endS_f hS.1.1 hl (by omega) hd
  have r := fin_act (f := f) (S := S) (T := sEndS S) a.1 a.2 q.2.1 q.2.2
  have t := fin_runs a.1 a.2
  have R : ∀ {g : Nat}, cht g → (sRuns (sEndS S)).2.1 g = (sEndS S).1 g := fun hg => r.2.2.2.2.1 _ hg
  have l := fin_le t.1
  have s2 := t.1.1.2.1
  have s1 := hS.1.1.2.1
  have w := wf_27 hS.1.1.1 0
  have b1 := rdP_runs a.1.1
  have b2 := b1.1.2.2.1
  have b3 := b1.1.2.1
  obtain ⟨h1, h2, h3⟩ := ed1_all hS.1.1 hl 3
  have e1 : foS ed1 (0, S) 3 = sEd1 S := rfl
  rw [e1] at h1 h2 h3
  have c2 := h1.2.2.1
  have c3 := h1.2.1
  have pr := fin_pre hS.1 hS.2.1
  obtain ⟨p1, p2, p3, p4, p5⟩ := pre_31 hS.1 hS.2.1
  obtain ⟨_, r2, _, _, r5⟩ := ed3_all pr.1.1 (by omega) 18 (Nat.le_refl _)
  have e3 : foS ed3 (sEd2 (sEd1 S).2) 18 = sEd3 (sEd2 (sEd1 S).2) := rfl
  rw [e3] at r2 r5
  have v3 := fin_ed3 pr.1 pr.2 (by omega)
  have o4 := fin_ed4 v3.1 v3.2 (by rw [r5 0 (by decide)]; omega)
  have c4 : cNF (sEd4 (sEd3 (sEd2 (sEd1 S).2))) = cNF (sEd3 (sEd2 (sEd1 S).2)) := by
    unfold cNF
    rw [sEd4_f _ (by decide)]
  obtain ⟨_, t2, _⟩ := ed5_all o4.1.1 (nP (sEd4 (sEd3 (sEd2 (sEd1 S).2)))) (nP_le o4.1.1.1)
  have e5 : foS ed5 (sEd4 (sEd3 (sEd2 (sEd1 S).2))) (nP (sEd4 (sEd3 (sEd2 (sEd1 S).2)))) = sEndS S := rfl
  rw [e5] at t2
  rw [R (g := 8) (by unfold cht; decide), u8] at l
  refine ⟨rfl, r.1, r.2.1, ?_, ?_, ?_, ?_⟩
  · show (sRuns (sEndS S)).2.1 8 0 = _
    rw [R (by unfold cht; decide), u8]
  · show (sRuns (sEndS S)).2.1 0 0 = _
    rw [R (by unfold cht; decide), z]
  · show 0 ≤ (sEd1 S).1 + (sRuns (sEndS S)).1
    omega
  · show (sEd1 S).1 + (sRuns (sEndS S)).1 ≤ S.1 8 0
    omega
theorem aL_mem {S : ST} {b x : Int} : ∀ {n : Nat}, x ∈ aL S b n → ∃ i : Int, 0 ≤ i ∧ i < n ∧ x = S.1 28 i ∧ S.1 10 x = b
  | 0, h => nomatch h
  | n + 1, h => by
    rw [aL_s] at h
    rcases List.mem_append.mp h with h | h
    · obtain ⟨i, i0, i1, i2⟩ := aL_mem h
      exact ⟨i, i0, by omega, i2⟩
    · by_cases e : S.1 10 (S.1 28 n) = b
      · rw [if_pos e, List.mem_singleton] at h
        exact ⟨n, by omega, by omega, h, by rw [h]; exact e⟩
      · rw [if_neg e] at h
        exact absurd h (by simp)
theorem aL_len (S : ST) (b : Int) : ∀ n : Nat, (aL S b n).length ≤ n
  | 0 => Nat.le_refl _
  | n + 1 => by
    have := aL_len S b n
    rw [aL_s, List.length_append]
    split
    · rw [List.length_singleton]; omega
    · rw [List.length_nil]; omega
theorem ac_tak {f : Int → Int64} {S : ST} (hk : kI f S) {b x y : Int} (hy : y ≤ S.1 44 b) : ac f S (pI (pI S 29 b x) 30 b y) := by
  have b1 := ac_pI hk (g := 29) b x (by decide)
  obtain ⟨a1, a2, a3, a4, a5, a6, a7, a8, a9, a10, a11, a12⟩ := id b1.1
  refine ac_tr b1 ⟨kI_keep b1.1 (fun i hi => pI_f _ _ _ (by omega)) rfl rfl (fun j => by rw [pI_f _ _ _ (by decide)]) a6 a7 a9 a10 (fun i i0 i1 => ?_), evS_pI _ b y (by decide), rfl, rfl⟩
  have e : (pI (pI S 29 b x) 30 b y).1 44 i = S.1 44 i := rfl
  rw [e]
  by_cases q : i = b
  · rw [q, pI_s]; exact hy
  · rw [pI_n _ _ _ _ (Or.inr q)]
    exact a12 i i0 i1
theorem a_advice {n : Nat} {f : Int → Int64} {S : ST} (hS : cI n S) (hk : kI f S) {b : Int} (hb : 0 ≤ b ∧ b ≤ 5) : (pAdv S b).1 = 0 ∧ ac f S (pAdv S b).2.2 ∧ ((pAdv S b).2.1 = -1 ∨ (0 ≤ (pAdv S b).2.1 ∧ (pAdv S b).2.1 < S.1 8 0 ∧ S.1 10 (pAdv S b).2.1 = b ∧ (pAdv S b).2.2.1 18 (pAdv S b).2.1 = 4)) := by
  have g1 : sIn b 0 5 = true := by simp only [sIn, Bool.and_eq_true, decide_eq_true_eq]; omega
  have e : pAdv S b = (0, adZ S b, pI (pI S 29 b (adT S b)) 30 b (adM S b)) := by
    unfold pAdv
    rw [g1]
    rfl
  rw [e]
  have hw := hS.1.1.1
  have ht := hS.1.2.2.2.2.1
  have htk := hS.1.2.2.2.2.2.2.1 b hb.1 hb.2
  have h12 := hk.2.2.2.2.2.2.2.2.2.2.2 b hb.1 hb.2
  have w27 := wf_27 hw 0
  have hT : adT S b ≤ S.1 44 b := by
    unfold adT
    by_cases e : adZ S b = -1
    · rw [if_pos e]; omega
    · rw [if_neg e]
      by_cases h5 : S.1 5 b = 0
      · have z := adZ_eq hw ht hb.1 hb.2
        unfold adZ at e
        rw [if_pos h5, z] at e
        by_cases q : S.1 29 b < S.1 44 b
        · omega
        · rw [if_neg q] at e; exact absurd rfl e
      · unfold adZ at e
        rw [if_neg h5] at e
        exact absurd rfl e
  refine ⟨rfl, ac_tak hk (by unfold adM; split <;> omega), ?_⟩
  show adZ S b = -1 ∨ (0 ≤ adZ S b ∧ adZ S b < S.1 8 0 ∧ S.1 10 (adZ S b) = b ∧ S.1 18 (adZ S b) = 4)
  by_cases h5 : S.1 5 b = 0
  · have e1 : adZ S b = (aL S b (S.1 27 0).toNat).getD (S.1 29 b).toNat (-1) := by unfold adZ aAt; rw [if_pos h5]
    rw [e1, List.getD_eq_getElem?_getD]
    cases hx : (aL S b (S.1 27 0).toNat)[(S.1 29 b).toNat]? with
    | none => exact Or.inl rfl
    | some x =>
      right
      show 0 ≤ x ∧ x < S.1 8 0 ∧ S.1 10 x = b ∧ S.1 18 x = 4
      obtain ⟨i, i0, i1, i2, i3⟩ := aL_mem (List.mem_of_getElem? hx)
      have := hS.1.2.2.2.2.2.1 i i0 (by omega)
      have h4 := hk.2.2.2.2.2.2.2.2.2.2.1 i i0 (by omega)
      rw [← i2] at this h4
      exact ⟨this.1, this.2, i3, h4⟩
  · left
    unfold adZ
    rw [if_neg h5]
theorem a_again {n : Nat} {f : Int → Int64} {S : ST} (hS : cI n S) (hk : kI f S) {b y : Int} (hb : 0 ≤ b ∧ b ≤ 5) (hy : 0 ≤ y) : ac f S (pAga S b y).2.2 ∧ (((pAga S b y).1 = 0 ∧ 0 ≤ (pAga S b y).2.1 ∧ (pAga S b y).2.1 ≤ S.1 8 0) ∨ (pAga S b y).1 = 2) := by
  have g1 : sIn b 0 5 = true := by simp only [sIn, Bool.and_eq_true, decide_eq_true_eq]; omega
  by_cases q : okG S b y = true
  · have e : pAga S b y = (0, suI (agK S b) (S.1 27 0).toNat - y, pI S 29 b y) := by
      unfold pAga
      rw [g1, q]
      rfl
    rw [e]
    simp only [okG, sIn, Bool.and_eq_true, decide_eq_true_eq] at q
    have h12 := hk.2.2.2.2.2.2.2.2.2.2.2 b hb.1 hb.2
    have ht := (hS.1.2.2.2.2.1 b hb.1 hb.2).1
    have l := aL_len S b (S.1 27 0).toNat
    have l2 := fin_le hS.1
    have w27 := wf_27 hS.1.1.1 0
    refine ⟨ac_pI hk _ _ (by decide), Or.inl ⟨rfl, ?_, ?_⟩⟩
    · show 0 ≤ suI (agK S b) (S.1 27 0).toNat - y
      rw [agK_len]; omega
    · show suI (agK S b) (S.1 27 0).toNat - y ≤ S.1 8 0
      rw [agK_len]; omega
  · have e : pAga S b y = (2, 0, S) := by
      unfold pAga
      rw [g1, Bool.eq_false_iff.mpr q]
      rfl
    rw [e]
    exact ⟨ac_id hk, Or.inr rfl⟩
