/-- beyond the payments there is nothing yet -/
def newI (S : ST) : Prop := ∀ j : Int, S.1 8 0 ≤ j → j < 60 → S.1 18 j = 0 ∧ S.1 19 j = 0 ∧ S.1 24 j = 0
/-- a message's payment is its bank's -/
def msgI (S : ST) : Prop := ∀ b m : Int, 0 ≤ b → b ≤ 5 → 0 ≤ m → m ≤ 99 → S.1 25 (100 * b + m) = -1 ∨ (0 ≤ S.1 25 (100 * b + m) ∧ S.1 25 (100 * b + m) < S.1 8 0 ∧ S.1 9 (S.1 25 (100 * b + m)) = b)
theorem come_f (S : ST) (b u c v nm h : Int) (rl : Bool) (d : Int) (st : Bool) {f : Nat} (hf : f < 8 ∨ (25 ≤ f ∧ f ≤ 39) ∨ 43 ≤ f) : (sCome S b u c v nm h rl d st).1 f = S.1 f := by
  by_cases q : d ≤ S.1 0 0 ∧ sOpen S c (S.1 0 0) = true
  · rw [← sCome_y S b u c v nm h rl d st q.1 q.2]
    unfold sEnter
    rw [pI_f _ _ _ (by omega), opT_f S b u c v nm h rl d st hf]
  · rw [← sCome_n S b u c v nm h rl d st (by
      by_cases q1 : d ≤ S.1 0 0
      · exact Or.inr (by
          cases hq : sOpen S c (S.1 0 0) with
          | false => rfl
          | true => exact absurd ⟨q1, hq⟩ q)
      · exact Or.inl q1), opT_f S b u c v nm h rl d st hf]
theorem come_g (S : ST) (b u c v nm h : Int) (rl : Bool) (d : Int) (st : Bool) {f : Nat} (hf : f ≠ 18) : (sCome S b u c v nm h rl d st).1 f = (gCome (sCom1 S b u c v nm h rl d st) (S.1 8 0)).1 f := by
  by_cases q : d ≤ S.1 0 0 ∧ sOpen S c (S.1 0 0) = true
  · rw [← sCome_y S b u c v nm h rl d st q.1 q.2]
    unfold sEnter
    rw [pI_f _ _ _ hf]
  · rw [← sCome_n S b u c v nm h rl d st (by
      by_cases q1 : d ≤ S.1 0 0
      · exact Or.inr (by
          cases hq : sOpen S c (S.1 0 0) with
          | false => rfl
          | true => exact absurd ⟨q1, hq⟩ q)
      · exact Or.inl q1)]
theorem come_j (S : ST) (b u c v nm h : Int) (rl : Bool) (d : Int) (st : Bool) {f : Nat} {j : Int} (hf : 9 ≤ f) (hj : j ≠ S.1 8 0) : (sCome S b u c v nm h rl d st).1 f j = S.1 f j := by
  by_cases h18 : f = 18
  · subst h18
    by_cases q : d ≤ S.1 0 0 ∧ sOpen S c (S.1 0 0) = true
    · rw [← sCome_y S b u c v nm h rl d st q.1 q.2]
      unfold sEnter
      rw [pI_n _ _ _ _ (Or.inr hj), opT_j S b u c v nm h rl d st (by decide) hj]
    · rw [← sCome_n S b u c v nm h rl d st (by
        by_cases q1 : d ≤ S.1 0 0
        · exact Or.inr (by
            cases hq : sOpen S c (S.1 0 0) with
            | false => rfl
            | true => exact absurd ⟨q1, hq⟩ q)
        · exact Or.inl q1), opT_j S b u c v nm h rl d st (by decide) hj]
  · rw [come_g S b u c v nm h rl d st h18, opT_j S b u c v nm h rl d st hf hj]
theorem come_8 (S : ST) (b u c v nm h : Int) (rl : Bool) (d : Int) (st : Bool) : (sCome S b u c v nm h rl d st).1 8 0 = S.1 8 0 + 1 := by
  rw [come_g S b u c v nm h rl d st (by decide)]
  exact (opT S b u c v nm h rl d st).2.1
theorem come_21n (S : ST) (b u c v nm h : Int) (rl : Bool) (d : Int) (st : Bool) : (sCome S b u c v nm h rl d st).1 21 (S.1 8 0) = -1 := by
  rw [come_g S b u c v nm h rl d st (by decide)]
  simp [gCome, sCom1, pI]
theorem come_2 (S : ST) (b u c v nm h : Int) (rl : Bool) (d : Int) (st : Bool) : (sCome S b u c v nm h rl d st).2 = S.2 := by
  unfold sCome gCome
  split <;> rfl
theorem cNF_27 {S T : ST} (hS : okS S) (hT : okS T) (h : T.1 27 = S.1 27) : cNF T = cNF S := by
  have h1 := hS.2.1
  have h2 := hT.2.1
  rw [h] at h2
  omega
theorem legW_come {S : ST} (hl : legW S) (b u c v nm h : Int) (rl : Bool) (d : Int) (st : Bool) (h8 : 0 ≤ S.1 8 0) : legW (sCome S b u c v nm h rl d st) := by
  intro k k0 k1
  rw [come_8] at k1 ⊢
  by_cases e : k = S.1 8 0
  · rw [e, come_21n]; exact Or.inl rfl
  · rw [come_j S b u c v nm h rl d st (by decide) e]
    rcases hl k k0 (by omega) with h | ⟨a, b, c⟩
    · exact Or.inl h
    · exact Or.inr ⟨a, by omega, c⟩
theorem kW_drop {cy : Nat → ClassId} {ad bk : Nat → Nat} {S : ST} {X : CX} {G : gF} {i q : Nat} {e : va_E} (hi : i < 100000) (h : G i = none) : ∀ (x : Nat) (r : Nat × va_E), kW cy ad bk S X G x = some r → kW cy ad bk S X (gup G i q e) x = some r := by
  intro x r hx
  unfold kW at hx ⊢
  by_cases h2 : 100000 ≤ x
  · rw [if_pos h2] at hx ⊢; exact hx
  · rw [if_neg h2] at hx ⊢
    rw [gup_n _ _ _ (fun e1 => by rw [e1, h] at hx; cases hx)]
    exact hx
set_option maxHeartbeats 4000000 in
set_option maxRecDepth 100000 in
theorem c_X11_answer {l : Launch} {D : va_G} {cy : Nat → ClassId} {B0 : Nat} {ad bk : Nat → Nat} {S : ST} {I : Int → Bool} {cX qX : Int → Int64} {G : gF} (k : Int) (y : Bool) (hwf : wf S) (h_k : rI k) (ho : okS S) (hlw : legW S) (he : S.1 31 0 + cNF S < 19900) (hG0 : G 50001 = none) (hG2 : G 50002 = none) (hG3 : G 50003 = none) (hP0 : nP S = 0 → ad 11 = D.1 21) (hE0 : nE S = 0 → bk 10 = D.1 21) (hrc : recI S) (hsb : stab S) (hnw : newI S) (hst : l.stackTraces = false) : gX l yX11_answer vX11_answer 13 297 D cy B0 [.ref (ad 0), .int (iI (k)), .int (iI (bI (y)))] (kW cy ad bk S (I, cX, qX) G) (fun r g_ => (pAns S k y).1 = 0 ∧ ∃ (ad2 bk2 : Nat → Nat) (I2 : Int → Bool) (c2 q2 : Int → Int64), ad2 0 = ad 0 ∧ (nP (pAns S k y).2.2 = 0 → ad2 11 = D.1 21) ∧ (nE (pAns S k y).2.2 = 0 → bk2 10 = D.1 21) ∧ r = some (.int (iI (pAns S k y).2.1)) ∧ g_ = kW cy ad2 bk2 (pAns S k y).2.2 (I2, c2, q2) G) (fun E_ => ((pAns S k y).1 = 1 ∧ E_ = xIO) ∨ ((pAns S k y).1 = 2 ∧ E_ = xIS)) (kTc (nE (pAns S k y).2.2) - kTc (nE S) + 16) (kTs (nE (pAns S k y).2.2) - kTs (nE S) + 400) := by
  refine g_startX (cc := cX11_answer) (maxL := 5) (ret := (some .int)) (by decide) rfl (Nat.le_of_ble_eq_true rfl) ?_
  intro p_ e_ s_ m_ be_ me_ co_ ls H locs K hr hlk hnm ht hK hW hl
  obtain ⟨hx, hb, hml, hown, hts⟩ := id K
  have hl : lv_has ls 5 [(0, .ref (ad 0)), (1, .int (iI (k))), (2, .int (iI (bI (y))))] := hl
  have h80 := wf_8 hwf 0
  have h310 := wf_31 hwf 0
  refine lv_aload_n hx hb dX11_answer_0 rfl (lv_at hl 0 rfl) ?_
  refine lv_iload_n hx hb dX11_answer_1 rfl (lv_at hl 1 rfl) ?_
  refine g_xcallV (i := 100000 + 0) (As := [.int (iI (k))]) (rest := []) K (c_X11_needPayment (S := S) (k) hwf ⟨by omega, by omega⟩ hst) (cwV 1 hts gC_X11_143 rfl rfl rfl (by decide +kernel) ⟨Nat.le_of_ble_eq_true rfl, Nat.le_of_ble_eq_true rfl⟩) hK hW (kW_at rfl) rfl rfl hl.1 rfl (Nat.le_of_ble_eq_true rfl) dX11_answer_2 ⟨by dsimp only; omega, by dsimp only; omega⟩ (fun E_ ce_ q9_ H1 locs1 hE hW1 h1_ h2_ h3_ => g_outX ht hlk hW1 (fun _ _ h => h) (by obtain ⟨rfl, hE⟩ := hE; exact (Or.inl ⟨(show (pAns S k y).1 = 1 from sGo_1 (a := okP S k) (b := okA S k y) (d := true) (by have hE2 := hE; (try simp only [okA, okP, sIn, Bool.and_eq_true, Bool.or_eq_true, Bool.and_eq_false_iff, Bool.or_eq_false_iff, decide_eq_true_eq, decide_eq_false_iff_not, Bool.not_eq_true, Bool.not_eq_false, Bool.not_eq_true', Bool.not_eq_false', Bool.not_true, Bool.not_false, Bool.true_and, Bool.and_true, Bool.false_and, Bool.and_false, Bool.true_or, Bool.or_true, Bool.false_or, Bool.or_false] at hE2); simp only [okA, okP, sIn, Bool.and_eq_true, Bool.or_eq_true, Bool.and_eq_false_iff, Bool.or_eq_false_iff, decide_eq_true_eq, decide_eq_false_iff_not, Bool.not_eq_true, Bool.not_eq_false, Bool.not_eq_true', Bool.not_eq_false', Bool.not_true, Bool.not_false, Bool.true_and, Bool.and_true, Bool.false_and, Bool.and_false, Bool.true_or, Bool.or_true, Bool.false_or, Bool.or_false]; omega)), rfl⟩)) h1_ h2_ h3_ (by first | omega | (dsimp only; omega)) (by first | omega | (dsimp only; omega))) (fun v_ f_ H locs hp hW => ?_)
  obtain ⟨hq_1, hpv, hpe⟩ := hp
  rw [hpe] at hW
  have hpv : v_ = some (.ref (ad (1000 + 2 * (k).toNat))) := hpv
  subst hpv
  (try simp only [okA, okP, sIn, Bool.and_eq_true, Bool.or_eq_true, Bool.and_eq_false_iff, Bool.or_eq_false_iff, decide_eq_true_eq, decide_eq_false_iff_not, Bool.not_eq_true, Bool.not_eq_false, Bool.not_eq_true', Bool.not_eq_false', Bool.not_true, Bool.not_false, Bool.true_and, Bool.and_true, Bool.false_and, Bool.and_false, Bool.true_or, Bool.or_true, Bool.false_or, Bool.or_false] at hq_1)
  have hrc1 := hrc k (by omega) (by omega)
  have h00 := wf_0 hwf 0
  refine lv_astore_n (lv' := [(3, .ref (ad (1000 + 2 * (k).toNat))), (0, .ref (ad 0)), (1, .int (iI (k))), (2, .int (iI (bI (y))))]) hx hb dX11_answer_5 rfl hl (by decide) rfl (fun ls hl => ?_)
  refine lv_aload_n hx hb dX11_answer_6 rfl (lv_at hl 0 rfl) ?_
  refine g_get (ref := RX7) (T := TX7) (N := 9) (ci := 8) hx hb hts wsC_X7 hown hK hW (100000 + (1000 + 2 * (k).toNat)) (kW_at (kC_pay hwf (by omega) (show (k) < S.1 8 0 from by omega))) rfl 7 (by decide) (hts _ lC_X11_184) (fun x h => h) (v := .int (iI (S.1 42 (k)))) rfl dX11_answer_7 ?_
  have w_2 := wf_42 hwf (k)
  refine xi_iconst hx hb dX11_answer_10 ?_
  have j_3 : ∀ (zJ : Bool) (H : Heap) (locs : List Loc), zJ = (!decide (S.1 42 k = -1) && decide (S.1 24 k = 0)) → gW D B0 s_ (kW cy ad bk S (I, cX, qX) G) H locs → W p_ l e_ { frames := 13, cells := kTc (nE (pAns S k y).2.2) - kTc (nE S) + 16, slots := kTs (nE (pAns S k y).2.2) - kTs (nE S) + 400, locals := 297 } s_ m_ ([.ref (ad 0), .int (iI (k)), .int (iI (bI (y)))] : List Value).toArray be_ me_ co_ H locs (0 + 1) (0 + 6) (vx_MQ be_ (gQ D B0 (fun (r : Option Value) (g_ : gF) => (pAns S k y).1 = 0 ∧ ∃ (ad2 bk2 : Nat → Nat) (I2 : Int → Bool) (c2 q2 : Int → Int64), ad2 0 = ad 0 ∧ (nP (pAns S k y).2.2 = 0 → ad2 11 = D.1 21) ∧ (nE (pAns S k y).2.2 = 0 → bk2 10 = D.1 21) ∧ r = some (.int (iI (pAns S k y).2.1)) ∧ g_ = kW cy ad2 bk2 (pAns S k y).2.2 (I2, c2, q2) G)) (gXC D B0 (kW cy ad bk S (I, cX, qX) G) (fun E_ : String => ((pAns S k y).1 = 1 ∧ E_ = xIO) ∨ ((pAns S k y).1 = 2 ∧ E_ = xIS))) ([.ref (ad 0), .int (iI (k)), .int (iI (bI (y)))] : List Value).toArray s_ (kTc (nE (pAns S k y).2.2) - kTc (nE S) + 16) (kTs (nE (pAns S k y).2.2) - kTs (nE S) + 400) (fun q : Nat => B0 ≤ q)) (F0 m_ 26 ls [.int (iI (bI (zJ)))]) := by
    intro zJ H locs hzJ hW
    subst hzJ
    refine g_xcallS (As := [.int (iI (bI (!decide (S.1 42 k = -1) && decide (S.1 24 k = 0))))]) (rest := []) K (c_X11_needState (!decide (S.1 42 k = -1) && decide (S.1 24 k = 0)) hst) (va_cwS 1 hts gC_X11_92 rfl rfl rfl (by decide +kernel) ⟨Nat.le_of_ble_eq_true rfl, Nat.le_of_ble_eq_true rfl⟩) hK hW rfl hl.1 rfl (Nat.le_of_ble_eq_true rfl) dX11_answer_26 ⟨by dsimp only; omega, by dsimp only; omega⟩ (fun E_ ce_ q9_ H1 locs1 hE hW1 h1_ h2_ h3_ => g_outX ht hlk hW1 (fun _ _ h => h) (by obtain ⟨rfl, hE⟩ := hE; exact (Or.inr ⟨(show (pAns S k y).1 = 2 from sGo_2 (a := okP S k) (b := okA S k y) (d := true) (by (try simp only [okA, okP, sIn, Bool.and_eq_true, Bool.or_eq_true, Bool.and_eq_false_iff, Bool.or_eq_false_iff, decide_eq_true_eq, decide_eq_false_iff_not, Bool.not_eq_true, Bool.not_eq_false, Bool.not_eq_true', Bool.not_eq_false', Bool.not_true, Bool.not_false, Bool.true_and, Bool.and_true, Bool.false_and, Bool.and_false, Bool.true_or, Bool.or_true, Bool.false_or, Bool.or_false]); first | done | rfl | omega) (by have hE2 := hE; (try simp only [okA, okP, sIn, Bool.and_eq_true, Bool.or_eq_true, Bool.and_eq_false_iff, Bool.or_eq_false_iff, decide_eq_true_eq, decide_eq_false_iff_not, Bool.not_eq_true, Bool.not_eq_false, Bool.not_eq_true', Bool.not_eq_false', Bool.not_true, Bool.not_false, Bool.true_and, Bool.and_true, Bool.false_and, Bool.and_false, Bool.true_or, Bool.or_true, Bool.false_or, Bool.or_false] at hE2); simp only [okA, okP, sIn, Bool.and_eq_true, Bool.or_eq_true, Bool.and_eq_false_iff, Bool.or_eq_false_iff, decide_eq_true_eq, decide_eq_false_iff_not, Bool.not_eq_true, Bool.not_eq_false, Bool.not_eq_true', Bool.not_eq_false', Bool.not_true, Bool.not_false, Bool.true_and, Bool.and_true, Bool.false_and, Bool.and_false, Bool.true_or, Bool.or_true, Bool.false_or, Bool.or_false]; omega)), rfl⟩)) h1_ h2_ h3_ (by first | omega | (dsimp only; omega)) (by first | omega | (dsimp only; omega))) (fun v_ f_ H locs hp hW => ?_)
    obtain ⟨hq_4, hpv, hpe⟩ := hp
    rw [hpe] at hW
    subst hpv
    (try simp only [okA, okP, sIn, Bool.and_eq_true, Bool.or_eq_true, Bool.and_eq_false_iff, Bool.or_eq_false_iff, decide_eq_true_eq, decide_eq_false_iff_not, Bool.not_eq_true, Bool.not_eq_false, Bool.not_eq_true', Bool.not_eq_false', Bool.not_true, Bool.not_false, Bool.true_and, Bool.and_true, Bool.false_and, Bool.and_false, Bool.true_or, Bool.or_true, Bool.false_or, Bool.or_false] at hq_4)
    refine lv_aload_n hx hb dX11_answer_29 rfl (lv_at hl 1 rfl) ?_
    refine g_get (ref := RX11) (T := TX11) (N := 1) (ci := 12) hx hb hts wsC_X11 hown hK hW (100000 + 0) (kW_at rfl) rfl 0 (by decide) (hts _ lC_X11_10) (fun x h => h) (v := .ref (ad 1)) rfl dX11_answer_30 ?_
    refine g_get (ref := RX6) (T := TX6) (N := 8) (ci := 7) hx hb hts wsC_X6 hown hK hW (100000 + 1) (kW_at rfl) rfl 0 (by decide) (hts _ lC_X11_71) (fun x h => h) (v := .ref (ad 2)) rfl dX11_answer_33 ?_
    refine g_get (ref := RX4) (T := TX4) (N := 2) (ci := 5) hx hb hts wsC_X4 hown hK hW (100000 + 2) (kW_at rfl) rfl 0 (by decide) (hts _ lC_X11_178) (fun x h => h) (v := .int (iI (S.1 0 (0)))) rfl dX11_answer_36 ?_
    have w_5 := wf_0 hwf (0)
    refine lv_aload_n hx hb dX11_answer_39 rfl (lv_at hl 0 rfl) ?_
    refine g_get (ref := RX7) (T := TX7) (N := 9) (ci := 8) hx hb hts wsC_X7 hown hK hW (100000 + (1000 + 2 * (k).toNat)) (kW_at (kC_pay hwf (by omega) (show (k) < S.1 8 0 from by omega))) rfl 7 (by decide) (hts _ lC_X11_184) (fun x h => h) (v := .int (iI (S.1 42 (k)))) rfl dX11_answer_40 ?_
    have w_6 := wf_42 hwf (k)
    have j_7 : ∀ (zJ : Bool) (H : Heap) (locs : List Loc), zJ = (decide (S.1 0 0 ≤ S.1 42 k)) → gW D B0 s_ (kW cy ad bk S (I, cX, qX) G) H locs → W p_ l e_ { frames := 13, cells := kTc (nE (pAns S k y).2.2) - kTc (nE S) + 16, slots := kTs (nE (pAns S k y).2.2) - kTs (nE S) + 400, locals := 297 } s_ m_ ([.ref (ad 0), .int (iI (k)), .int (iI (bI (y)))] : List Value).toArray be_ me_ co_ H locs (0 + 1 + 1) (0 + 6 + 6) (vx_MQ be_ (gQ D B0 (fun (r : Option Value) (g_ : gF) => (pAns S k y).1 = 0 ∧ ∃ (ad2 bk2 : Nat → Nat) (I2 : Int → Bool) (c2 q2 : Int → Int64), ad2 0 = ad 0 ∧ (nP (pAns S k y).2.2 = 0 → ad2 11 = D.1 21) ∧ (nE (pAns S k y).2.2 = 0 → bk2 10 = D.1 21) ∧ r = some (.int (iI (pAns S k y).2.1)) ∧ g_ = kW cy ad2 bk2 (pAns S k y).2.2 (I2, c2, q2) G)) (gXC D B0 (kW cy ad bk S (I, cX, qX) G) (fun E_ : String => ((pAns S k y).1 = 1 ∧ E_ = xIO) ∨ ((pAns S k y).1 = 2 ∧ E_ = xIS))) ([.ref (ad 0), .int (iI (k)), .int (iI (bI (y)))] : List Value).toArray s_ (kTc (nE (pAns S k y).2.2) - kTc (nE S) + 16) (kTs (nE (pAns S k y).2.2) - kTs (nE S) + 400) (fun q : Nat => B0 ≤ q)) (F0 m_ 51 ls [.int (iI (bI (zJ)))]) := by
      intro zJ H locs hzJ hW
      subst hzJ
      refine g_xcallS (As := [.int (iI (bI (decide (S.1 0 0 ≤ S.1 42 k))))]) (rest := []) K (c_X11_needState (decide (S.1 0 0 ≤ S.1 42 k)) hst) (va_cwS 1 hts gC_X11_92 rfl rfl rfl (by decide +kernel) ⟨Nat.le_of_ble_eq_true rfl, Nat.le_of_ble_eq_true rfl⟩) hK hW rfl hl.1 rfl (Nat.le_of_ble_eq_true rfl) dX11_answer_51 ⟨by dsimp only; omega, by dsimp only; omega⟩ (fun E_ ce_ q9_ H1 locs1 hE hW1 h1_ h2_ h3_ => g_outX ht hlk hW1 (fun _ _ h => h) (by obtain ⟨rfl, hE⟩ := hE; exact (Or.inr ⟨(show (pAns S k y).1 = 2 from sGo_2 (a := okP S k) (b := okA S k y) (d := true) (by (try simp only [okA, okP, sIn, Bool.and_eq_true, Bool.or_eq_true, Bool.and_eq_false_iff, Bool.or_eq_false_iff, decide_eq_true_eq, decide_eq_false_iff_not, Bool.not_eq_true, Bool.not_eq_false, Bool.not_eq_true', Bool.not_eq_false', Bool.not_true, Bool.not_false, Bool.true_and, Bool.and_true, Bool.false_and, Bool.and_false, Bool.true_or, Bool.or_true, Bool.false_or, Bool.or_false]); first | done | rfl | omega) (by have hE2 := hE; (try simp only [okA, okP, sIn, Bool.and_eq_true, Bool.or_eq_true, Bool.and_eq_false_iff, Bool.or_eq_false_iff, decide_eq_true_eq, decide_eq_false_iff_not, Bool.not_eq_true, Bool.not_eq_false, Bool.not_eq_true', Bool.not_eq_false', Bool.not_true, Bool.not_false, Bool.true_and, Bool.and_true, Bool.false_and, Bool.and_false, Bool.true_or, Bool.or_true, Bool.false_or, Bool.or_false] at hE2); simp only [okA, okP, sIn, Bool.and_eq_true, Bool.or_eq_true, Bool.and_eq_false_iff, Bool.or_eq_false_iff, decide_eq_true_eq, decide_eq_false_iff_not, Bool.not_eq_true, Bool.not_eq_false, Bool.not_eq_true', Bool.not_eq_false', Bool.not_true, Bool.not_false, Bool.true_and, Bool.and_true, Bool.false_and, Bool.and_false, Bool.true_or, Bool.or_true, Bool.false_or, Bool.or_false]; omega)), rfl⟩)) h1_ h2_ h3_ (by first | omega | (dsimp only; omega)) (by first | omega | (dsimp only; omega))) (fun v_ f_ H locs hp hW => ?_)
      obtain ⟨hq_8, hpv, hpe⟩ := hp
      rw [hpe] at hW
      subst hpv
      (try simp only [okA, okP, sIn, Bool.and_eq_true, Bool.or_eq_true, Bool.and_eq_false_iff, Bool.or_eq_false_iff, decide_eq_true_eq, decide_eq_false_iff_not, Bool.not_eq_true, Bool.not_eq_false, Bool.not_eq_true', Bool.not_eq_false', Bool.not_true, Bool.not_false, Bool.true_and, Bool.and_true, Bool.false_and, Bool.and_false, Bool.true_or, Bool.or_true, Bool.false_or, Bool.or_false] at hq_8)
      refine lv_iload_n hx hb dX11_answer_54 rfl (lv_at hl 3 rfl) ?_
      have j_9 : ∀ (zJ : Bool) (H : Heap) (locs : List Loc), zJ = (!y || !decide (60 ≤ S.1 8 0)) → gW D B0 s_ (kW cy ad bk S (I, cX, qX) G) H locs → W p_ l e_ { frames := 13, cells := kTc (nE (pAns S k y).2.2) - kTc (nE S) + 16, slots := kTs (nE (pAns S k y).2.2) - kTs (nE S) + 400, locals := 297 } s_ m_ ([.ref (ad 0), .int (iI (k)), .int (iI (bI (y)))] : List Value).toArray be_ me_ co_ H locs (0 + 1 + 1 + 1) (0 + 6 + 6 + 6) (vx_MQ be_ (gQ D B0 (fun (r : Option Value) (g_ : gF) => (pAns S k y).1 = 0 ∧ ∃ (ad2 bk2 : Nat → Nat) (I2 : Int → Bool) (c2 q2 : Int → Int64), ad2 0 = ad 0 ∧ (nP (pAns S k y).2.2 = 0 → ad2 11 = D.1 21) ∧ (nE (pAns S k y).2.2 = 0 → bk2 10 = D.1 21) ∧ r = some (.int (iI (pAns S k y).2.1)) ∧ g_ = kW cy ad2 bk2 (pAns S k y).2.2 (I2, c2, q2) G)) (gXC D B0 (kW cy ad bk S (I, cX, qX) G) (fun E_ : String => ((pAns S k y).1 = 1 ∧ E_ = xIO) ∨ ((pAns S k y).1 = 2 ∧ E_ = xIS))) ([.ref (ad 0), .int (iI (k)), .int (iI (bI (y)))] : List Value).toArray s_ (kTc (nE (pAns S k y).2.2) - kTc (nE S) + 16) (kTs (nE (pAns S k y).2.2) - kTs (nE S) + 400) (fun q : Nat => B0 ≤ q)) (F0 m_ 76 ls [.int (iI (bI (zJ)))]) := by
        intro zJ H locs hzJ hW
        subst hzJ
        refine g_xcallS (As := [.int (iI (bI (!y || !decide (60 ≤ S.1 8 0))))]) (rest := []) K (c_X11_needState (!y || !decide (60 ≤ S.1 8 0)) hst) (va_cwS 1 hts gC_X11_92 rfl rfl rfl (by decide +kernel) ⟨Nat.le_of_ble_eq_true rfl, Nat.le_of_ble_eq_true rfl⟩) hK hW rfl hl.1 rfl (Nat.le_of_ble_eq_true rfl) dX11_answer_76 ⟨by dsimp only; omega, by dsimp only; omega⟩ (fun E_ ce_ q9_ H1 locs1 hE hW1 h1_ h2_ h3_ => g_outX ht hlk hW1 (fun _ _ h => h) (by obtain ⟨rfl, hE⟩ := hE; exact (Or.inr ⟨(show (pAns S k y).1 = 2 from sGo_2 (a := okP S k) (b := okA S k y) (d := true) (by (try simp only [okA, okP, sIn, Bool.and_eq_true, Bool.or_eq_true, Bool.and_eq_false_iff, Bool.or_eq_false_iff, decide_eq_true_eq, decide_eq_false_iff_not, Bool.not_eq_true, Bool.not_eq_false, Bool.not_eq_true', Bool.not_eq_false', Bool.not_true, Bool.not_false, Bool.true_and, Bool.and_true, Bool.false_and, Bool.and_false, Bool.true_or, Bool.or_true, Bool.false_or, Bool.or_false]); first | done | rfl | omega) (by unfold okA; rw [show (!y || decide (S.1 8 0 < 60)) = false from by cases y with | false => exact absurd (show true = false from hE) (by decide) | true => (have hE2 : (!decide (60 ≤ S.1 8 0)) = false := hE; simp only [Bool.not_eq_false', decide_eq_true_eq] at hE2; show decide (S.1 8 0 < 60) = false; exact decide_eq_false (by omega)), Bool.and_false])), rfl⟩)) h1_ h2_ h3_ (by first | omega | (dsimp only; omega)) (by first | omega | (dsimp only; omega))) (fun v_ f_ H locs hp hW => ?_)
        obtain ⟨hq_10, hpv, hpe⟩ := hp
        rw [hpe] at hW
        subst hpv
        have hy8 : (!y || decide (S.1 8 0 < 60)) = true := by cases y with | false => rfl | true => (show decide (S.1 8 0 < 60) = true; have h : (!decide (60 ≤ S.1 8 0)) = true := hq_10; simp only [Bool.not_eq_true', decide_eq_false_iff_not] at h; exact decide_eq_true (by omega))
        refine lv_aload_n hx hb dX11_answer_79 rfl (lv_at hl 0 rfl) ?_
        refine xi_iconst hx hb dX11_answer_80 ?_
        refine g_put (ref := RX7) (T := TX7) (N := 9) (ci := 8) (ty := tyX7 8) (v := .int (iI (1))) hx hb hts wsC_X7 tyX7 tyX7_ok nmX7 hown hK hW (100000 + (1000 + 2 * (k).toNat)) (kW_at (kC_pay hwf (by omega) (show (k) < S.1 8 0 from by omega))) rfl 8 (by decide) (hts _ lC_X11_187) (fun x h => h) rfl (by decide +kernel) (iI_narz (by omega)) (iI_fitz (by omega)) (by simp [payF]) dX11_answer_81 (fun H locs hW => ?_)
        rw [kW_pay hwf (by omega) (show (k) < S.1 8 0 from by omega) (f := 24) (x := 1) rfl (by simp [payF, pI])] at hW
        refine lv_iload_n hx hb dX11_answer_84 rfl (lv_at hl 3 rfl) ?_
        refine xi_ifb_eq (tgt := 109) hx hb dX11_answer_85 (by decide) (fun c_11 => ?_) (fun c_11 => ?_)
        · refine xi_iconst hx hb dX11_answer_109 ?_
          refine lv_istore (lv' := [(4, .int (iI ((-1)))), (3, .ref (ad (1000 + 2 * (k).toNat))), (0, .ref (ad 0)), (1, .int (iI (k))), (2, .int (iI (bI (y))))]) hx hb dX11_answer_110 hl (by decide) rfl (fun ls hl => ?_)
          refine lv_aload_n hx hb dX11_answer_112 rfl (lv_at hl 2 rfl) ?_
          refine g_get (ref := RX11) (T := TX11) (N := 1) (ci := 12) hx hb hts wsC_X11 hown hK hW (100000 + 0) (kW_at rfl) rfl 0 (by decide) (hts _ lC_X11_10) (fun x h => h) (v := .ref (ad 1)) rfl dX11_answer_113 ?_
          obtain ⟨T, hT⟩ : ∃ x : ST, x = (pI S 24 (k) (1)) := ⟨_, rfl⟩
          rw [← hT] at hW
          have hRo : okS T := by rw [hT]; exact okS_pI ho _ _ (by decide) (by simp only [rLo, rHi]; omega)
          have hT8 : T.1 8 = S.1 8 := by rw [hT]; exact pI_f _ _ _ (by decide)
          have hT21 : T.1 21 = S.1 21 := by rw [hT]; exact pI_f _ _ _ (by decide)
          have hTe : T.1 31 0 + cNF T ≤ S.1 31 0 + cNF S + 1 := by rw [hT, pI_f _ _ _ (by decide), cNF_pI (by decide)]; omega
          have hTn : nE T = nE S := nE_f (by rw [hT]; exact pI_f _ _ _ (by decide))
          have hTc1 : kTc (nE T) = kTc (nE S) := by rw [hTn]
          have hTc2 : kTs (nE T) = kTs (nE S) := by rw [hTn]
          have hRb : nE T = 0 → bk 10 = D.1 21 := fun h => hE0 (by rw [← hTn]; exact h)
          have hRl : legW T := legW_of (congrFun hT8 0) hT21 hlw
          have hRe : T.1 31 0 + cNF T < 20000 := by omega
          have hRr := (sRuns_ok hRo).1
          have hRn := rdP_n hRo.1 (rdP_runs hRo)
          have hNP : nP (sRuns T).2 = nP S := (nP_runs hRo).trans (by unfold nP; rw [hT8])
          have t1 := kTc_le (show nE T ≤ nE (sRuns T).2 by omega)
          have t2 := kTs_le (show nE T ≤ nE (sRuns T).2 by omega)
          have hyf : y = false := c_11
          have hTs : stab T := by rw [hT]; exact stab_q (qEq_pI S k _ (by omega)) hsb
          have hsr : sRuns T = (0, T) := stab_runs hTs
          have hcA : (okP S k) = true := (by (try simp only [okA, okP, sIn, Bool.and_eq_true, Bool.or_eq_true, Bool.and_eq_false_iff, Bool.or_eq_false_iff, decide_eq_true_eq, decide_eq_false_iff_not, Bool.not_eq_true, Bool.not_eq_false, Bool.not_eq_true', Bool.not_eq_false', Bool.not_true, Bool.not_false, Bool.true_and, Bool.and_true, Bool.false_and, Bool.and_false, Bool.true_or, Bool.or_true, Bool.false_or, Bool.or_false]); first | done | rfl | omega)
          have hcB : (okA S k y) = true := (by unfold okA; rw [show (!y || decide (S.1 8 0 < 60)) = true from hy8, Bool.and_true]; simp only [okP, sIn, Bool.and_eq_true, Bool.or_eq_true, Bool.and_eq_false_iff, Bool.or_eq_false_iff, decide_eq_true_eq, decide_eq_false_iff_not, Bool.not_eq_true, Bool.not_eq_false, Bool.not_eq_true', Bool.not_eq_false', Bool.not_true, Bool.not_false, Bool.true_and, Bool.and_true, Bool.false_and, Bool.and_false, Bool.true_or, Bool.or_true, Bool.false_or, Bool.or_false]; omega)
          have hcC : (true) = true := (by (try simp only [okA, okP, sIn, Bool.and_eq_true, Bool.or_eq_true, Bool.and_eq_false_iff, Bool.or_eq_false_iff, decide_eq_true_eq, decide_eq_false_iff_not, Bool.not_eq_true, Bool.not_eq_false, Bool.not_eq_true', Bool.not_eq_false', Bool.not_true, Bool.not_false, Bool.true_and, Bool.and_true, Bool.false_and, Bool.and_false, Bool.true_or, Bool.or_true, Bool.false_or, Bool.or_false]); first | done | rfl | omega)
          have hsp : pAns S k y = (0, -1, pI S 24 k 1) := by unfold pAns; rw [sGo_00 hcA hcB hcC, if_pos (show ((okP S k) && (okA S k y) && (true)) = true by rw [hcA, hcB, hcC]; rfl)]; rw [if_pos hyf]
          have hM1 : kTc (nE (pAns S k y).2.2) = kTc (nE S) := by rw [hsp]; rfl
          have hM2 : kTs (nE (pAns S k y).2.2) = kTs (nE S) := by rw [hsp]; rfl
          have hR1 : kTc (nE (sRuns T).2) = kTc (nE S) := by rw [hsr]; exact hTc1
          have hR2 : kTs (nE (sRuns T).2) = kTs (nE S) := by rw [hsr]; exact hTc2
          rw [hsr] at hNP
          refine g_callV (i := 100000 + 1) (As := []) (rest := []) K (c_X6_runQueues (S := T) hRo.1 hRo hRl hRe hG0 hRb) (cwV 0 hts gC_X11_35 rfl rfl rfl (by decide +kernel) ⟨Nat.le_of_ble_eq_true rfl, Nat.le_of_ble_eq_true rfl⟩) hK hW (kW_at rfl) rfl rfl hl.1 rfl (Nat.le_of_ble_eq_true rfl) dX11_answer_116 ⟨by dsimp only; omega, by dsimp only; omega⟩ (fun v_ f_ H locs hp hW => ?_)
          obtain ⟨bk9, I9, c9, q9, hpv, hb9, hpe⟩ := hp
          rw [hpe] at hW
          subst hpv
          rw [hsr] at hW hb9
          refine lv_pop hx hb dX11_answer_119 rfl ?_
          refine lv_iload hx hb dX11_answer_120 (lv_at hl 0 rfl) ?_
          exact W.widen (by first | omega | (dsimp only; omega)) (by first | omega | (dsimp only; omega)) (vx_ret (g_iret hx hb hr hW ⟨by rw [hsp], ad, bk9, I9, c9, q9, rfl, fun h => hP0 (by rw [hsp] at h; exact h), fun h => hb9 (by rw [hTn]; rw [hsp] at h; exact h), by rw [hsp], by rw [hsp, hT]⟩ dX11_answer_122 hlk))
        · have hyt : y = true := c_11
          have h60 : S.1 8 0 < 60 := by rw [hyt] at hy8; simpa using hy8
          obtain ⟨S1, hS1⟩ : ∃ x : ST, x = (pI S 24 (k) (1)) := ⟨_, rfl⟩
          rw [← hS1] at hW
          have f1 : ∀ f : Nat, f ≠ 24 → S1.1 f = S.1 f := fun f hf => by rw [hS1]; exact pI_f _ _ _ hf
          have hS1o : okS S1 := by rw [hS1]; exact okS_pI ho _ _ (by decide) (by simp only [rLo, rHi]; omega)
          have hS18 : S1.1 8 0 = S.1 8 0 := by rw [f1 8 (by decide)]
          have hnj := hnw (S.1 8 0) (by omega) h60
          have h24n : S1.1 24 (S.1 8 0) = 0 := by rw [hS1, pI_n _ _ _ _ (Or.inr (by omega))]; exact hnj.2.2
          refine lv_aload_n hx hb dX11_answer_88 rfl (lv_at hl 1 rfl) ?_
          refine g_get (ref := RX11) (T := TX11) (N := 1) (ci := 12) hx hb hts wsC_X11 hown hK hW (100000 + 0) (kW_at rfl) rfl 0 (by decide) (hts _ lC_X11_10) (fun x h => h) (v := .ref (ad 1)) rfl dX11_answer_89 ?_
          refine lv_aload_n hx hb dX11_answer_92 rfl (lv_at hl 1 rfl) ?_
          refine g_get (ref := RX11) (T := TX11) (N := 1) (ci := 12) hx hb hts wsC_X11 hown hK hW (100000 + 0) (kW_at rfl) rfl 0 (by decide) (hts _ lC_X11_10) (fun x h => h) (v := .ref (ad 1)) rfl dX11_answer_93 ?_
          refine lv_aload_n hx hb dX11_answer_96 rfl (lv_at hl 0 rfl) ?_
          refine g_get (ref := RX7) (T := TX7) (N := 9) (ci := 8) hx hb hts wsC_X7 hown hK hW (100000 + (1000 + 2 * (k).toNat)) (kW_at (kC_pay (hS1o.1) (by omega) (show (k) < S1.1 8 0 from (by rw [hS18]; omega)))) rfl 1 (by decide) (hts _ lC_X11_115) (fun x h => h) (v := .ref (ad (1001 + 2 * (k).toNat))) rfl dX11_answer_97 ?_
          refine g_callV (i := 100000 + 1) (As := [.ref (ad (1001 + 2 * (k).toNat))]) (rest := [.ref (ad 1)]) K (c_X6_termsBack (S := S1) (k) hS1o.1 (by omega) (by rw [hS18]; omega)) (cwV 1 hts gC_X11_190 rfl rfl rfl (by decide +kernel) ⟨Nat.le_of_ble_eq_true rfl, Nat.le_of_ble_eq_true rfl⟩) hK hW (kW_at rfl) rfl rfl hl.1 rfl (Nat.le_of_ble_eq_true rfl) dX11_answer_100 ⟨by dsimp only; omega, by dsimp only; omega⟩ (fun v_ f_ H locs hp hW => ?_)
          obtain ⟨q, hpv, hpe⟩ := hp
          rw [hpe] at hW
          subst hpv
          refine g_callV (i := 100000 + 1) (As := [.ref (q)]) (rest := []) K (c_X6_bringIn (S := S1) (S1.1 10 k) (S1.1 9 k) (S1.1 11 k) (S1.1 12 k) 0 2 true (S1.1 0 0) true hS1o.1 (fun j j0 j1 => by rw [hS18] at j1; rw [f1 21 (by decide), hS18]; rcases hlw j j0 j1 with h | h <;> omega) (by rw [hS18]; exact h60) (by rw [hS18, f1 19 (by decide)]; exact hnj.2.1) (by rw [hS18]; exact h24n) (by rw [gup_n _ _ _ (by decide)]; exact hG2) (gup_s _ _ _ _) (wf_10 hS1o.1 k) (wf_9 hS1o.1 k) (wf_11 hS1o.1 k) (wf_12 hS1o.1 k) (by decide) (by decide) (by have := wf_0 hS1o.1 0; omega) hS1o (by rw [hS18, f1 18 (by decide), hnj.1]; decide) (fun h => hP0 (by rw [← h]; unfold nP; rw [hS18]))) (cwV 1 hts gC_X11_136 rfl rfl rfl (by decide +kernel) ⟨Nat.le_of_ble_eq_true rfl, Nat.le_of_ble_eq_true rfl⟩) hK hW (kW_at rfl) rfl rfl hl.1 rfl (Nat.le_of_ble_eq_true rfl) dX11_answer_103 ⟨by dsimp only; omega, by dsimp only; omega⟩ (fun v_ f_ H locs hp hW => ?_)
          obtain ⟨ad, hadO, hpv, hpe⟩ := hp
          rw [hpe, gno_g hG3] at hW
          subst hpv
          have had0 := hadO 0 (by decide) (by decide) (by omega)
          have hl : lv_has ls 5 [(0, .ref (ad 0)), (1, .int (iI (k))), (2, .int (iI (bI (y))))] := by rw [had0]; exact lv_sub hl [1, 2, 3] rfl
          skip
          refine lv_goto (tgt := 110) hx hb dX11_answer_106 (by decide) ?_
          refine lv_istore (lv' := [(4, .int (iI ((S1.1 8 0)))), (0, .ref (ad 0)), (1, .int (iI (k))), (2, .int (iI (bI (y))))]) hx hb dX11_answer_110 hl (by decide) rfl (fun ls hl => ?_)
          refine lv_aload_n hx hb dX11_answer_112 rfl (lv_at hl 1 rfl) ?_
          refine g_get (ref := RX11) (T := TX11) (N := 1) (ci := 12) hx hb hts wsC_X11 hown hK hW (100000 + 0) (kW_at rfl) rfl 0 (by decide) (hts _ lC_X11_10) (fun x h => h) (v := .ref (ad 1)) rfl dX11_answer_113 ?_
          obtain ⟨T, hT⟩ : ∃ x : ST, x = (sCome S1 (S1.1 10 k) (S1.1 9 k) (S1.1 11 k) (S1.1 12 k) 0 2 true (S1.1 0 0) true) := ⟨_, rfl⟩
          rw [← hT] at hW
          have hTan : T = anT S k := by rw [hT]; unfold anT; rw [f1 10 (by decide), f1 9 (by decide), f1 11 (by decide), f1 12 (by decide), f1 0 (by decide), hS1]
          have hRo : okS T := by rw [hT]; exact okS_come hS1o (by rw [hS18]; exact h60) (by rw [hS18, f1 18 (by decide), hnj.1]; decide) (wf_10 hS1o.1 k) (wf_9 hS1o.1 k) (wf_11 hS1o.1 k) (wf_12 hS1o.1 k) (by decide) (by decide) (by have := wf_0 hS1o.1 0; omega)
          have hT8 : T.1 8 0 = S.1 8 0 + 1 := by rw [hT, come_8, hS18]
          have hT31 : T.1 31 = S.1 31 := by rw [hT, come_f S1 (S1.1 10 k) (S1.1 9 k) (S1.1 11 k) (S1.1 12 k) 0 2 true (S1.1 0 0) true (by omega), f1 31 (by decide)]
          have hT27 : T.1 27 = S.1 27 := by rw [hT, come_f S1 (S1.1 10 k) (S1.1 9 k) (S1.1 11 k) (S1.1 12 k) 0 2 true (S1.1 0 0) true (by omega), f1 27 (by decide)]
          have hTn : nE T = nE S := nE_f hT31
          have hRl : legW T := by rw [hT]; exact legW_come (legW_of hS18 (f1 21 (by decide)) hlw) (S1.1 10 k) (S1.1 9 k) (S1.1 11 k) (S1.1 12 k) 0 2 true (S1.1 0 0) true (by rw [hS18]; omega)
          have hRe : T.1 31 0 + cNF T < 20000 := by rw [hT31, cNF_27 ho hRo hT27]; omega
          have hRr := (sRuns_ok hRo).1
          have hRn := rdP_n hRo.1 (rdP_runs hRo)
          have hNP : nP (sRuns T).2 = nP S + 1 := (nP_runs hRo).trans (by unfold nP; rw [hT8]; omega)
          have t1 := kTc_le (show nE T ≤ nE (sRuns T).2 by omega)
          have t2 := kTs_le (show nE T ≤ nE (sRuns T).2 by omega)
          have hTc1 : kTc (nE T) = kTc (nE S) := by rw [hTn]
          have hTc2 : kTs (nE T) = kTs (nE S) := by rw [hTn]
          have hRb : nE T = 0 → bk 10 = D.1 21 := fun h => hE0 (by rw [← hTn]; exact h)
          have hcA : (okP S k) = true := (by (try simp only [okA, okP, sIn, Bool.and_eq_true, Bool.or_eq_true, Bool.and_eq_false_iff, Bool.or_eq_false_iff, decide_eq_true_eq, decide_eq_false_iff_not, Bool.not_eq_true, Bool.not_eq_false, Bool.not_eq_true', Bool.not_eq_false', Bool.not_true, Bool.not_false, Bool.true_and, Bool.and_true, Bool.false_and, Bool.and_false, Bool.true_or, Bool.or_true, Bool.false_or, Bool.or_false]); first | done | rfl | omega)
          have hcB : (okA S k y) = true := (by unfold okA; rw [show (!y || decide (S.1 8 0 < 60)) = true from hy8, Bool.and_true]; simp only [okP, sIn, Bool.and_eq_true, Bool.or_eq_true, Bool.and_eq_false_iff, Bool.or_eq_false_iff, decide_eq_true_eq, decide_eq_false_iff_not, Bool.not_eq_true, Bool.not_eq_false, Bool.not_eq_true', Bool.not_eq_false', Bool.not_true, Bool.not_false, Bool.true_and, Bool.and_true, Bool.false_and, Bool.and_false, Bool.true_or, Bool.or_true, Bool.false_or, Bool.or_false]; omega)
          have hcC : (true) = true := (by (try simp only [okA, okP, sIn, Bool.and_eq_true, Bool.or_eq_true, Bool.and_eq_false_iff, Bool.or_eq_false_iff, decide_eq_true_eq, decide_eq_false_iff_not, Bool.not_eq_true, Bool.not_eq_false, Bool.not_eq_true', Bool.not_eq_false', Bool.not_true, Bool.not_false, Bool.true_and, Bool.and_true, Bool.false_and, Bool.and_false, Bool.true_or, Bool.or_true, Bool.false_or, Bool.or_false]); first | done | rfl | omega)
          have hsp : pAns S k y = (0, S.1 8 0, (sRuns T).2) := by unfold pAns; rw [sGo_00 hcA hcB hcC, if_pos (show ((okP S k) && (okA S k y) && (true)) = true by rw [hcA, hcB, hcC]; rfl)]; rw [if_neg (by rw [hyt]; decide), hTan]
          have hM1 : kTc (nE ((pAns S k y).2.2)) = kTc (nE (sRuns T).2) := by rw [hsp]
          have hM2 : kTs (nE ((pAns S k y).2.2)) = kTs (nE (sRuns T).2) := by rw [hsp]
          refine g_callV (i := 100000 + 1) (As := []) (rest := []) K (c_X6_runQueues (S := T) hRo.1 hRo hRl hRe hG0 hRb) (cwV 0 hts gC_X11_35 rfl rfl rfl (by decide +kernel) ⟨Nat.le_of_ble_eq_true rfl, Nat.le_of_ble_eq_true rfl⟩) hK hW (kW_at rfl) rfl rfl hl.1 rfl (Nat.le_of_ble_eq_true rfl) dX11_answer_116 ⟨by dsimp only; omega, by dsimp only; omega⟩ (fun v_ f_ H locs hp hW => ?_)
          obtain ⟨bk9, I9, c9, q9, hpv, hb9, hpe⟩ := hp
          rw [hpe] at hW
          subst hpv
          refine lv_pop hx hb dX11_answer_119 rfl ?_
          refine lv_iload hx hb dX11_answer_120 (lv_at hl 0 rfl) ?_
          rw [hS18]
          exact W.widen (by first | omega | (dsimp only; omega)) (by first | omega | (dsimp only; omega)) (vx_ret (g_iret hx hb hr hW ⟨by rw [hsp], ad, bk9, I9, c9, q9, had0, fun h => absurd h (by rw [hsp]; show ¬ nP (sRuns T).2 = 0; omega), fun h => hb9 (by rw [hsp] at h; exact h), by rw [hsp], by rw [hsp]⟩ dX11_answer_122 hlk))
      refine xi_ifb_eq (tgt := 71) hx hb dX11_answer_55 (by decide) (fun c_12 => ?_) (fun c_12 => ?_)
      · refine xi_iconst hx hb dX11_answer_71 ?_
        refine lv_goto (tgt := 76) hx hb dX11_answer_72 (by decide) ?_
        exact xi_eq (z' := bI (!y || !decide (60 ≤ S.1 8 0))) (bI_t (by simp only [c_12, decide_true, decide_false, Bool.true_and, Bool.and_true, Bool.false_and, Bool.and_false, Bool.true_or, Bool.or_true, Bool.false_or, Bool.or_false, Bool.not_true, Bool.not_false, eq_self])) (j_9 _ _ _ rfl hW)
      · refine lv_aload_n hx hb dX11_answer_58 rfl (lv_at hl 1 rfl) ?_
        refine g_get (ref := RX11) (T := TX11) (N := 1) (ci := 12) hx hb hts wsC_X11 hown hK hW (100000 + 0) (kW_at rfl) rfl 0 (by decide) (hts _ lC_X11_10) (fun x h => h) (v := .ref (ad 1)) rfl dX11_answer_59 ?_
        refine g_get (ref := RX6) (T := TX6) (N := 8) (ci := 7) hx hb hts wsC_X6 hown hK hW (100000 + 1) (kW_at rfl) rfl 2 (by decide) (hts _ lC_X11_105) (fun x h => h) (v := .ref (ad 5)) rfl dX11_answer_62 ?_
        refine g_callV (i := 100000 + 5) (As := []) (rest := []) K (c_X8_isFull  hwf ) (cwV 0 hts gC_X11_132 rfl rfl rfl (by decide +kernel) ⟨Nat.le_of_ble_eq_true rfl, Nat.le_of_ble_eq_true rfl⟩) hK hW (kW_at rfl) rfl rfl hl.1 rfl (Nat.le_of_ble_eq_true rfl) dX11_answer_65 ⟨by dsimp only; omega, by dsimp only; omega⟩ (fun v_ f_ H locs hp hW => ?_)
        obtain ⟨hpv, hpe⟩ := hp
        rw [hpe] at hW
        have hpv : v_ = some (.int (iI (bI (decide (60 ≤ S.1 8 0))))) := hpv
        subst hpv
        refine xi_ifb_ne (tgt := 75) hx hb dX11_answer_68 (by decide) (fun c_13 => ?_) (fun c_13 => ?_)
        · refine xi_iconst hx hb dX11_answer_75 ?_
          exact xi_eq (z' := bI (!y || !decide (60 ≤ S.1 8 0))) (bI_f (by simp only [c_12, c_13, decide_true, decide_false, Bool.true_and, Bool.and_true, Bool.false_and, Bool.and_false, Bool.true_or, Bool.or_true, Bool.false_or, Bool.or_false, Bool.not_true, Bool.not_false, eq_self])) (j_9 _ _ _ rfl hW)
        · refine xi_iconst hx hb dX11_answer_71 ?_
          refine lv_goto (tgt := 76) hx hb dX11_answer_72 (by decide) ?_
          exact xi_eq (z' := bI (!y || !decide (60 ≤ S.1 8 0))) (bI_t (by simp only [c_12, c_13, decide_true, decide_false, Bool.true_and, Bool.and_true, Bool.false_and, Bool.and_false, Bool.true_or, Bool.or_true, Bool.false_or, Bool.or_false, Bool.not_true, Bool.not_false, eq_self])) (j_9 _ _ _ rfl hW)
    refine xi_icmp_gt (tgt := 50) hx hb ⟨by omega, by omega⟩ ⟨by omega, by omega⟩ dX11_answer_43 (by decide) (fun c_14 => ?_) (fun c_14 => ?_)
    · refine xi_iconst hx hb dX11_answer_50 ?_
      exact xi_eq (z' := bI (decide (S.1 0 0 ≤ S.1 42 k))) (bI_f (by simp only [c_14, Int.not_le.mpr c_14, decide_true, decide_false, Bool.true_and, Bool.and_true, Bool.false_and, Bool.and_false, Bool.true_or, Bool.or_true, Bool.false_or, Bool.or_false, Bool.not_true, Bool.not_false, eq_self])) (j_7 _ _ _ rfl hW)
    · refine xi_iconst hx hb dX11_answer_46 ?_
      refine lv_goto (tgt := 51) hx hb dX11_answer_47 (by decide) ?_
      exact xi_eq (z' := bI (decide (S.1 0 0 ≤ S.1 42 k))) (bI_t (by simp only [c_14, Int.not_lt.mpr c_14, decide_true, decide_false, Bool.true_and, Bool.and_true, Bool.false_and, Bool.and_false, Bool.true_or, Bool.or_true, Bool.false_or, Bool.or_false, Bool.not_true, Bool.not_false, eq_self])) (j_7 _ _ _ rfl hW)
  refine xi_icmp_eq (tgt := 25) hx hb ⟨by omega, by omega⟩ ⟨by omega, by omega⟩ dX11_answer_11 (by decide) (fun c_15 => ?_) (fun c_15 => ?_)
  · refine xi_iconst hx hb dX11_answer_25 ?_
    exact xi_eq (z' := bI (!decide (S.1 42 k = -1) && decide (S.1 24 k = 0))) (bI_f (by simp only [c_15, decide_true, decide_false, Bool.true_and, Bool.and_true, Bool.false_and, Bool.and_false, Bool.true_or, Bool.or_true, Bool.false_or, Bool.or_false, Bool.not_true, Bool.not_false, eq_self])) (j_3 _ _ _ rfl hW)
  · refine lv_aload_n hx hb dX11_answer_14 rfl (lv_at hl 0 rfl) ?_
    refine g_get (ref := RX7) (T := TX7) (N := 9) (ci := 8) hx hb hts wsC_X7 hown hK hW (100000 + (1000 + 2 * (k).toNat)) (kW_at (kC_pay hwf (by omega) (show (k) < S.1 8 0 from by omega))) rfl 8 (by decide) (hts _ lC_X11_187) (fun x h => h) (v := .int (iI (S.1 24 (k)))) rfl dX11_answer_15 ?_
    have w_16 := wf_24 hwf (k)
    refine xi_if_ne (tgt := 25) hx hb ⟨by omega, by omega⟩ dX11_answer_18 (by decide) (fun c_17 => ?_) (fun c_17 => ?_)
    · refine xi_iconst hx hb dX11_answer_25 ?_
      exact xi_eq (z' := bI (!decide (S.1 42 k = -1) && decide (S.1 24 k = 0))) (bI_f (by simp only [c_15, c_17, decide_true, decide_false, Bool.true_and, Bool.and_true, Bool.false_and, Bool.and_false, Bool.true_or, Bool.or_true, Bool.false_or, Bool.or_false, Bool.not_true, Bool.not_false, eq_self])) (j_3 _ _ _ rfl hW)
    · refine xi_iconst hx hb dX11_answer_21 ?_
      refine lv_goto (tgt := 26) hx hb dX11_answer_22 (by decide) ?_
      exact xi_eq (z' := bI (!decide (S.1 42 k = -1) && decide (S.1 24 k = 0))) (bI_t (by simp only [c_15, c_17, decide_true, decide_false, Bool.true_and, Bool.and_true, Bool.false_and, Bool.and_false, Bool.true_or, Bool.or_true, Bool.false_or, Bool.or_false, Bool.not_true, Bool.not_false, eq_self])) (j_3 _ _ _ rfl hW)
