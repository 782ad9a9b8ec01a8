/-! the queues when nothing more can settle -/
def qcond (S : ST) (b c : Int) : Bool := !decide (qAt S b c 0 = -1) && fstOk S (qAt S b c 0)
def stab (S : ST) : Prop := ∀ b c : Int, 0 ≤ b → b < 6 → 0 ≤ c → c < 3 → qcond S b c = false
theorem sFirst_st {S : ST} {b c : Int} (h : qcond S b c = false) : sFirst S b c = (0, S) := by
  have h' : (!decide (qAt S b c 0 = -1) && fstOk S (qAt S b c 0)) = false := h
  unfold sFirst
  rw [h', if_neg (by decide)]
theorem cnB_at {I : Int → Bool} {k : Int} : ∀ {n : Nat}, 0 ≤ k → k < n → I k = true → 1 ≤ cnB I n
  | 0, h0, h1, _ => by omega
  | n + 1, h0, h1, h => by
    rw [cnB_s]
    by_cases e : k = n
    · rw [← e, h]
      have := cnB_nn I n
      simp only [bI, if_true]
      omega
    · have := cnB_at (I := I) (k := k) (n := n) h0 (by omega) h
      have := bI_01 (I n)
      omega
theorem sFirst_pos {S : ST} (hw : wf S) {b c : Int} (h : (sFirst S b c).1 = 0) : qcond S b c = false ∧ sFirst S b c = (0, S) := by
  cases hq : qcond S b c with
  | false => exact ⟨rfl, sFirst_st hq⟩
  | true =>
    exfalso
    have hq' : (!decide (qAt S b c 0 = -1) && fstOk S (qAt S b c 0)) = true := hq
    unfold sFirst at h
    rw [if_pos hq'] at h
    have hr := qAt_r hw (rfl : qAt S b c 0 = _)
    simp only [Bool.and_eq_true, Bool.not_eq_true', decide_eq_false_iff_not] at hq'
    have h8 := wf_8 hw 0
    rcases hr with e | ⟨k0, k1, _⟩
    · exact hq'.1 e
    · have := cnB_at (I := fstI S (qAt S b c 0)) (n := nP S) k0 (by unfold nP; omega) (by simp [fstI])
      omega
theorem stab_B {S : ST} (h : stab S) {b c : Int} (b0 : 0 ≤ b) (b1 : b < 6) (c0 : 0 ≤ c) (c1 : c < 3) : rdB c b (0, S) = (0, S) := by
  unfold rdB
  rw [sFirst_st (h b c b0 b1 c0 c1)]
  rfl
theorem stab_Bn {S : ST} (h : stab S) {c : Int} (c0 : 0 ≤ c) (c1 : c < 3) : ∀ n : Nat, n ≤ 6 → foS (rdB c) (0, S) n = (0, S)
  | 0, _ => rfl
  | n + 1, hn => by
    rw [foS_s, stab_Bn h c0 c1 n (by omega)]
    exact stab_B h (by omega) (by omega) c0 c1
theorem stab_Cn {S : ST} (h : stab S) : ∀ n : Nat, n ≤ 3 → foS rdC (0, S) n = (0, S)
  | 0, _ => rfl
  | n + 1, hn => by
    rw [foS_s, stab_Cn h n (by omega)]
    exact stab_Bn h (by omega) (by omega) 6 (Nat.le_refl _)
theorem stab_R {S : ST} (h : stab S) : sRound S = (0, S) := stab_Cn h 3 (Nat.le_refl _)
theorem stab_runs {S : ST} (h : stab S) : sRuns S = (0, S) := by
  have e : sRuns S = sRunN (60 + 1) 0 S := rfl
  rw [e]
  unfold sRunN
  rw [stab_R h]
  rfl
/-- a round in which nothing settles -/
theorem zero_Bn {S : ST} {c : Int} : ∀ (n : Nat) (x : Int × ST), rdP S x → (foS (rdB c) x n).1 ≤ x.1 → foS (rdB c) x n = x ∧ ∀ b : Int, 0 ≤ b → b < n → qcond x.2 b c = false
  | 0, x, _, _ => ⟨rfl, fun b h0 h1 => (by omega)⟩
  | n + 1, x, hx, h => by
    have hk : rdP S (foS (rdB c) x n) := foS_keeps hx (fun k y hy => (stepB c k y hy).1) n
    have h2 : (sFirst (foS (rdB c) x n).2 n c).1 ≥ 0 := (rdP_F hk.1.1 n c).1.2.1
    have e : foS (rdB c) x (n + 1) = ((foS (rdB c) x n).1 + (sFirst (foS (rdB c) x n).2 n c).1, (sFirst (foS (rdB c) x n).2 n c).2) := rfl
    rw [e] at h ⊢
    have h' : (foS (rdB c) x n).1 + (sFirst (foS (rdB c) x n).2 n c).1 ≤ x.1 := h
    obtain ⟨i1, i2⟩ := zero_Bn (c := c) n x hx (by omega)
    rw [i1] at h' ⊢
    have h3 := sFirst_pos (S := x.2) hx.1.1.1 (b := n) (c := c) (by rw [i1] at h2; omega)
    refine ⟨?_, fun b b0 b1 => ?_⟩
    · rw [h3.2]
      show (x.1 + 0, x.2) = x
      rw [Int.add_zero]
    · by_cases eb : b = n
      · rw [eb]; exact h3.1
      · exact i2 b b0 (by omega)
theorem rdC_up {S : ST} (c : Int) {x : Int × ST} (h : rdP S x) : x.1 ≤ (rdC c x).1 := by
  have key : ∀ n : Nat, x.1 ≤ (foS (rdB c) x n).1 := by
    intro n
    induction n with
    | zero => exact Int.le_refl _
    | succ n ih =>
      have hk : rdP S (foS (rdB c) x n) := foS_keeps h (fun k y hy => (stepB c k y hy).1) n
      have h2 : (sFirst (foS (rdB c) x n).2 n c).1 ≥ 0 := (rdP_F hk.1.1 n c).1.2.1
      have e : (foS (rdB c) x (n + 1)).1 = (foS (rdB c) x n).1 + (sFirst (foS (rdB c) x n).2 n c).1 := rfl
      omega
  exact key 6
theorem zero_Cn {S : ST} : ∀ (n : Nat) (x : Int × ST), rdP S x → (foS rdC x n).1 ≤ x.1 → foS rdC x n = x ∧ ∀ b c : Int, 0 ≤ b → b < 6 → 0 ≤ c → c < n → qcond x.2 b c = false
  | 0, x, _, _ => ⟨rfl, fun b c _ _ h0 h1 => (by omega)⟩
  | n + 1, x, hx, h => by
    have hk : rdP S (foS rdC x n) := foS_keeps hx (fun k y hy => (stepC k y hy).1) n
    have h2 := rdC_up n hk
    have e : foS rdC x (n + 1) = rdC n (foS rdC x n) := rfl
    rw [e] at h ⊢
    obtain ⟨i1, i2⟩ := zero_Cn n x hx (by omega)
    rw [i1] at h ⊢
    obtain ⟨j1, j2⟩ := zero_Bn (S := S) (c := n) 6 x hx h
    refine ⟨j1, fun b c b0 b1 c0 c1 => ?_⟩
    by_cases ec : c = n
    · rw [ec]; exact j2 b b0 (by omega)
    · exact i2 b c b0 b1 c0 (by omega)
theorem zero_R {S : ST} (ho : okS S) (h : (sRound S).1 ≤ 0) : sRound S = (0, S) ∧ stab S := by
  have h2 := zero_Cn (S := S) 3 (0, S) (rdP_0 ho) h
  exact ⟨h2.1, fun b c b0 b1 c0 c1 => h2.2 b c b0 b1 c0 (by omega)⟩
theorem sRunN_st : ∀ (m : Nat) (a : Int) (x : ST), okS x → cNF x < m → stab (sRunN m a x).2
  | 0, _, x, _, h => by have := cNF_nn x; omega
  | m + 1, a, x, ho, h => by
    have r := rdP_R ho
    unfold sRunN
    by_cases hz : (sRound x).1 ≤ 0
    · rw [if_pos hz]
      have := zero_R ho hz
      rw [this.1]
      exact this.2
    · rw [if_neg hz]
      have h3 := r.1.2.2.1
      exact sRunN_st m _ _ r.1.1 (by omega)
/-- after the queues have run, nothing more can settle -/
theorem stab_after {S : ST} (ho : okS S) : stab (sRuns S).2 := by
  have h1 := ho.2.1
  have h2 := wf_27 ho.1 0
  exact sRunN_st 61 0 S ho (by omega)
/-! what the queues look at -/
def qEq (S T : ST) : Prop := (∀ f : Nat, f = 0 ∨ f = 2 ∨ f = 3 ∨ f = 5 ∨ f = 6 ∨ f = 8 ∨ f = 9 ∨ f = 10 ∨ f = 11 ∨ f = 12 ∨ f = 14 ∨ f = 18 ∨ f = 21 → T.1 f = S.1 f) ∧ T.2 1 = S.2 1 ∧ T.2 4 = S.2 4
theorem qEq_qR {S T : ST} (h : qEq S T) (b c r : Int) : ∀ n : Nat, qR T b c r n = qR S b c r n
  | 0 => rfl
  | n + 1 => by
    have e : isQ T b c r n = isQ S b c r n := by
      unfold isQ
      rw [h.1 18 (by omega), h.1 9 (by omega), h.1 11 (by omega), h.1 14 (by omega)]
    rw [qR_s, qR_s, qEq_qR h b c r n, e]
theorem qEq_qL {S T : ST} (h : qEq S T) (b c : Int) : qL T b c = qL S b c := by
  unfold qL
  rw [h.1 8 (by omega), qEq_qR h, qEq_qR h, qEq_qR h]
theorem qEq_qAt {S T : ST} (h : qEq S T) (b c p : Int) : qAt T b c p = qAt S b c p := by
  unfold qAt
  rw [qEq_qL h]
theorem qEq_moves {S T : ST} (h : qEq S T) (k : Int) : moves T k = moves S k := by
  unfold moves sOpen
  rw [h.1 6 (by omega), h.1 11 (by omega), h.1 0 (by omega), h.1 5 (by omega), h.1 9 (by omega), h.1 10 (by omega)]
theorem qEq_fit {S T : ST} (h : qEq S T) (I : Int → Bool) (c : Int) : fit T I c = fit S I c := by
  have eP : nP T = nP S := by unfold nP; rw [h.1 8 (by omega)]
  have ed : ∀ k x : Int, dK T k x = dK S k x := by
    intro k x
    unfold dK
    rw [h.1 9 (by omega), h.1 10 (by omega), h.1 11 (by omega), h.1 12 (by omega)]
  have ep : ∀ k x : Int, pK T k x = pK S k x := by
    intro k x
    unfold pK
    rw [h.1 9 (by omega), h.1 10 (by omega), h.1 11 (by omega), h.1 12 (by omega)]
  have eD : dS T I (nP S) = dS S I (nP S) := by
    funext x
    unfold dS
    exact suL_congr (fun k _ _ => by rw [ed])
  have eQ : pS T I (nP S) = pS S I (nP S) := by
    funext x
    unfold pS
    exact suL_congr (fun k _ _ => by rw [ep])
  unfold fit fiX shX paX
  rw [eP, eD, eQ, h.2.1, h.2.2, h.1 2 (by omega), h.1 3 (by omega)]
theorem qEq_qcond {S T : ST} (h : qEq S T) (b c : Int) : qcond T b c = qcond S b c := by
  unfold qcond
  rw [qEq_qAt h]
  congr 1
  unfold fstOk
  have ei : fstI T (qAt S b c 0) = fstI S (qAt S b c 0) := by
    unfold fstI
    rw [h.1 21 (by omega)]
  have ew : wrk T (fstI S (qAt S b c 0)) = wrk S (fstI S (qAt S b c 0)) := by
    unfold wrk wrkS nP
    rw [h.1 8 (by omega)]
    exact alB_congr (fun k _ _ => by rw [qEq_moves h])
  rw [ei, ew, qEq_fit h, qEq_fit h, qEq_fit h, h.1 21 (by omega), h.1 18 (by omega)]
theorem stab_q {S T : ST} (h : qEq S T) (hs : stab S) : stab T := fun b c b0 b1 c0 c1 => by rw [qEq_qcond h]; exact hs b c b0 b1 c0 c1
theorem qEq_pI (S : ST) {f : Nat} (k v : Int) (h : f = 7 ∨ f = 13 ∨ f = 15 ∨ f = 16 ∨ f = 17 ∨ f = 19 ∨ f = 20 ∨ (22 ≤ f)) : qEq S (pI S f k v) := ⟨fun g hg => pI_f _ _ _ (by omega), rfl, rfl⟩
theorem kEq_qEq {S T : ST} (h : kEq S T) : qEq S T := ⟨fun f hf => h.2 f (by omega) (by omega) (by omega) (by omega) (by omega), by rw [h.1], by rw [h.1]⟩
theorem kJ_join (S : ST) (k u : Int) : kJ S k u = sJoin S k u := by
  rw [Bool.eq_iff_iff]
  simp only [kJ, sJoin, sJ1, Bool.and_eq_true, Bool.not_eq_true', decide_eq_true_eq, decide_eq_false_iff_not]
  constructor
  · rintro ⟨⟨⟨⟨⟨⟨⟨h1, h2⟩, h3⟩, h4⟩, h5⟩, h6⟩, h7⟩, h8, h9⟩
    exact ⟨⟨⟨⟨⟨⟨⟨⟨⟨fun e => h7 (by rw [e]), h1⟩, h2⟩, h5⟩, h6⟩, h7⟩, h8⟩, h9⟩, h3⟩, h4⟩
  · rintro ⟨⟨⟨⟨⟨⟨⟨⟨⟨_, h1⟩, h2⟩, h5⟩, h6⟩, h7⟩, h8⟩, h9⟩, h3⟩, h4⟩
    exact ⟨⟨⟨⟨⟨⟨⟨h1, h2⟩, h3⟩, h4⟩, h5⟩, h6⟩, h7⟩, h8, h9⟩
theorem bI_nz {x : Int} (h : 0 ≤ x ∧ x ≤ 1) : bI (!decide (x = 0)) = x := by
  rcases (show x = 0 ∨ x = 1 by omega) with rfl | rfl <;> rfl
theorem nP_runs {S : ST} (ho : okS S) : nP (sRuns S).2 = nP S := by
  unfold nP
  rw [(sRuns_ok ho).2.2.2 8 (by unfold cht; decide)]
theorem sList_f (S : ST) (nm : Int) : ∀ n : Nat, sList S nm false n = (0, pI S 7 nm (bI false))
  | 0 => rfl
  | n + 1 => by
    have h := sList_f S nm n
    unfold sList at h ⊢
    rw [foS_s, h]
    rfl
