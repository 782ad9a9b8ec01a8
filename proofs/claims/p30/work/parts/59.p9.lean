/-! settleFirst of the class is the reference's; who is taken out; the set that is settled of most -/
/-- legs: in range, of another one -/
def legW (S : ST) : Prop := ∀ k : Int, 0 ≤ k → k < S.1 8 0 → S.1 21 k = -1 ∨ (0 ≤ S.1 21 k ∧ S.1 21 k < S.1 8 0 ∧ S.1 21 k ≠ k)
theorem fit3 {S : ST} {I : Int → Bool} {c d : Int} (hw : wf S) (hc : 0 ≤ c ∧ c ≤ 2) (hd : 0 ≤ d ∧ d ≤ 2) (h : ∀ j : Int, 0 ≤ j → j < nP S → I j = true → S.1 11 j = c ∨ S.1 11 j = d) : (fit S I 0 && fit S I 1 && fit S I 2) = (fit S I d && fit S I c) := by
  have key : ∀ e : Int, 0 ≤ e → e ≤ 2 → fit S I d = true → fit S I c = true → fit S I e = true := by
    intro e e0 e2 h1 h2
    by_cases ec : e = c
    · rw [ec]; exact h2
    · by_cases ed : e = d
      · rw [ed]; exact h1
      · exact fit_none hw ⟨e0, e2⟩ (fun j j0 j1 hj he => by rcases h j j0 j1 hj with q | q <;> omega)
  rw [Bool.eq_iff_iff, Bool.and_eq_true, Bool.and_eq_true, Bool.and_eq_true]
  constructor
  · rintro ⟨⟨h0, h1⟩, h2⟩
    have all : ∀ e : Int, 0 ≤ e → e ≤ 2 → fit S I e = true := by
      intro e e0 e2
      rcases (show e = 0 ∨ e = 1 ∨ e = 2 by omega) with q | q | q <;> rw [q] <;> assumption
    exact ⟨all d hd.1 hd.2, all c hc.1 hc.2⟩
  · rintro ⟨h1, h2⟩
    exact ⟨⟨key 0 (by omega) (by omega) h1 h2, key 1 (by omega) (by omega) h1 h2⟩, key 2 (by omega) (by omega) h1 h2⟩
theorem wrk_iff {S : ST} {I : Int → Bool} : wrk S I = true ↔ ∀ j : Int, 0 ≤ j → j < nP S → I j = true → moves S j = true := by
  unfold wrk wrkS
  rw [alB_iff]
  constructor
  · intro h j j0 j1 hj
    have := h j j0 j1
    rw [hj] at this
    simpa using this
  · intro h j j0 j1
    cases hj : I j with
    | false => rfl
    | true => rw [h j j0 j1 hj]; rfl
theorem kM1_f {S : ST} (hw : wf S) (I : Int → Bool) {k : Int} (h21 : S.1 21 k = -1) : ∀ j : Int, 0 ≤ j → j < nP S → kM1 I k j = fstI S k j := by
  intro j j0 j1
  have h := nP_le hw
  unfold kM1 iup kCl fstI
  by_cases e : j = k
  · simp [e]
  · rw [if_neg e, if_pos (by omega), h21]
    have : ¬ j = -1 := by omega
    simp [e, this]
theorem kM2_f {S : ST} (hw : wf S) (I : Int → Bool) {k : Int} : ∀ j : Int, 0 ≤ j → j < nP S → kM2 I k (S.1 21 k) j = fstI S k j := by
  intro j j0 j1
  have h := nP_le hw
  unfold kM2 kM1 iup kCl fstI
  by_cases e2 : j = S.1 21 k
  · simp [e2]
  · rw [if_neg e2]
    by_cases e : j = k
    · simp [e]
    · rw [if_neg e, if_pos (by omega)]
      simp [e, e2]
theorem kSF_eq {S : ST} (ho : okS S) (hl : legW S) (I : Int → Bool) (a q : Int → Int64) (b c : Int) (hc : 0 ≤ c ∧ c ≤ 2) : kSFn S (kSF S I a q b c) = (sFirst S b c).1 ∧ kSFs S (kSF S I a q b c) = (sFirst S b c).2 := by
  have hw := ho.1
  have h8 := wf_8 hw 0
  have hp60 := nP_le hw
  have hnP : (nP S : Int) = S.1 8 0 := by unfold nP; omega
  have hq := qAt_r hw (rfl : qAt S b c 0 = _)
  unfold kSF
  dsimp only
  rw [kNx_first hw]
  obtain ⟨k, hk⟩ : ∃ k, k = qAt S b c 0 := ⟨_, rfl⟩
  rw [← hk] at hq ⊢
  by_cases e : k = -1
  · rw [if_pos e, sFirst_no hk (Or.inl e)]; exact ⟨rfl, rfl⟩
  · rw [if_neg e]
    obtain ⟨k0, k1, k18, k9, k11⟩ := hq.resolve_left e
    have no : ∀ x : Option (Int → Bool), x = none → fstOk S k = false → kSFn S x = (sFirst S b c).1 ∧ kSFs S x = (sFirst S b c).2 := by
      intro x hx hf
      unfold sFirst
      rw [← hk, hf, hx, Bool.and_false, if_neg (by decide)]; exact ⟨rfl, rfl⟩
    have go : ∀ J : Int → Bool, (∀ j : Int, 0 ≤ j → j < nP S → J j = fstI S k j) → fstOk S k = true → kSFn S (some J) = (sFirst S b c).1 ∧ kSFs S (some J) = (sFirst S b c).2 := by
      intro J hJ hf
      unfold sFirst
      rw [← hk, hf, decide_eq_false e, if_pos (by rfl)]
      exact ⟨cnB_congr hJ, sSets_congr hJ⟩
    have hmk : moves S k = false → fstOk S k = false := by
      intro hm
      unfold fstOk
      have hx : wrk S (fstI S k) = false := by
        cases hx : wrk S (fstI S k) with
        | false => rfl
        | true =>
          have := wrk_iff.mp hx k k0 (by omega) (by simp [fstI])
          rw [hm] at this; cases this
      rw [hx, Bool.and_false]; rfl
    by_cases m1 : moves S k = false
    · rw [if_pos m1]; exact no none rfl (hmk m1)
    · rw [if_neg m1]
      have m1' : moves S k = true := by simpa using m1
      have hcl : kCl I k = false := by unfold kCl; rw [if_pos (by omega)]
      have hb1 := bInv_put (bInv_0 hw I a q) k0 (by omega) hcl
      by_cases l1 : S.1 21 k = -1
      · rw [if_pos l1]
        have hJ := kM1_f hw I l1
        have hfit : kFit S (kD1 S a k) (kE1 S q k) c = fit S (fstI S k) c := (bInv_fi hw hb1 hc).trans (fit_congr hc hJ)
        have hfo : fstOk S k = fit S (fstI S k) c := by
          unfold fstOk
          have hwk : wrk S (fstI S k) = true := wrk_iff.mpr (fun j j0 j1 hj => by
            simp only [fstI, Bool.or_eq_true, decide_eq_true_eq] at hj
            rcases hj with hj | hj
            · rw [hj]; exact m1'
            · omega)
          rw [hwk, decide_eq_true l1, Bool.true_or, Bool.true_and, Bool.true_and, fit3 (c := c) (d := c) hw hc hc (fun j j0 j1 hj => by
            simp only [fstI, Bool.or_eq_true, decide_eq_true_eq] at hj
            rcases hj with hj | hj
            · rw [hj]; exact Or.inl k11
            · omega), Bool.and_self]
        rw [hfit]
        by_cases hf : fit S (fstI S k) c = true
        · rw [if_pos hf]; exact go _ hJ (hfo.trans hf)
        · rw [if_neg hf]; exact no none rfl (by rw [hfo]; simpa using hf)
      · rw [if_neg l1]
        obtain ⟨u0, u1, u2⟩ := (hl k k0 k1).resolve_left l1
        by_cases l2 : ¬ S.1 18 (S.1 21 k) = 2
        · rw [if_pos l2]
          exact no none rfl (by unfold fstOk; rw [decide_eq_false l1, decide_eq_false l2]; rfl)
        · rw [if_neg l2]
          have l2' : S.1 18 (S.1 21 k) = 2 := by omega
          by_cases m2 : moves S (S.1 21 k) = false
          · rw [if_pos m2]
            refine no none rfl ?_
            unfold fstOk
            have hx : wrk S (fstI S k) = false := by
              cases hx : wrk S (fstI S k) with
              | false => rfl
              | true =>
                have := wrk_iff.mp hx (S.1 21 k) u0 (by omega) (by simp [fstI])
                rw [m2] at this; cases this
            rw [hx, Bool.and_false]; rfl
          · rw [if_neg m2]
            have m2' : moves S (S.1 21 k) = true := by simpa using m2
            have hJ : ∀ j : Int, 0 ≤ j → j < nP S → kM2 I k (S.1 21 k) j = fstI S k j := kM2_f hw I
            have hM1 : kM1 I k (S.1 21 k) = false := by
              unfold kM1 iup
              rw [if_neg u2]
              unfold kCl
              rw [if_pos (by omega)]
            have hb2 := bInv_put hb1 u0 (by omega) hM1
            have w11 := wf_11 hw (S.1 21 k)
            have f1 : kFit S (kD2 S a k (S.1 21 k)) (kE2 S q k (S.1 21 k)) (S.1 11 (S.1 21 k)) = fit S (fstI S k) (S.1 11 (S.1 21 k)) := (bInv_fi hw hb2 w11).trans (fit_congr w11 hJ)
            have f2 : kFit S (kD2 S a k (S.1 21 k)) (kE2 S q k (S.1 21 k)) c = fit S (fstI S k) c := (bInv_fi hw hb2 hc).trans (fit_congr hc hJ)
            have hfo : fstOk S k = (fit S (fstI S k) (S.1 11 (S.1 21 k)) && fit S (fstI S k) c) := by
              unfold fstOk
              have hwk : wrk S (fstI S k) = true := wrk_iff.mpr (fun j j0 j1 hj => by
                simp only [fstI, Bool.or_eq_true, decide_eq_true_eq] at hj
                rcases hj with hj | hj
                · rw [hj]; exact m1'
                · rw [hj]; exact m2')
              rw [hwk, decide_eq_true l2', Bool.or_true, Bool.true_and, Bool.true_and, fit3 (c := c) (d := S.1 11 (S.1 21 k)) hw hc w11 (fun j j0 j1 hj => by
                simp only [fstI, Bool.or_eq_true, decide_eq_true_eq] at hj
                rcases hj with hj | hj
                · rw [hj]; exact Or.inl k11
                · rw [hj]; exact Or.inr rfl)]
            rw [f1, f2]
            by_cases g1 : fit S (fstI S k) (S.1 11 (S.1 21 k)) = false
            · rw [if_pos g1]; exact no none rfl (by rw [hfo, g1]; rfl)
            · rw [if_neg g1]
              have g1' : fit S (fstI S k) (S.1 11 (S.1 21 k)) = true := by simpa using g1
              by_cases g2 : fit S (fstI S k) c = true
              · rw [if_pos g2]; exact go _ hJ (by rw [hfo, g1', g2]; rfl)
              · rw [if_neg g2]; exact no none rfl (by rw [hfo]; simp [g2])
/-! who is taken out -/
theorem kLa_la (S : ST) (I : Int → Bool) (b u : Int) (q : Bool) : ∀ n : Nat, kLa S I b u q n = laS S I b u q n
  | 0 => rfl
  | n + 1 => by
    have hr := kLa_r S I b u q n
    rw [kLa_s, laS_s, ← kLa_la S I b u q n]
    generalize kLa S I b u q n = x at hr
    unfold kLaB laN
    have e : kBeh S n x = decide (S.1 14 (n : Int) ≤ S.1 14 x) := by
      rw [Bool.eq_iff_iff, kBeh_iff, decide_eq_true_eq]
      omega
    rw [e]
theorem fiF_some {p : Int → Bool} {n : Nat} {k : Int} (h : fiF p n = k) (hk : k ≠ -1) : 0 ≤ k ∧ k < n ∧ p k = true ∧ ∀ j : Int, 0 ≤ j → j < k → p j = false := by
  induction n with
  | zero => exact absurd h.symm hk
  | succ n ih =>
    unfold fiF at h
    by_cases e : fiF p n = -1
    · rw [if_pos e] at h
      by_cases hp : p n = true
      · rw [if_pos hp] at h
        subst h
        exact ⟨by omega, by omega, hp, fun j j0 j1 => fiF_none.mp e j j0 j1⟩
      · rw [if_neg hp] at h
        exact absurd h.symm hk
    · rw [if_neg e] at h
      obtain ⟨h1, h2, h3⟩ := ih h
      exact ⟨h1, by omega, h3⟩
theorem foS_last {P : Int → Bool} {v : Int → Int} {o m : Int} (hP : P m = true) : ∀ {n : Nat}, 0 ≤ m → m < n → (∀ j : Int, m < j → j < n → P j = false) → foS (fun k r => if P k = true then v k else r) o n = v m
  | 0, h0, h1, _ => by omega
  | n + 1, h0, h1, h => by
    show (if P n = true then v n else foS (fun k r => if P k = true then v k else r) o n) = v m
    by_cases e : m = n
    · rw [← e, if_pos hP]
    · rw [if_neg (by rw [h n (by omega) (by omega)]; decide)]
      exact foS_last hP h0 (by omega) (fun j a b => h j a (by omega))
theorem kOut_eq {S : ST} {I : Int → Bool} {a q : Int → Int64} {c : Int} {bq : Bool} (hw : wf S) (hc : 0 ≤ c ∧ c ≤ 2) (h : bInv S I a q) : kOut S I a q c bq = if fit S I c = true then -1 else outO S I c bq := by
  have e0 : outO S I c bq = outX S a q I c bq := outX_congr hc (fun x x0 x1 => (h.1 x x0 x1).symm) (fun x x0 x1 => (h.2 x x0 x1).symm)
  rw [← bInv_fi hw h hc, e0]
  have hsh : ∀ b : Int, kLow S (3 * b + c) (a (3 * b + c)) = shX S a b c := fun b => kLow_sh S a b c
  have hpa : ∀ b u : Int, kPa S q b u c = paX S q b u c := fun b u => kPa_pa hw q b u c
  unfold kOut
  rw [kLa_la, kLa_la]
  by_cases hL : kLo S c a = -1
  · rw [if_pos hL]
    have hns : ∀ b : Int, 0 ≤ b → b < 6 → shX S a b c = false := fun b b0 b1 => by rw [← hsh]; exact fiF_none.mp hL b b0 b1
    have hA : shA S a c = false := by
      cases hx : shA S a c with
      | false => rfl
      | true =>
        obtain ⟨b, b0, b1, b2⟩ := shA_iff.mp hx
        rw [hns b b0 b1] at b2; cases b2
    by_cases hP : kPA S q c = -1
    · have hf : kFit S a q c = true := by
        unfold kFit
        rw [decide_eq_true hL, Bool.true_and, alB_iff]
        intro b b0 b1
        have h1 := fiF_none.mp hP b b0 b1
        have h2 : kPB S q c b = -1 := by simpa using h1
        rw [alB_iff]
        intro u u0 u1
        rw [fiF_none.mp h2 u u0 u1]; rfl
      rw [if_pos hP, if_pos hf]
    · obtain ⟨b0, b1, b2, b3⟩ := fiF_some (rfl : kPA S q c = _) hP
      have hB : kPB S q c (kPA S q c) ≠ -1 := by simpa using b2
      obtain ⟨u0, u1, u2, u3⟩ := fiF_some (rfl : kPB S q c (kPA S q c) = _) hB
      have hf : ¬ kFit S a q c = true := by
        intro hf
        unfold kFit at hf
        rw [Bool.and_eq_true, alB_iff] at hf
        have h1 := (alB_iff _ _).mp (hf.2 _ b0 b1) _ u0 u1
        rw [u2] at h1; cases h1
      rw [if_neg hP, if_neg hf]
      unfold outX
      rw [hA, if_neg (by decide)]
      unfold o2X
      generalize kPB S q c (kPA S q c) = u at *
      generalize kPA S q c = b at *
      rw [foS_last (P := fun k => paX S q ((35 - k) / 6) ((35 - k) % 6) c) (v := fun k => laS S I ((35 - k) / 6) ((35 - k) % 6) bq (nP S)) (m := 35 - (6 * b + u))]
      · rw [show (35 - (35 - (6 * b + u))) / 6 = b by omega, show (35 - (35 - (6 * b + u))) % 6 = u by omega]
      · rw [show (35 - (35 - (6 * b + u))) / 6 = b by omega, show (35 - (35 - (6 * b + u))) % 6 = u by omega, ← hpa]; exact u2
      · omega
      · omega
      · intro j j0 j1
        have hj1 : j < 36 := j1
        show paX S q ((35 - j) / 6) ((35 - j) % 6) c = false
        rw [← hpa]
        by_cases e : (35 - j) / 6 = b
        · rw [e]
          exact u3 _ (by omega) (by omega)
        · have h1 := b3 ((35 - j) / 6) (by omega) (by omega)
          have h2 : kPB S q c ((35 - j) / 6) = -1 := by simpa using h1
          exact fiF_none.mp h2 _ (by omega) (by omega)
  · obtain ⟨b0, b1, b2, b3⟩ := fiF_some (rfl : kLo S c a = _) hL
    have hf : ¬ kFit S a q c = true := by
      intro hf
      unfold kFit at hf
      rw [Bool.and_eq_true, decide_eq_true_eq] at hf
      exact hL hf.1
    rw [if_neg hL, if_neg hf]
    have hA : shA S a c = true := shA_iff.mpr ⟨_, b0, b1, by rw [← hsh]; exact b2⟩
    unfold outX
    rw [hA, if_pos rfl]
    unfold o1X
    generalize kLo S c a = b at *
    rw [foS_last (P := fun k => shX S a (5 - k) c) (v := fun k => laS S I (5 - k) (-1) bq (nP S)) (m := 5 - b)]
    · rw [show 5 - (5 - b) = b by omega]
    · rw [show 5 - (5 - b) = b by omega, ← hsh]; exact b2
    · omega
    · omega
    · intro j j0 j1
      have hj1 : j < 6 := j1
      show shX S a (5 - j) c = false
      rw [← hsh]
      exact b3 _ (by omega) (by omega)
/-! the set of most -/
def mostC (S : ST) (s c k : Int) : Bool := (decide (S.1 18 k = s) && decide (S.1 11 k = c)) && decide (S.1 21 k = -1) && moves S k
def mostI (S : ST) (s c : Int) : Int → Bool := fun k => decide (k < S.1 8 0) && mostC S s c k
def sMost (S : ST) (s c : Int) (bq : Bool) : Int × ST := sRedS S (mostI S s c) c bq
theorem sRedN_fit {S : ST} {c : Int} {q : Bool} {I : Int → Bool} {n : Nat} (h : fit S I c = true) : sRedN S c q n I = I := by
  cases n with
  | zero => rfl
  | succ n => unfold sRedN; rw [if_pos h]
theorem cnB_0 {I : Int → Bool} {n : Nat} (h : cnB I n ≤ 0) : ∀ j : Int, 0 ≤ j → j < n → I j = false := by
  intro j j0 j1
  cases hj : I j with
  | false => rfl
  | true =>
    have h1 := cnB_iup (I := I) (k := j) (n := n) j0 j1 hj
    have h2 := cnB_nn (iup I j false) n
    omega
theorem cnB_none {I : Int → Bool} : ∀ {n : Nat}, (∀ j : Int, 0 ≤ j → j < n → I j = false) → cnB I n = 0
  | 0, _ => rfl
  | n + 1, h => by rw [cnB_s, cnB_none (fun j a b => h j a (by omega)), h n (by omega) (by omega)]; rfl
theorem sSets_none {S : ST} {I : Int → Bool} : ∀ {n : Nat}, (∀ j : Int, 0 ≤ j → j < n → I j = false) → sSets S I n = S
  | 0, _ => rfl
  | n + 1, h => by rw [sSets_s, h n (by omega) (by omega), if_neg (by decide)]; exact sSets_none (fun j a b => h j a (by omega))
theorem sRedS_none {S : ST} {I : Int → Bool} {c : Int} {q : Bool} (hw : wf S) (hc : 0 ≤ c ∧ c ≤ 2) (h : ∀ j : Int, 0 ≤ j → j < nP S → I j = false) : sRedS S I c q = (0, S) := by
  unfold sRedS sRed
  rw [sRedN_fit (fit_none hw hc (fun j a b hj => by rw [h j a b] at hj; cases hj)), cnB_none h, sSets_none h]
theorem sMost_no {S : ST} {s c : Int} {bq : Bool} (hw : wf S) (hc : 0 ≤ c ∧ c ≤ 2) (h : sOpen S c (S.1 0 0) = false) : sMost S s c bq = (0, S) := by
  refine sRedS_none hw hc (fun j j0 j1 => ?_)
  cases hx : mostI S s c j with
  | false => rfl
  | true =>
    simp only [mostI, mostC, moves, Bool.and_eq_true, decide_eq_true_eq] at hx
    rw [hx.2.1.1.2, h] at hx
    exact absurd hx.2.2.1.1 (by decide)
theorem sMost_off {S : ST} {c : Int} (hw : wf S) (hc : 0 ≤ c ∧ c ≤ 2) : sMost S 2 c true = sOff S c := by
  unfold sOff
  by_cases h : sOpen S c (S.1 0 0) = true
  · rw [if_pos h]
    refine sRedS_congr hc (fun j j0 j1 => ?_)
    rw [Bool.eq_iff_iff]
    simp only [mostI, mostC, moves, offI, Bool.and_eq_true, decide_eq_true_eq]
    constructor
    · rintro ⟨h1, ⟨⟨h2, h3⟩, h4⟩, ⟨h5, h6⟩, h7⟩
      exact ⟨⟨⟨⟨⟨h1, h2⟩, h3⟩, h4⟩, h6⟩, h7⟩
    · rintro ⟨⟨⟨⟨⟨h1, h2⟩, h3⟩, h4⟩, h6⟩, h7⟩
      exact ⟨h1, ⟨⟨h2, h3⟩, h4⟩, ⟨by rw [h3]; exact h, h6⟩, h7⟩
  · rw [if_neg h]
    exact sMost_no hw hc (by simpa using h)
theorem sMost_cut {S : ST} {c : Int} (hw : wf S) (hc : 0 ≤ c ∧ c ≤ 2) (hl : lg4 S) (h : sOpen S c (S.1 0 0) = true) : sMost S 3 c false = sCut S c := by
  have h8 := wf_8 hw 0
  refine sRedS_congr hc (fun j j0 j1 => ?_)
  have j1' : j < S.1 8 0 := by unfold nP at j1; omega
  rw [Bool.eq_iff_iff]
  simp only [mostI, mostC, moves, netI, Bool.and_eq_true, decide_eq_true_eq]
  constructor
  · rintro ⟨h1, ⟨⟨h2, h3⟩, h4⟩, ⟨h5, h6⟩, h7⟩
    exact ⟨⟨⟨⟨h1, h2⟩, h3⟩, h6⟩, h7⟩
  · rintro ⟨⟨⟨⟨h1, h2⟩, h3⟩, h6⟩, h7⟩
    refine ⟨h1, ⟨⟨h2, h3⟩, ?_⟩, ⟨by rw [h3]; exact h, h6⟩, h7⟩
    rcases hl j j0 j1' with q | ⟨_, q, _⟩
    · exact q
    · exact absurd h2 q
theorem sMost_ed1 {S : ST} {c n : Int} (hw : wf S) (hc : 0 ≤ c ∧ c ≤ 2) (hl : lg4 S) : ed1 c (n, S) = (n + (sMost S 3 c false).1, (sMost S 3 c false).2) := by
  unfold ed1
  by_cases h : sOpen S c (S.1 0 0) = true
  · rw [if_pos h, sMost_cut hw hc hl h]
  · rw [if_neg h, sMost_no hw hc (by simpa using h)]
/-- one taken out: the set that is left in the end is the same -/
theorem sRed_step {S : ST} {I J : Int → Bool} {c : Int} {q : Bool} {n : Nat} (h : fit S J c = false) : sRedN S c q (n + 1) J = sRedN S c q n (iup J (outO S J c q) false) := by
  conv => lhs; unfold sRedN
  rw [if_neg (by rw [h]; decide)]
/-! fees -/
def fd41 (S : ST) : Prop := ∀ k : Int, 0 ≤ k → k < S.1 8 0 → S.1 18 k = 4 → S.1 41 k = S.1 22 k
theorem kFee_s {S : ST} (hw : wf S) (h : fd41 S) (b c : Int) : kFee S b c (S.1 0 0) (nP S) = sFee S b c (nP S) := by
  have h8 := wf_8 hw 0
  refine suI_congr (fun k k0 k1 => ?_)
  have k1' : k < S.1 8 0 := by unfold nP at k1; omega
  unfold kFeK feK
  have e : kFeB S b c (S.1 0 0) k = feB S b c k := by
    rw [Bool.eq_iff_iff]
    simp only [kFeB, feB, Bool.and_eq_true, decide_eq_true_eq]
    constructor
    · rintro ⟨⟨⟨h1, h2⟩, h3⟩, h4⟩
      exact ⟨⟨⟨h1, by rw [← h k k0 k1' h1]; exact h4⟩, h3⟩, h2⟩
    · rintro ⟨⟨⟨h1, h2⟩, h3⟩, h4⟩
      exact ⟨⟨⟨h1, h4⟩, h3⟩, by rw [h k k0 k1' h1]; exact h2⟩
  rw [e]
  cases feB S b c k <;> simp
