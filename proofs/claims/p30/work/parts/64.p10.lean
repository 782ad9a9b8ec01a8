/-! a payment comes: the picture with one payment more -/
def adP (ad : Nat → Nat) (n q t q2 : Nat) : Nat → Nat := nx (nx (nx (nx ad (1000 + 2 * n) q) (1001 + 2 * n) t) 11 q2) 93 (ad 93 + 1)
theorem adP_o (ad : Nat → Nat) (n q t q2 : Nat) {j : Nat} (h1 : j ≠ 1000 + 2 * n) (h2 : j ≠ 1001 + 2 * n) (h3 : j ≠ 11) (h4 : j ≠ 93) : adP ad n q t q2 j = ad j := by
  unfold adP
  rw [nx_n _ _ h4, nx_n _ _ h3, nx_n _ _ h2, nx_n _ _ h1]
theorem adP_q (ad : Nat → Nat) (n q t q2 : Nat) : adP ad n q t q2 (1000 + 2 * n) = q := by
  unfold adP
  rw [nx_n _ _ (by omega), nx_n _ _ (by omega), nx_n _ _ (by omega), nx_s]
theorem adP_t (ad : Nat → Nat) (n q t q2 : Nat) : adP ad n q t q2 (1001 + 2 * n) = t := by
  unfold adP
  rw [nx_n _ _ (by omega), nx_n _ _ (by omega), nx_s]
theorem adP_11 (ad : Nat → Nat) (n q t q2 : Nat) : adP ad n q t q2 11 = q2 := by
  unfold adP
  rw [nx_n _ _ (by decide), nx_s]
theorem adP_93 (ad : Nat → Nat) (n q t q2 : Nat) : adP ad n q t q2 93 = ad 93 + 1 := nx_s _ _ _
def opn (S T : ST) : Prop := T.2 = S.2 ∧ T.1 8 0 = S.1 8 0 + 1 ∧ (∀ f : Nat, f < 8 ∨ (25 ≤ f ∧ f ≤ 39) ∨ 43 ≤ f → T.1 f = S.1 f) ∧ ∀ (f : Nat) (j : Int), 9 ≤ f → j ≠ S.1 8 0 → T.1 f j = S.1 f j
theorem opn_n {S T : ST} (hw : wf S) (h : opn S T) : nP T = nP S + 1 ∧ nE T = nE S := by
  have h8 := wf_8 hw 0
  unfold nP nE
  rw [h.2.1, h.2.2.1 31 (by omega)]
  omega
theorem kC_open {cy : Nat → ClassId} {ad bk : Nat → Nat} {S T : ST} {X : CX} {q t q2 i : Nat} (hw : wf S) (hl : ∀ k : Int, 0 ≤ k → k < S.1 8 0 → S.1 21 k < S.1 8 0) (ho : opn S T) (h60 : S.1 8 0 < 60) (h9 : i ≠ 9) (h11 : i ≠ 11) (hq : i ≠ 1000 + 2 * nP S) (ht : i ≠ 1001 + 2 * nP S) : kC cy (adP ad (nP S) q t q2) bk T X i = kC cy ad bk S X i := by
  obtain ⟨eP, eE⟩ := opn_n hw ho
  obtain ⟨o1, o2, o3, o4⟩ := ho
  have hn8 := wf_8 hw 0
  have e : ∀ c : Nat, c < 1000 → c ≠ 11 → c ≠ 93 → adP ad (nP S) q t q2 c = ad c := fun c a b d => adP_o ad (nP S) q t q2 (by omega) (by omega) b d
  unfold kC
  rw [eP, eE]
  by_cases c1 : i < 10
  · rw [if_pos c1, if_pos c1]
    unfold kO
    rw [e 0 (by decide) (by decide) (by decide), e 1 (by decide) (by decide) (by decide), e 2 (by decide) (by decide) (by decide), e 3 (by decide) (by decide) (by decide), e 4 (by decide) (by decide) (by decide), e 5 (by decide) (by decide) (by decide), e 6 (by decide) (by decide) (by decide), e 7 (by decide) (by decide) (by decide), e 8 (by decide) (by decide) (by decide), e 9 (by decide) (by decide) (by decide), e 20 (by decide) (by decide) (by decide), e 21 (by decide) (by decide) (by decide), e 22 (by decide) (by decide) (by decide), e 23 (by decide) (by decide) (by decide), e 24 (by decide) (by decide) (by decide), e 25 (by decide) (by decide) (by decide), e 26 (by decide) (by decide) (by decide), e 27 (by decide) (by decide) (by decide), e 28 (by decide) (by decide) (by decide), e 29 (by decide) (by decide) (by decide), e 30 (by decide) (by decide) (by decide), e 31 (by decide) (by decide) (by decide), e 32 (by decide) (by decide) (by decide), e 33 (by decide) (by decide) (by decide), e 34 (by decide) (by decide) (by decide), o3 26 (by omega), o3 0 (by omega), o3 31 (by omega)]
    split <;> first | rfl | exact absurd rfl h9
  · rw [if_neg c1, if_neg c1]
    by_cases c2 : i = 10
    · rw [if_pos c2, if_pos c2]
      have : lsE bk T = lsE bk S := by unfold lsE; rw [eE]
      rw [this]
    · rw [if_neg c2, if_neg c2, if_neg h11, if_neg h11]
      by_cases c4 : 20 ≤ i ∧ i < 35
      · rw [if_pos c4, if_pos c4, e i (by omega) (by omega) (by omega), e (i + 20) (by omega) (by omega) (by omega)]
      · rw [if_neg c4, if_neg c4]
        by_cases c5 : 40 ≤ i ∧ i < 55
        · rw [if_pos c5, if_pos c5, e i (by omega) (by omega) (by omega)]
          have : kRow T X (i - 40) = kRow S X (i - 40) := by
            unfold kRow
            rw [o1, o3 (rowF (i - 40)) (by unfold rowF; split <;> omega)]
          rw [this]
        · rw [if_neg c5, if_neg c5]
          by_cases c6 : 1000 ≤ i ∧ i < 1000 + 2 * nP S
          · rw [if_pos c6, if_pos (by omega), adP_o ad (nP S) q t q2 (by omega) (by omega) (by omega) (by omega)]
            have hk : (((i - 1000) / 2 : Nat) : Int) ≠ S.1 8 0 := by unfold nP at c6; omega
            have hk0 : (((i - 1000) / 2 : Nat) : Int) < S.1 8 0 := by unfold nP at c6; omega
            have hP : payF (adP ad (nP S) q t q2) T (((i - 1000) / 2 : Nat) : Int) = payF ad S (((i - 1000) / 2 : Nat) : Int) := by
              have w21 := wf_21 hw (((i - 1000) / 2 : Nat) : Int)
              have l21 := hl (((i - 1000) / 2 : Nat) : Int) (by omega) hk0
              have hr : pR (adP ad (nP S) q t q2) (S.1 21 (((i - 1000) / 2 : Nat) : Int)) = pR ad (S.1 21 (((i - 1000) / 2 : Nat) : Int)) := by
                unfold pR
                split
                · rfl
                · rw [adP_o ad (nP S) q t q2 (by unfold nP; omega) (by omega) (by omega) (by omega)]
              unfold payF
              rw [o4 18 _ (by decide) hk, o4 21 _ (by decide) hk, o4 40 _ (by decide) hk, o4 19 _ (by decide) hk, o4 41 _ (by decide) hk, o4 42 _ (by decide) hk, o4 24 _ (by decide) hk, hr, adP_o ad (nP S) q t q2 (by omega) (by omega) (by omega) (by omega)]
            have hT : trmF T (((i - 1000) / 2 : Nat) : Int) = trmF S (((i - 1000) / 2 : Nat) : Int) := by
              unfold trmF
              rw [o4 9 _ (by decide) hk, o4 10 _ (by decide) hk, o4 11 _ (by decide) hk, o4 12 _ (by decide) hk, o4 13 _ (by decide) hk, o4 14 _ (by decide) hk, o4 15 _ (by decide) hk, o4 16 _ (by decide) hk, o4 17 _ (by decide) hk]
            rw [hP, hT]
          · rw [if_neg c6, if_neg (by omega)]
            by_cases c7 : 2000 ≤ i ∧ i < 2000 + nE S
            · rw [if_pos c7, if_pos c7]
              unfold entF
              rw [o1]
            · rw [if_neg c7, if_neg c7]
theorem kC_newP {cy : Nat → ClassId} {ad bk : Nat → Nat} {S T : ST} {X : CX} (hw : wf S) (ho : opn S T) : kC cy ad bk T X (1000 + 2 * nP S) = some (ad (1000 + 2 * nP S), .inr (8, payF ad T (S.1 8 0))) ∧ kC cy ad bk T X (1001 + 2 * nP S) = some (ad (1001 + 2 * nP S), .inr (11, trmF T (S.1 8 0))) := by
  obtain ⟨eP, eE⟩ := opn_n hw ho
  have hn8 := wf_8 hw 0
  constructor
  · unfold kC
    rw [eP, if_neg (by omega), if_neg (by omega), if_neg (by omega), if_neg (by omega), if_neg (by omega), if_pos (by omega), if_pos (by omega), show (((1000 + 2 * nP S - 1000) / 2 : Nat) : Int) = S.1 8 0 by unfold nP; omega]
  · unfold kC
    rw [eP, if_neg (by omega), if_neg (by omega), if_neg (by omega), if_neg (by omega), if_neg (by omega), if_pos (by omega), if_neg (by omega), show (((1001 + 2 * nP S - 1000) / 2 : Nat) : Int) = S.1 8 0 by unfold nP; omega]
/-- the payment and its terms move from their own places (50002, 50003) among the payments -/
theorem gW_open {D : va_G} {B0 : Nat} {H0 : State} {H : Heap} {locs : List Loc} {cy : Nat → ClassId} {ad bk : Nat → Nat} {S T : ST} {X : CX} {G : gF} {q t q2 : Nat} (hw : wf S) (hl : ∀ k : Int, 0 ≤ k → k < S.1 8 0 → S.1 21 k < S.1 8 0) (ho : opn S T) (h60 : S.1 8 0 < 60) (hG2 : G 50002 = none) (hG3 : G 50003 = some (t, .inr (11, trmF T (S.1 8 0))))
    (h : gW D B0 H0 (gup (gup (kW cy ad bk S X (gup G 50002 q (.inr (8, payF (adP ad (nP S) q t q2) T (S.1 8 0))))) (100000 + 11) q2 (cO cy (kcap (nP S + 1)) (lsP (adP ad (nP S) q t q2) T))) (100000 + 9) (ad 9) (.inr (0, [.int (iI ((ad 93 : Int) + 1)), .ref q2, .int (iI (S.1 8 0 + 1))]))) H locs) :
    gW D B0 H0 (kW cy (adP ad (nP S) q t q2) bk T X (gno G 50003)) H locs := by
  obtain ⟨eP, eE⟩ := opn_n hw ho
  have hn8 := wf_8 hw 0
  have hnP : nP S < 60 := by unfold nP; omega
  have hnew := kC_newP (cy := cy) (ad := adP ad (nP S) q t q2) (bk := bk) (X := X) hw ho
  have key : ∀ (x : Nat) (r : Nat × va_E), kW cy (adP ad (nP S) q t q2) bk T X (gno G 50003) x = some r → x ≠ 50002 ∧ x ≠ 50003 ∧ gup (gup (kW cy ad bk S X (gup G 50002 q (.inr (8, payF (adP ad (nP S) q t q2) T (S.1 8 0))))) (100000 + 11) q2 (cO cy (kcap (nP S + 1)) (lsP (adP ad (nP S) q t q2) T))) (100000 + 9) (ad 9) (.inr (0, [.int (iI ((ad 93 : Int) + 1)), .ref q2, .int (iI (S.1 8 0 + 1))])) (if x = 101000 + 2 * nP S then 50002 else if x = 101001 + 2 * nP S then 50003 else x) = some r := by
    intro x r hx
    have hne3 : x ≠ 50003 := by
      intro e1
      rw [e1, kW_G (by decide), gno_s] at hx
      cases hx
    have hne2 : x ≠ 50002 := by
      intro e1
      rw [e1, kW_G (by decide), gno_n G (by decide), hG2] at hx
      cases hx
    refine ⟨hne2, hne3, ?_⟩
    by_cases e1 : x = 101000 + 2 * nP S
    · rw [if_pos e1, gup_n _ _ _ (by omega), gup_n _ _ _ (by omega), kW_G (by decide), gup_s]
      have h2 := kW_at (ad := adP ad (nP S) q t q2) (bk := bk) (G := gno G 50003) hnew.1
      rw [e1, show 101000 + 2 * nP S = 100000 + (1000 + 2 * nP S) by omega, h2, adP_q] at hx
      exact hx
    · rw [if_neg e1]
      by_cases e2 : x = 101001 + 2 * nP S
      · rw [if_pos e2, gup_n _ _ _ (by omega), gup_n _ _ _ (by omega), kW_G (by decide), gup_n _ _ _ (by decide), hG3]
        have h2 := kW_at (ad := adP ad (nP S) q t q2) (bk := bk) (G := gno G 50003) hnew.2
        rw [e2, show 101001 + 2 * nP S = 100000 + (1001 + 2 * nP S) by omega, h2, adP_t] at hx
        exact hx
      · rw [if_neg e2]
        by_cases e9 : x = 100000 + 9
        · subst e9
          rw [gup_s]
          have h2 : kW cy (adP ad (nP S) q t q2) bk T X (gno G 50003) (100000 + 9) = some (adP ad (nP S) q t q2 9, .inr (0, [.int (iI ((adP ad (nP S) q t q2 93 : Nat) : Int)), .ref (adP ad (nP S) q t q2 11), .int (iI (T.1 8 0))])) := kW_at rfl
          rw [h2, adP_11, adP_93, ho.2.1, adP_o ad (nP S) q t q2 (by omega) (by omega) (by decide) (by decide)] at hx
          exact hx
        · rw [gup_n _ _ _ e9]
          by_cases e11 : x = 100000 + 11
          · subst e11
            rw [gup_s]
            have h2 := kW_at (ad := adP ad (nP S) q t q2) (bk := bk) (G := gno G 50003) (kC_l11 (cy := cy) (ad := adP ad (nP S) q t q2) (bk := bk) (S := T) (X := X) (by rw [eP]; exact kcap_pos (by omega)))
            rw [h2, adP_11, eP] at hx
            exact hx
          · rw [gup_n _ _ _ e11]
            unfold kW at hx ⊢
            by_cases hi : 100000 ≤ x
            · rw [if_pos hi] at hx ⊢
              rw [kC_open hw hl ho h60 (by omega) (by omega) (by omega) (by omega)] at hx
              exact hx
            · rw [if_neg hi] at hx ⊢
              rw [gno_n G hne3] at hx
              rw [gup_n _ _ _ hne2]
              exact hx
  refine ⟨h.1.via (fun x => if x = 101000 + 2 * nP S then 50002 else if x = 101001 + 2 * nP S then 50003 else x) (fun x r hx => (key x r hx).2.2) (fun x y r r2 hx hy e => ?_), h.2⟩
  have k1 := key x r hx
  have k2 := key y r2 hy
  have a1 := k1.1
  have a2 := k1.2.1
  have b1 := k2.1
  have b2 := k2.2.1
  have e : (if x = 101000 + 2 * nP S then 50002 else if x = 101001 + 2 * nP S then 50003 else x) = (if y = 101000 + 2 * nP S then 50002 else if y = 101001 + 2 * nP S then 50003 else y) := e
  split at e <;> split at e <;> (try split at e) <;> (try split at e) <;> omega
