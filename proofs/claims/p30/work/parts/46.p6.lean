/-! an entry is kept: the picture with one entry more -/
def gno (G : gF) (i : Nat) : gF := fun j => if j = i then none else G j
theorem gno_n (G : gF) {i j : Nat} (h : j ≠ i) : gno G i j = G j := by simp [gno, h]
theorem gno_s (G : gF) (i : Nat) : gno G i i = none := by simp [gno]
theorem sEnt_f (S : ST) (b o c : Int) (v : Int64) (k : Int) {f : Nat} (h : f ≠ 31) : (sEnt S b o c v k).1 f = S.1 f := by
  unfold sEnt
  rw [pI_f _ _ _ h]
  rfl
theorem sEnt_31 (S : ST) (b o c : Int) (v : Int64) (k : Int) : (sEnt S b o c v k).1 31 0 = S.1 31 0 + 1 := by
  unfold sEnt
  rw [pI_s]
theorem sEnt_2 (S : ST) (b o c : Int) (v : Int64) (k : Int) {f : Nat} (h : f ≠ 32) : (sEnt S b o c v k).2 f = S.2 f := by
  unfold sEnt
  rw [pI_2, pL_f _ _ _ h, pL_f _ _ _ h, pL_f _ _ _ h, pL_f _ _ _ h, pL_f _ _ _ h]
theorem sEnt_32 (S : ST) (b o c : Int) (v : Int64) (k j : Int) : (sEnt S b o c v k).2 32 j = if j = 5 * S.1 31 0 + 4 then Int64.ofInt k else if j = 5 * S.1 31 0 + 3 then v else if j = 5 * S.1 31 0 + 2 then Int64.ofInt c else if j = 5 * S.1 31 0 + 1 then Int64.ofInt o else if j = 5 * S.1 31 0 then Int64.ofInt b else S.2 32 j := by
  unfold sEnt
  rw [pI_2, pL_fn, pL_fn, pL_fn, pL_fn, pL_fn]
/-- the addresses with the new entry, the book's row, its count of changes -/
def adK (bk : Nat → Nat) (n q q2 : Nat) : Nat → Nat := nx (nx (nx bk (2000 + n) q) 10 q2) 92 (bk 92 + 1)
theorem adK_o (bk : Nat → Nat) (n q q2 : Nat) {j : Nat} (h1 : j ≠ 2000 + n) (h2 : j ≠ 10) (h3 : j ≠ 92) : adK bk n q q2 j = bk j := by
  unfold adK
  rw [nx_n _ _ h3, nx_n _ _ h2, nx_n _ _ h1]
theorem adK_e (bk : Nat → Nat) (n q q2 : Nat) : adK bk n q q2 (2000 + n) = q := by
  unfold adK
  rw [nx_n _ _ (by omega), nx_n _ _ (by omega), nx_s]
theorem kO_keep {ad bk : Nat → Nat} {S : ST} {b o c k : Int} {v : Int64} {n q q2 i : Nat} (h8 : i ≠ 8) : kO ad (adK bk n q q2) (sEnt S b o c v k) i = kO ad bk S i := by
  unfold kO
  rw [sEnt_f S b o c v k (show (26 : Nat) ≠ 31 by decide), sEnt_f S b o c v k (show (0 : Nat) ≠ 31 by decide), sEnt_f S b o c v k (show (8 : Nat) ≠ 31 by decide)]
  split <;> first | rfl | exact absurd rfl h8
theorem kC_keep {cy : Nat → ClassId} {ad bk : Nat → Nat} {S : ST} {X : CX} {b o c k : Int} {v : Int64} {q q2 i : Nat} (hw : wf S) (h8 : i ≠ 8) (h10 : i ≠ 10) (hE : i ≠ 2000 + nE S) : kC cy ad (adK bk (nE S) q q2) (sEnt S b o c v k) X i = kC cy ad bk S X i := by
  have h31 := wf_31 hw 0
  have hn8 := wf_8 hw 0
  have eP : nP (sEnt S b o c v k) = nP S := by unfold nP; rw [sEnt_f S b o c v k (by decide)]
  have eE : nE (sEnt S b o c v k) = nE S + 1 := by unfold nE; rw [sEnt_31]; omega
  unfold kC
  rw [eP, eE]
  by_cases c1 : i < 10
  · rw [if_pos c1, if_pos c1, kO_keep h8]
  · rw [if_neg c1, if_neg c1, if_neg h10, if_neg h10]
    by_cases c3 : i = 11
    · rw [if_pos c3, if_pos c3]
      have : lsP ad (sEnt S b o c v k) = lsP ad S := by
        unfold lsP
        rw [eP]
      rw [this]
    · rw [if_neg c3, if_neg c3]
      by_cases c4 : 20 ≤ i ∧ i < 35
      · rw [if_pos c4, if_pos c4]
      · rw [if_neg c4, if_neg c4]
        by_cases c5 : 40 ≤ i ∧ i < 55
        · rw [if_pos c5, if_pos c5]
          have : kRow (sEnt S b o c v k) X (i - 40) = kRow S X (i - 40) := by
            unfold kRow
            rw [sEnt_2 S b o c v k (show (1 : Nat) ≠ 32 by decide), sEnt_2 S b o c v k (show (4 : Nat) ≠ 32 by decide), sEnt_f S b o c v k (show rowF (i - 40) ≠ 31 by unfold rowF; split <;> decide)]
          rw [this]
        · rw [if_neg c5, if_neg c5]
          by_cases c6 : 1000 ≤ i ∧ i < 1000 + 2 * nP S
          · rw [if_pos c6, if_pos c6]
            have hP : payF ad (sEnt S b o c v k) (((i - 1000) / 2 : Nat) : Int) = payF ad S (((i - 1000) / 2 : Nat) : Int) := by
              have hi : (i - 1000) / 2 < 60 := by unfold nP at c6; omega
              have w21 := wf_21 hw (((i - 1000) / 2 : Nat) : Int)
              unfold payF
              rw [sEnt_f S b o c v k (show (18 : Nat) ≠ 31 by decide), sEnt_f S b o c v k (show (21 : Nat) ≠ 31 by decide), sEnt_f S b o c v k (show (40 : Nat) ≠ 31 by decide), sEnt_f S b o c v k (show (19 : Nat) ≠ 31 by decide), sEnt_f S b o c v k (show (41 : Nat) ≠ 31 by decide), sEnt_f S b o c v k (show (42 : Nat) ≠ 31 by decide), sEnt_f S b o c v k (show (24 : Nat) ≠ 31 by decide)]
            have hT : trmF (sEnt S b o c v k) (((i - 1000) / 2 : Nat) : Int) = trmF S (((i - 1000) / 2 : Nat) : Int) := by
              unfold trmF
              rw [sEnt_f S b o c v k (show (9 : Nat) ≠ 31 by decide), sEnt_f S b o c v k (show (10 : Nat) ≠ 31 by decide), sEnt_f S b o c v k (show (11 : Nat) ≠ 31 by decide), sEnt_f S b o c v k (show (12 : Nat) ≠ 31 by decide), sEnt_f S b o c v k (show (13 : Nat) ≠ 31 by decide), sEnt_f S b o c v k (show (14 : Nat) ≠ 31 by decide), sEnt_f S b o c v k (show (15 : Nat) ≠ 31 by decide), sEnt_f S b o c v k (show (16 : Nat) ≠ 31 by decide), sEnt_f S b o c v k (show (17 : Nat) ≠ 31 by decide)]
            rw [hP, hT]
          · rw [if_neg c6, if_neg c6]
            by_cases c7 : 2000 ≤ i ∧ i < 2000 + nE S
            · rw [if_pos c7, if_pos (by omega), adK_o bk (nE S) q q2 hE (by omega) (by omega)]
              have hx : ((i - 2000 : Nat) : Int) < S.1 31 0 := by unfold nE at c7; omega
              have key : ∀ j : Int, 0 ≤ j → j ≤ 4 → (sEnt S b o c v k).2 32 (5 * ((i - 2000 : Nat) : Int) + j) = S.2 32 (5 * ((i - 2000 : Nat) : Int) + j) := by
                intro j j0 j4
                rw [sEnt_32, if_neg (by omega), if_neg (by omega), if_neg (by omega), if_neg (by omega), if_neg (by omega)]
              have k0 := key 0 (by omega) (by omega)
              rw [Int.add_zero] at k0
              unfold entF
              rw [k0, key 1 (by omega) (by omega), key 2 (by omega) (by omega), key 3 (by omega) (by omega), key 4 (by omega) (by omega)]
            · rw [if_neg c7, if_neg (by unfold nE at *; omega)]
theorem entF_new {S : ST} {b o c k : Int} {v : Int64} (hb : rI b) (ho : rI o) (hc : rI c) (hk : rI k) : entF (sEnt S b o c v k) (S.1 31 0) = [.int (iI b), .int (iI o), .int (iI c), .long v, .int (iI k)] := by
  unfold entF
  rw [sEnt_32, sEnt_32, sEnt_32, sEnt_32, sEnt_32]
  rw [if_neg (by omega), if_neg (by omega), if_neg (by omega), if_neg (by omega), if_pos rfl, if_neg (by omega), if_neg (by omega), if_neg (by omega), if_pos rfl, if_neg (by omega), if_neg (by omega), if_pos rfl, if_neg (by omega), if_pos rfl, if_pos rfl]
  rw [Int64.toInt_ofInt_of_le (by have := hb.1; omega) (by have := hb.2; omega), Int64.toInt_ofInt_of_le (by have := ho.1; omega) (by have := ho.2; omega), Int64.toInt_ofInt_of_le (by have := hc.1; omega) (by have := hc.2; omega), Int64.toInt_ofInt_of_le (by have := hk.1; omega) (by have := hk.2; omega)]
theorem kC_entN {cy : Nat → ClassId} {ad bk : Nat → Nat} {S : ST} {X : CX} {b o c k : Int} {v : Int64} (hw : wf S) : kC cy ad bk (sEnt S b o c v k) X (2000 + nE S) = some (bk (2000 + nE S), .inr (6, entF (sEnt S b o c v k) (S.1 31 0))) := by
  have h31 := wf_31 hw 0
  have hn8 := wf_8 hw 0
  have eP : nP (sEnt S b o c v k) = nP S := by unfold nP; rw [sEnt_f S b o c v k (by decide)]
  have eE : nE (sEnt S b o c v k) = nE S + 1 := by unfold nE; rw [sEnt_31]; omega
  unfold kC
  rw [eP, eE, if_neg (by omega), if_neg (by omega), if_neg (by omega), if_neg (by omega), if_neg (by omega), if_neg (by unfold nP; omega), if_pos (by omega), show ((2000 + nE S - 2000 : Nat) : Int) = S.1 31 0 by unfold nE; omega]
theorem kC_92 {cy : Nat → ClassId} {ad bk : Nat → Nat} {S : ST} {X : CX} : kC cy ad bk S X 92 = none := by
  unfold kC
  rw [if_neg (by omega), if_neg (by omega), if_neg (by omega), if_neg (by omega), if_neg (by omega), if_neg (by omega), if_neg (by omega)]
theorem adK_10 (bk : Nat → Nat) (n q q2 : Nat) : adK bk n q q2 10 = q2 := by
  unfold adK
  rw [nx_n _ _ (by decide), nx_s]
theorem adK_92 (bk : Nat → Nat) (n q q2 : Nat) : adK bk n q q2 92 = bk 92 + 1 := nx_s _ _ _
/-- the entry moves from its own place (50001) into the book -/
theorem gW_keep {D : va_G} {B0 : Nat} {H0 : State} {H : Heap} {locs : List Loc} {cy : Nat → ClassId} {ad bk : Nat → Nat} {S : ST} {X : CX} {G : gF} {b o c k : Int} {v : Int64} {q q2 : Nat} (hw : wf S) (hb : rI b) (ho : rI o) (hc : rI c) (hk : rI k) (hG : G 50001 = some (q, .inr (6, [.int (iI b), .int (iI o), .int (iI c), .long v, .int (iI k)])))
    (h : gW D B0 H0 (gup (gup (kW cy ad bk S X G) (100000 + 10) q2 (cO cy (kcap (nE S + 1)) (lsE (adK bk (nE S) q q2) (sEnt S b o c v k)))) (100000 + 8) (ad 8) (.inr (0, [.int (iI ((bk 92 : Int) + 1)), .ref q2, .int (iI (S.1 31 0 + 1))]))) H locs) :
    gW D B0 H0 (kW cy ad (adK bk (nE S) q q2) (sEnt S b o c v k) X (gno G 50001)) H locs := by
  have h31 := wf_31 hw 0
  have eE : nE (sEnt S b o c v k) = nE S + 1 := by unfold nE; rw [sEnt_31]; omega
  have hS := sEnt_31 S b o c v k
  have key : ∀ (x : Nat) (r : Nat × va_E), kW cy ad (adK bk (nE S) q q2) (sEnt S b o c v k) X (gno G 50001) x = some r → x ≠ 50001 ∧ gup (gup (kW cy ad bk S X G) (100000 + 10) q2 (cO cy (kcap (nE S + 1)) (lsE (adK bk (nE S) q q2) (sEnt S b o c v k)))) (100000 + 8) (ad 8) (.inr (0, [.int (iI ((bk 92 : Int) + 1)), .ref q2, .int (iI (S.1 31 0 + 1))])) (if x = 102000 + nE S then 50001 else x) = some r := by
    intro x r hx
    have hne : x ≠ 50001 := by
      intro e1
      rw [e1, kW_G (by decide), gno_s] at hx
      cases hx
    refine ⟨hne, ?_⟩
    by_cases e1 : x = 102000 + nE S
    · rw [if_pos e1, gup_n _ _ _ (by omega), gup_n _ _ _ (by omega), kW_G (by decide), hG]
      have h2 := kW_at (ad := ad) (bk := adK bk (nE S) q q2) (G := gno G 50001) (kC_entN (cy := cy) (ad := ad) (bk := adK bk (nE S) q q2) (X := X) (b := b) (o := o) (c := c) (k := k) (v := v) hw)
      rw [e1, show 102000 + nE S = 100000 + (2000 + nE S) by omega, h2, adK_e, entF_new hb ho hc hk] at hx
      exact hx
    · rw [if_neg e1]
      by_cases e8 : x = 100000 + 8
      · subst e8
        rw [gup_s]
        have h2 : kW cy ad (adK bk (nE S) q q2) (sEnt S b o c v k) X (gno G 50001) (100000 + 8) = some (ad 8, .inr (0, [.int (iI ((adK bk (nE S) q q2 92 : Nat) : Int)), .ref (adK bk (nE S) q q2 10), .int (iI ((sEnt S b o c v k).1 31 0))])) := kW_at rfl
        rw [h2, adK_10, adK_92, hS] at hx
        exact hx
      · rw [gup_n _ _ _ e8]
        by_cases e10 : x = 100000 + 10
        · subst e10
          rw [gup_s]
          have h2 := kW_at (ad := ad) (bk := adK bk (nE S) q q2) (G := gno G 50001) (kC_l10 (cy := cy) (ad := ad) (bk := adK bk (nE S) q q2) (S := sEnt S b o c v k) (X := X) (by rw [eE]; exact kcap_pos (by omega)))
          rw [h2, adK_10, eE] at hx
          exact hx
        · rw [gup_n _ _ _ e10]
          unfold kW at hx ⊢
          by_cases hi : 100000 ≤ x
          · rw [if_pos hi] at hx ⊢
            rw [kC_keep hw (by omega) (by omega) (by omega)] at hx
            exact hx
          · rw [if_neg hi] at hx ⊢
            rw [gno_n G hne] at hx
            exact hx
  refine ⟨h.1.via (fun x => if x = 102000 + nE S then 50001 else x) (fun x r hx => (key x r hx).2) (fun x y r r2 hx hy e => ?_), h.2⟩
  have k1 := (key x r hx).1
  have k2 := (key y r2 hy).1
  by_cases e1 : x = 102000 + nE S <;> by_cases e2 : y = 102000 + nE S
  · rw [e1, e2]
  · rw [if_pos e1, if_neg e2] at e; exact absurd e.symm k2
  · rw [if_neg e1, if_pos e2] at e; exact absurd e k1
  · rw [if_neg e1, if_neg e2] at e; exact e
