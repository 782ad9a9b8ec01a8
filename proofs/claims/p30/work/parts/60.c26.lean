theorem lp_v3 {A1 A2 A3 : Type} {Wg : A1 → A2 → A3 → Heap → List Loc → Array Slot → Prop} (I : A1 → A2 → A3 → Heap → List Loc → Array Slot → Prop) (μ : A1 → A2 → A3 → Nat) (hs : ∀ (a1 : A1) (a2 : A2) (a3 : A3) (H : Heap) (locs : List Loc) (ls : Array Slot), I a1 a2 a3 H locs ls → (∀ (b1 : A1) (b2 : A2) (b3 : A3) (H' : Heap) (locs' : List Loc) (ls' : Array Slot), μ b1 b2 b3 < μ a1 a2 a3 → I b1 b2 b3 H' locs' ls' → Wg b1 b2 b3 H' locs' ls') → Wg a1 a2 a3 H locs ls) : ∀ (a1 : A1) (a2 : A2) (a3 : A3) (H : Heap) (locs : List Loc) (ls : Array Slot), I a1 a2 a3 H locs ls → Wg a1 a2 a3 H locs ls :=
  fun a1 a2 a3 => lp_v1 (A1 := A1 × A2 × A3) (Wg := fun a => Wg a.1 a.2.1 a.2.2) (fun a => I a.1 a.2.1 a.2.2) (fun a => μ a.1 a.2.1 a.2.2) (fun a H locs ls hI ih => hs a.1 a.2.1 a.2.2 H locs ls hI (fun b1 b2 b3 => ih (b1, b2, b3))) (a1, a2, a3)
theorem lp_v4 {A1 A2 A3 A4 : Type} {Wg : A1 → A2 → A3 → A4 → Heap → List Loc → Array Slot → Prop} (I : A1 → A2 → A3 → A4 → Heap → List Loc → Array Slot → Prop) (μ : A1 → A2 → A3 → A4 → Nat) (hs : ∀ (a1 : A1) (a2 : A2) (a3 : A3) (a4 : A4) (H : Heap) (locs : List Loc) (ls : Array Slot), I a1 a2 a3 a4 H locs ls → (∀ (b1 : A1) (b2 : A2) (b3 : A3) (b4 : A4) (H' : Heap) (locs' : List Loc) (ls' : Array Slot), μ b1 b2 b3 b4 < μ a1 a2 a3 a4 → I b1 b2 b3 b4 H' locs' ls' → Wg b1 b2 b3 b4 H' locs' ls') → Wg a1 a2 a3 a4 H locs ls) : ∀ (a1 : A1) (a2 : A2) (a3 : A3) (a4 : A4) (H : Heap) (locs : List Loc) (ls : Array Slot), I a1 a2 a3 a4 H locs ls → Wg a1 a2 a3 a4 H locs ls :=
  fun a1 a2 a3 a4 => lp_v1 (A1 := A1 × A2 × A3 × A4) (Wg := fun a => Wg a.1 a.2.1 a.2.2.1 a.2.2.2) (fun a => I a.1 a.2.1 a.2.2.1 a.2.2.2) (fun a => μ a.1 a.2.1 a.2.2.1 a.2.2.2) (fun a H locs ls hI ih => hs a.1 a.2.1 a.2.2.1 a.2.2.2 H locs ls hI (fun b1 b2 b3 b4 => ih (b1, b2, b3, b4))) (a1, a2, a3, a4)
theorem lp_v5 {A1 A2 A3 A4 A5 : Type} {Wg : A1 → A2 → A3 → A4 → A5 → Heap → List Loc → Array Slot → Prop} (I : A1 → A2 → A3 → A4 → A5 → Heap → List Loc → Array Slot → Prop) (μ : A1 → A2 → A3 → A4 → A5 → Nat) (hs : ∀ (a1 : A1) (a2 : A2) (a3 : A3) (a4 : A4) (a5 : A5) (H : Heap) (locs : List Loc) (ls : Array Slot), I a1 a2 a3 a4 a5 H locs ls → (∀ (b1 : A1) (b2 : A2) (b3 : A3) (b4 : A4) (b5 : A5) (H' : Heap) (locs' : List Loc) (ls' : Array Slot), μ b1 b2 b3 b4 b5 < μ a1 a2 a3 a4 a5 → I b1 b2 b3 b4 b5 H' locs' ls' → Wg b1 b2 b3 b4 b5 H' locs' ls') → Wg a1 a2 a3 a4 a5 H locs ls) : ∀ (a1 : A1) (a2 : A2) (a3 : A3) (a4 : A4) (a5 : A5) (H : Heap) (locs : List Loc) (ls : Array Slot), I a1 a2 a3 a4 a5 H locs ls → Wg a1 a2 a3 a4 a5 H locs ls :=
  fun a1 a2 a3 a4 a5 => lp_v1 (A1 := A1 × A2 × A3 × A4 × A5) (Wg := fun a => Wg a.1 a.2.1 a.2.2.1 a.2.2.2.1 a.2.2.2.2) (fun a => I a.1 a.2.1 a.2.2.1 a.2.2.2.1 a.2.2.2.2) (fun a => μ a.1 a.2.1 a.2.2.1 a.2.2.2.1 a.2.2.2.2) (fun a H locs ls hI ih => hs a.1 a.2.1 a.2.2.1 a.2.2.2.1 a.2.2.2.2 H locs ls hI (fun b1 b2 b3 b4 b5 => ih (b1, b2, b3, b4, b5))) (a1, a2, a3, a4, a5)
theorem lp_v6 {A1 A2 A3 A4 A5 A6 : Type} {Wg : A1 → A2 → A3 → A4 → A5 → A6 → Heap → List Loc → Array Slot → Prop} (I : A1 → A2 → A3 → A4 → A5 → A6 → Heap → List Loc → Array Slot → Prop) (μ : A1 → A2 → A3 → A4 → A5 → A6 → Nat) (hs : ∀ (a1 : A1) (a2 : A2) (a3 : A3) (a4 : A4) (a5 : A5) (a6 : A6) (H : Heap) (locs : List Loc) (ls : Array Slot), I a1 a2 a3 a4 a5 a6 H locs ls → (∀ (b1 : A1) (b2 : A2) (b3 : A3) (b4 : A4) (b5 : A5) (b6 : A6) (H' : Heap) (locs' : List Loc) (ls' : Array Slot), μ b1 b2 b3 b4 b5 b6 < μ a1 a2 a3 a4 a5 a6 → I b1 b2 b3 b4 b5 b6 H' locs' ls' → Wg b1 b2 b3 b4 b5 b6 H' locs' ls') → Wg a1 a2 a3 a4 a5 a6 H locs ls) : ∀ (a1 : A1) (a2 : A2) (a3 : A3) (a4 : A4) (a5 : A5) (a6 : A6) (H : Heap) (locs : List Loc) (ls : Array Slot), I a1 a2 a3 a4 a5 a6 H locs ls → Wg a1 a2 a3 a4 a5 a6 H locs ls :=
  fun a1 a2 a3 a4 a5 a6 => lp_v1 (A1 := A1 × A2 × A3 × A4 × A5 × A6) (Wg := fun a => Wg a.1 a.2.1 a.2.2.1 a.2.2.2.1 a.2.2.2.2.1 a.2.2.2.2.2) (fun a => I a.1 a.2.1 a.2.2.1 a.2.2.2.1 a.2.2.2.2.1 a.2.2.2.2.2) (fun a => μ a.1 a.2.1 a.2.2.1 a.2.2.2.1 a.2.2.2.2.1 a.2.2.2.2.2) (fun a H locs ls hI ih => hs a.1 a.2.1 a.2.2.1 a.2.2.2.1 a.2.2.2.2.1 a.2.2.2.2.2 H locs ls hI (fun b1 b2 b3 b4 b5 b6 => ih (b1, b2, b3, b4, b5, b6))) (a1, a2, a3, a4, a5, a6)
theorem lp_v7 {A1 A2 A3 A4 A5 A6 A7 : Type} {Wg : A1 → A2 → A3 → A4 → A5 → A6 → A7 → Heap → List Loc → Array Slot → Prop} (I : A1 → A2 → A3 → A4 → A5 → A6 → A7 → Heap → List Loc → Array Slot → Prop) (μ : A1 → A2 → A3 → A4 → A5 → A6 → A7 → Nat) (hs : ∀ (a1 : A1) (a2 : A2) (a3 : A3) (a4 : A4) (a5 : A5) (a6 : A6) (a7 : A7) (H : Heap) (locs : List Loc) (ls : Array Slot), I a1 a2 a3 a4 a5 a6 a7 H locs ls → (∀ (b1 : A1) (b2 : A2) (b3 : A3) (b4 : A4) (b5 : A5) (b6 : A6) (b7 : A7) (H' : Heap) (locs' : List Loc) (ls' : Array Slot), μ b1 b2 b3 b4 b5 b6 b7 < μ a1 a2 a3 a4 a5 a6 a7 → I b1 b2 b3 b4 b5 b6 b7 H' locs' ls' → Wg b1 b2 b3 b4 b5 b6 b7 H' locs' ls') → Wg a1 a2 a3 a4 a5 a6 a7 H locs ls) : ∀ (a1 : A1) (a2 : A2) (a3 : A3) (a4 : A4) (a5 : A5) (a6 : A6) (a7 : A7) (H : Heap) (locs : List Loc) (ls : Array Slot), I a1 a2 a3 a4 a5 a6 a7 H locs ls → Wg a1 a2 a3 a4 a5 a6 a7 H locs ls :=
  fun a1 a2 a3 a4 a5 a6 a7 => lp_v1 (A1 := A1 × A2 × A3 × A4 × A5 × A6 × A7) (Wg := fun a => Wg a.1 a.2.1 a.2.2.1 a.2.2.2.1 a.2.2.2.2.1 a.2.2.2.2.2.1 a.2.2.2.2.2.2) (fun a => I a.1 a.2.1 a.2.2.1 a.2.2.2.1 a.2.2.2.2.1 a.2.2.2.2.2.1 a.2.2.2.2.2.2) (fun a => μ a.1 a.2.1 a.2.2.1 a.2.2.2.1 a.2.2.2.2.1 a.2.2.2.2.2.1 a.2.2.2.2.2.2) (fun a H locs ls hI ih => hs a.1 a.2.1 a.2.2.1 a.2.2.2.1 a.2.2.2.2.1 a.2.2.2.2.2.1 a.2.2.2.2.2.2 H locs ls hI (fun b1 b2 b3 b4 b5 b6 b7 => ih (b1, b2, b3, b4, b5, b6, b7))) (a1, a2, a3, a4, a5, a6, a7)
theorem c_X6_settleFirst_s {l : Launch} {D : va_G} {cy : Nat → ClassId} {B0 : Nat} {ad bk : Nat → Nat} {S : ST} {I : Int → Bool} {cX qX : Int → Int64} {G : gF} (b : Int) (c : Int) (hwf : wf S) (hb0 : 0 ≤ b ∧ b ≤ 5) (hc : 0 ≤ c ∧ c ≤ 2) (ho : okS S) (hl : legW S) (he : S.1 31 0 + cNF S < 20000) (hG0 : G 50001 = none) (hE0 : nE S = 0 → bk 10 = D.1 21) : gM l yX6_settleFirst vX6_settleFirst 11 248 D cy B0 [.ref (ad 1), .int (iI (b)), .int (iI (c))] (kW cy ad bk S (I, cX, qX) G) (fun r g_ => ∃ (bk2 : Nat → Nat) (I2 : Int → Bool) (c2 q2 : Int → Int64), r = some (.int (iI (sFirst S b c).1)) ∧ (nE (sFirst S b c).2 = 0 → bk2 10 = D.1 21) ∧ g_ = kW cy ad bk2 (sFirst S b c).2 (I2, c2, q2) G) (kTc (nE (sFirst S b c).2) - kTc (nE S)) (kTs (nE (sFirst S b c).2) - kTs (nE S)) := by
  have e := kSF_eq ho hl I cX qX b c hc
  have h := c_X6_settleFirst (l := l) (D := D) (cy := cy) (B0 := B0) (ad := ad) (bk := bk) (S := S) (I := I) (cX := cX) (qX := qX) (G := G) b c hwf hb0 hc ho (fun k k0 k1 => by rcases hl k k0 k1 with h | h <;> omega) he hG0 hE0
  rw [e.1, e.2] at h
  exact h
/-- counts and entries go up together -/
def rdP (S : ST) (x : Int × ST) : Prop := rdOk S x ∧ rdE S x
theorem rdP_0 {S : ST} (h : okS S) : rdP S (0, S) := ⟨rdOk_0 h, rdE_0 S⟩
theorem rdP_n {S : ST} {x : Int × ST} (hS : wf S) (h : rdP S x) : nE x.2 = nE S + x.1.toNat ∧ 0 ≤ x.1 := by
  obtain ⟨⟨h1, h2, h3, h4⟩, h5⟩ := h
  have w31 := wf_31 hS 0
  unfold rdE at h5
  refine ⟨?_, h2⟩
  unfold nE
  omega
theorem rdP_B {S : ST} {x : Int × ST} (h : rdP S x) (b c : Int) : rdP S (rdB c b x) := ⟨rdB_ok h.1, rdB_31 h.2⟩
theorem rdP_C {S : ST} {x : Int × ST} (h : rdP S x) (c : Int) : rdP S (rdC c x) := ⟨rdC_ok h.1, rdC_31 h.2⟩
theorem rdP_F {S : ST} (h : okS S) (b c : Int) : rdP S (sFirst S b c) := by
  obtain ⟨r1, r2, r3, r4⟩ := sFirst_ok h b c
  exact ⟨⟨r1, r2, by omega, r4⟩, sFirst_31 S b c⟩
theorem rdP_R {S : ST} (h : okS S) : rdP S (sRound S) := ⟨sRound_ok h, sRound_31 S⟩
theorem rdP_runs {S : ST} (h : okS S) : rdP S (sRuns S) := ⟨sRuns_ok h, sRuns_31 S⟩
theorem rdP_tr {S T : ST} {n : Int} {y : Int × ST} (h : rdP S (n, T)) (h2 : rdP T y) : rdP S (n + y.1, y.2) := by
  obtain ⟨⟨a1, a2, a3, a4⟩, a5⟩ := h
  obtain ⟨⟨b1, b2, b3, b4⟩, b5⟩ := h2
  have a2' : 0 ≤ n := a2
  have a3' : cNF T + n = cNF S := a3
  have a5' : T.1 31 0 = S.1 31 0 + n := a5
  unfold rdE at b5
  exact ⟨rdOk_mk b1 (by omega) (by omega) (fun f hf => (b4 f hf).trans (a4 f hf)), by show y.2.1 31 0 = S.1 31 0 + (n + y.1); omega⟩
theorem rdP_bd {S : ST} {x : Int × ST} (hS : okS S) (h : rdP S x) : 0 ≤ x.1 ∧ x.1 ≤ 60 ∧ x.2.1 31 0 + cNF x.2 = S.1 31 0 + cNF S ∧ nE S ≤ nE x.2 ∧ x.2.1 8 0 = S.1 8 0 := by
  have hn := rdP_n hS.1 h
  obtain ⟨⟨h1, h2, h3, h4⟩, h5⟩ := h
  have n1 := cNF_nn x.2
  have n2 := hS.2.1
  have n3 := wf_27 hS.1 0
  unfold rdE at h5
  exact ⟨h2, by omega, by omega, by omega, by rw [h4 8 (by unfold cht; decide)]⟩
theorem foS_mono {σ : Type} {P : σ → Prop} {g : σ → Nat} {f : Int → σ → σ} (h : ∀ (k : Int) (x : σ), P x → P (f k x) ∧ g x ≤ g (f k x)) {s : σ} (h0 : P s) {m : Nat} : ∀ {n : Nat}, m ≤ n → g (foS f s m) ≤ g (foS f s n)
  | 0, hm => by rw [show m = 0 by omega]; exact Nat.le_refl _
  | n + 1, hm => by
    by_cases e : m = n + 1
    · rw [e]; exact Nat.le_refl _
    · have h1 := foS_mono h h0 (m := m) (n := n) (by omega)
      have hP : P (foS f s n) := foS_keeps h0 (fun k x hx => (h k x hx).1) n
      exact Nat.le_trans h1 (h n _ hP).2
theorem stepB {S : ST} (c b : Int) (x : Int × ST) (h : rdP S x) : rdP S (rdB c b x) ∧ nE x.2 ≤ nE (rdB c b x).2 := by
  refine ⟨rdP_B h b c, ?_⟩
  have := rdP_n h.1.1.1 (rdP_F h.1.1 b c)
  show nE x.2 ≤ nE (sFirst x.2 b c).2
  omega
theorem stepC {S : ST} (c : Int) (x : Int × ST) (h : rdP S x) : rdP S (rdC c x) ∧ nE x.2 ≤ nE (rdC c x).2 :=
  ⟨rdP_C h c, foS_mono (P := rdP S) (g := fun x => nE x.2) (fun k x hx => stepB c k x hx) h (m := 0) (n := 6) (by decide)⟩
theorem sRunN_mono : ∀ (m : Nat) (a : Int) (x : ST), okS x → nE x ≤ nE (sRunN m a x).2
  | 0, _, _, _ => Nat.le_refl _
  | m + 1, a, x, h => by
    have r := rdP_R h
    have r2 := rdP_n h.1 r
    have r3 := r.1.1
    unfold sRunN
    generalize sRound x = y at r2 r3 ⊢
    split
    · have e : nE x ≤ nE y.2 := by omega
      exact e
    · have := sRunN_mono m (a + y.1) y.2 r3
      omega
theorem sRunN_1 {m : Nat} {a : Int} {x : ST} (h : okS x) : nE (sRound x).2 ≤ nE (sRunN (m + 1) a x).2 := by
  have r3 := (rdP_R h).1.1
  unfold sRunN
  generalize sRound x = y at r3 ⊢
  split
  · exact Nat.le_refl _
  · exact sRunN_mono _ _ _ r3
theorem legW_of {S T : ST} (h8 : T.1 8 0 = S.1 8 0) (h21 : T.1 21 = S.1 21) (h : legW S) : legW T := by
  intro k k0 k1
  rw [h8] at k1
  rw [h21, h8]
  exact h k k0 k1
/-- inside the rounds -/
theorem rn_in {S T : ST} {n : Int} {y y3 : Int × ST} {m : Nat} {j x : Int} (ho : okS S) (h : rdP S (n, T)) (hr : sRunN (m + 1) n T = sRuns S) (j0 : 0 ≤ j) (j1 : j < 3) (x0 : 0 ≤ x) (x1 : x < 6) (hy : y = foS rdC (0, T) j.toNat) (hy3 : y3 = foS (rdB j) y x.toNat) : rdP S (n + y3.1, y3.2) ∧ rdP y3.2 (sFirst y3.2 x j) ∧ nE (sFirst y3.2 x j).2 ≤ nE (sRuns S).2 := by
  have p0 : rdP T (0, T) := rdP_0 h.1.1
  have p1 : rdP T y := by rw [hy]; exact foS_keeps p0 (fun k x hx => (stepC k x hx).1) _
  have p2 : rdP T y3 := by rw [hy3]; exact foS_keeps p1 (fun k x hx => (stepB j k x hx).1) _
  refine ⟨rdP_tr h p2, rdP_F p2.1.1 x j, ?_⟩
  have e1 : (sFirst y3.2 x j).2 = (foS (rdB j) y (x.toNat + 1)).2 := by
    rw [foS_s, ← hy3, show ((x.toNat : Nat) : Int) = x by omega]; rfl
  have e2 := foS_mono (P := rdP T) (g := fun x => nE x.2) (fun k x hx => stepB j k x hx) p1 (m := x.toNat + 1) (n := 6) (by omega)
  have e3 : rdC j y = foS rdC (0, T) (j.toNat + 1) := by
    rw [foS_s, ← hy, show ((j.toNat : Nat) : Int) = j by omega]
  have e4 := foS_mono (P := rdP T) (g := fun x => nE x.2) (fun k x hx => stepC k x hx) p0 (m := j.toNat + 1) (n := 3) (by omega)
  have e5 := sRunN_1 (m := m) (a := n) h.1.1
  rw [hr] at e5
  rw [e1]
  refine Nat.le_trans e2 ?_
  show nE (rdC j y).2 ≤ _
  rw [e3]
  exact Nat.le_trans e4 e5
theorem rn_mid {S T : ST} {n : Int} {y : Int × ST} {m : Nat} (h : rdP S (n, T)) (hy : y = foS rdC (0, T) m) : rdP S (n + y.1, y.2) ∧ 0 ≤ n ∧ 0 ≤ y.1 := by
  have p1 : rdP T y := by rw [hy]; exact foS_keeps (rdP_0 h.1.1) (fun k x hx => (stepC k x hx).1) _
  exact ⟨rdP_tr h p1, h.1.2.1, p1.1.2.1⟩
theorem rn_end {S T : ST} {n : Int} {y : Int × ST} {m : Nat} {j : Int} (hr : sRunN (m + 1) n T = sRuns S) (hj : j = 3) (hy : y = foS rdC (0, T) j.toNat) (h : y.1 ≤ 0) : sRuns S = (n + y.1, y.2) := by
  have e : y = sRound T := by rw [hy, hj]; rfl
  rw [← hr]
  unfold sRunN
  rw [← e, if_pos h]
theorem rn_go {S T : ST} {n : Int} {y : Int × ST} {m : Nat} {j : Int} (hr : sRunN (m + 1) n T = sRuns S) (hj : j = 3) (hy : y = foS rdC (0, T) j.toNat) (h : ¬ y.1 ≤ 0) : sRunN m (n + y.1) y.2 = sRuns S := by
  have e : y = sRound T := by rw [hy, hj]; rfl
  rw [← hr]
  conv => rhs; unfold sRunN
  rw [← e, if_neg h]
set_option maxHeartbeats 4000000 in
set_option maxRecDepth 100000 in
theorem c_X6_runQueues {l : Launch} {D : va_G} {cy : Nat → ClassId} {B0 : Nat} {ad bk : Nat → Nat} {S : ST} {I : Int → Bool} {cX qX : Int → Int64} {G : gF}  (hwf : wf S) (ho : okS S) (hlg : legW S) (he : S.1 31 0 + cNF S < 20000) (hG0 : G 50001 = none) (hE0 : nE S = 0 → bk 10 = D.1 21) : gM l yX6_runQueues vX6_runQueues 12 272 D cy B0 [.ref (ad 1)] (kW cy ad bk S (I, cX, qX) G) (fun r g_ => ∃ (bk2 : Nat → Nat) (I2 : Int → Bool) (c2 q2 : Int → Int64), r = some (.int (iI (sRuns S).1)) ∧ (nE (sRuns S).2 = 0 → bk2 10 = D.1 21) ∧ g_ = kW cy ad bk2 (sRuns S).2 (I2, c2, q2) G) (kTc (nE (sRuns S).2) - kTc (nE S)) (kTs (nE (sRuns S).2) - kTs (nE S)) := by
  refine g_start (cc := cX6_runQueues) (maxL := 6) (ret := (some .int)) (by decide) rfl (Nat.le_of_ble_eq_true rfl) ?_
  intro p_ e_ s_ m_ be_ me_ co_ ls H locs K hr hlk hnm hK hW hl
  obtain ⟨hx, hb, hml, hown, hts⟩ := id K
  have hl : lv_has ls 6 [(0, .ref (ad 1))] := hl
  refine xi_iconst hx hb dX6_runQueues_0 ?_
  refine lv_istore_n (lv' := [(1, .int (iI (0))), (0, .ref (ad 1))]) hx hb dX6_runQueues_1 rfl hl (by decide) rfl (fun ls hl => ?_)
  refine xi_iconst hx hb dX6_runQueues_2 ?_
  refine lv_istore_n (lv' := [(2, .int (iI (0))), (1, .int (iI (0))), (0, .ref (ad 1))]) hx hb dX6_runQueues_3 rfl hl (by decide) rfl (fun ls hl => ?_)
  refine w_cs (cells' := kTc (nE S) - kTc (nE S)) (slots' := kTs (nE S) - kTs (nE S)) (Nat.sub_self _).symm (Nat.sub_self _).symm ?_
  refine lp_v7 (Wg := fun (i : Int) (n : Int) (T : ST) (bk1 : Nat → Nat) (I1 : Int → Bool) (c1 : Int → Int64) (q1 : Int → Int64) (H : Heap) (locs : List Loc) (ls : Array Slot) => W p_ l e_ { frames := 12, cells := kTc (nE (sRuns S).2) - kTc (nE S), slots := kTs (nE (sRuns S).2) - kTs (nE S), locals := 272 } s_ m_ ([.ref (ad 1)] : List Value).toArray be_ me_ co_ H locs (kTc (nE T) - kTc (nE S)) (kTs (nE T) - kTs (nE S)) (MQ be_ (gQ D B0 (fun (r : Option Value) (g_ : gF) => ∃ (bk2 : Nat → Nat) (I2 : Int → Bool) (c2 q2 : Int → Int64), r = some (.int (iI (sRuns S).1)) ∧ (nE (sRuns S).2 = 0 → bk2 10 = D.1 21) ∧ g_ = kW cy ad bk2 (sRuns S).2 (I2, c2, q2) G)) ([.ref (ad 1)] : List Value).toArray s_ (kTc (nE (sRuns S).2) - kTc (nE S)) (kTs (nE (sRuns S).2) - kTs (nE S)) (fun q : Nat => B0 ≤ q)) (F0 m_ 4 ls [])) (fun (i : Int) (n : Int) (T : ST) (bk1 : Nat → Nat) (I1 : Int → Bool) (c1 : Int → Int64) (q1 : Int → Int64) (H : Heap) (locs : List Loc) (ls : Array Slot) => ((0 ≤ i ∧ i ≤ 61) ∧ rdP S (n, T) ∧ sRunN (61 - i).toNat n T = sRuns S ∧ (nE T = 0 → bk1 10 = D.1 21)) ∧ gW D B0 s_ (kW cy ad bk1 T (I1, c1, q1) G) H locs ∧ lv_has ls 6 [(2, .int (iI (i))), (1, .int (iI (n))), (0, .ref (ad 1))]) (fun (i : Int) (n : Int) (T : ST) (bk1 : Nat → Nat) (I1 : Int → Bool) (c1 : Int → Int64) (q1 : Int → Int64) => (61 - i).toNat) (fun i n T bk1 I1 c1 q1 H locs ls hI ih_lp_1 => ?_) (0) (0) (S) (bk) (I) (cX) (qX) _ _ _ ⟨⟨⟨by decide, by decide⟩, rdP_0 ho, rfl, hE0⟩, hW, lv_sub hl [0, 1, 2] rfl⟩
  obtain ⟨hI_lp_1, hW, hl⟩ := hI
  obtain ⟨hi, hT, hrr, hb1⟩ := hI_lp_1
  refine lv_iload_n hx hb dX6_runQueues_4 rfl (lv_at hl 0 rfl) ?_
  refine xi_bipush hx hb dX6_runQueues_5 (by decide) ?_
  refine xi_icmp_gt (tgt := 67) hx hb ⟨by omega, by omega⟩ ⟨by omega, by omega⟩ dX6_runQueues_7 (by decide) (fun c_2 => ?_) (fun c_2 => ?_)
  · have hfin : sRuns S = (n, T) := by rw [← hrr, show (61 - i).toNat = 0 by omega]; rfl
    refine lv_iload_n hx hb dX6_runQueues_67 rfl (lv_at hl 1 rfl) ?_
    exact W.widen (by rw [hfin]; exact Nat.le_refl _) (by rw [hfin]; exact Nat.le_refl _) (g_iret hx hb hr hW ⟨bk1, I1, c1, q1, by rw [hfin], fun h => hb1 (by rw [hfin] at h; exact h), by rw [hfin]⟩ dX6_runQueues_68 hlk)
  · obtain ⟨mm, hmm⟩ : ∃ mm : Nat, (61 - i).toNat = mm + 1 := ⟨(60 - i).toNat, by omega⟩
    have hr2 : sRunN (mm + 1) n T = sRuns S := by rw [← hmm]; exact hrr
    refine lv_iload_n hx hb dX6_runQueues_10 rfl (lv_at hl 1 rfl) ?_
    refine lv_istore_n (lv' := [(3, .int (iI (n))), (2, .int (iI (i))), (1, .int (iI (n))), (0, .ref (ad 1))]) hx hb dX6_runQueues_11 rfl hl (by decide) rfl (fun ls hl => ?_)
    refine xi_iconst hx hb dX6_runQueues_12 ?_
    refine lv_istore (lv' := [(4, .int (iI (0))), (3, .int (iI (n))), (2, .int (iI (i))), (1, .int (iI (n))), (0, .ref (ad 1))]) hx hb dX6_runQueues_13 hl (by decide) rfl (fun ls hl => ?_)
    have hl : lv_has ls 6 [(4, .int (iI (0))), (3, .int (iI (n))), (2, .int (iI (i))), (1, .int (iI (n + ((0 : Int), T).1))), (0, .ref (ad 1))] := by rw [show n + ((0 : Int), T).1 = n from Int.add_zero n]; exact lv_sub hl [0, 1, 2, 3, 4] rfl
    skip
    refine w_cs (cells' := kTc (nE ((0, T)).2) - kTc (nE S)) (slots' := kTs (nE ((0, T)).2) - kTs (nE S)) rfl rfl ?_
    refine lp_v6 (Wg := fun (j : Int) (y : Int × ST) (bk2 : Nat → Nat) (I2 : Int → Bool) (c2 : Int → Int64) (q2 : Int → Int64) (H : Heap) (locs : List Loc) (ls : Array Slot) => W p_ l e_ { frames := 12, cells := kTc (nE (sRuns S).2) - kTc (nE S), slots := kTs (nE (sRuns S).2) - kTs (nE S), locals := 272 } s_ m_ ([.ref (ad 1)] : List Value).toArray be_ me_ co_ H locs (kTc (nE (y).2) - kTc (nE S)) (kTs (nE (y).2) - kTs (nE S)) (MQ be_ (gQ D B0 (fun (r : Option Value) (g_ : gF) => ∃ (bk2 : Nat → Nat) (I2 : Int → Bool) (c2 q2 : Int → Int64), r = some (.int (iI (sRuns S).1)) ∧ (nE (sRuns S).2 = 0 → bk2 10 = D.1 21) ∧ g_ = kW cy ad bk2 (sRuns S).2 (I2, c2, q2) G)) ([.ref (ad 1)] : List Value).toArray s_ (kTc (nE (sRuns S).2) - kTc (nE S)) (kTs (nE (sRuns S).2) - kTs (nE S)) (fun q : Nat => B0 ≤ q)) (F0 m_ 15 ls [])) (fun (j : Int) (y : Int × ST) (bk2 : Nat → Nat) (I2 : Int → Bool) (c2 : Int → Int64) (q2 : Int → Int64) (H : Heap) (locs : List Loc) (ls : Array Slot) => ((0 ≤ j ∧ j ≤ 3) ∧ y = foS rdC (0, T) j.toNat ∧ (nE y.2 = 0 → bk2 10 = D.1 21)) ∧ gW D B0 s_ (kW cy ad bk2 y.2 (I2, c2, q2) G) H locs ∧ lv_has ls 6 [(4, .int (iI (j))), (3, .int (iI (n))), (2, .int (iI (i))), (1, .int (iI (n + y.1))), (0, .ref (ad 1))]) (fun (j : Int) (y : Int × ST) (bk2 : Nat → Nat) (I2 : Int → Bool) (c2 : Int → Int64) (q2 : Int → Int64) => (3 - j).toNat) (fun j y bk2 I2 c2 q2 H locs ls hI ih_lp_3 => ?_) (0) ((0, T)) (bk1) (I1) (c1) (q1) _ _ _ ⟨⟨⟨by decide, by decide⟩, rfl, hb1⟩, hW, lv_sub hl [0, 1, 2, 3, 4] rfl⟩
    obtain ⟨hI_lp_3, hW, hl⟩ := hI
    obtain ⟨hj, hy, hb2⟩ := hI_lp_3
    have hm := rn_mid hT hy
    have hmb := rdP_bd ho hm.1
    refine lv_iload hx hb dX6_runQueues_15 (lv_at hl 0 rfl) ?_
    refine xi_iconst hx hb dX6_runQueues_17 ?_
    refine xi_icmp_ge (tgt := 54) hx hb ⟨by omega, by omega⟩ ⟨by omega, by omega⟩ dX6_runQueues_18 (by decide) (fun c_4 => ?_) (fun c_4 => ?_)
    · refine lv_iload_n hx hb dX6_runQueues_54 rfl (lv_at hl 3 rfl) ?_
      refine lv_iload_n hx hb dX6_runQueues_55 rfl (lv_at hl 1 rfl) ?_
      refine xi_icmp_ne (tgt := 61) hx hb ⟨by omega, by omega⟩ ⟨by omega, by omega⟩ dX6_runQueues_56 (by decide) (fun c_5 => ?_) (fun c_5 => ?_)
      · refine xi_iinc (lv' := [(2, .int (iI (i + 1))), (4, .int (iI (j))), (3, .int (iI (n))), (1, .int (iI (n + y.1))), (0, .ref (ad 1))]) hx hb dX6_runQueues_61 hl (k := 2) rfl (by decide) rfl (fun ls hl => ?_)
        refine lv_goto (tgt := 4) hx hb dX6_runQueues_64 (by decide) ?_
        have hgo : ¬ y.1 ≤ 0 := by omega
        refine w_cs (cells' := kTc (nE y.2) - kTc (nE S)) (slots' := kTs (nE y.2) - kTs (nE S)) rfl rfl ?_
        exact ih_lp_1 (i + 1) (n + y.1) (y.2) (bk2) (I2) (c2) (q2) _ _ _ (by first | omega | (dsimp only; omega)) ⟨⟨⟨by omega, by omega⟩, hm.1, by rw [show (61 - (i + 1)).toNat = mm by omega]; exact rn_go hr2 (by omega) hy hgo, hb2⟩, hW, lv_sub hl [0, 3, 4] rfl⟩
      · have hfin := rn_end hr2 (by omega) hy (by omega)
        refine lv_iload_n hx hb dX6_runQueues_59 rfl (lv_at hl 3 rfl) ?_
        exact W.widen (by rw [hfin]; exact Nat.le_refl _) (by rw [hfin]; exact Nat.le_refl _) (g_iret hx hb hr hW ⟨bk2, I2, c2, q2, by rw [hfin], fun h => hb2 (by rw [hfin] at h; exact h), by rw [hfin]⟩ dX6_runQueues_60 hlk)
    · refine xi_iconst hx hb dX6_runQueues_21 ?_
      refine lv_istore (lv' := [(5, .int (iI (0))), (4, .int (iI (j))), (3, .int (iI (n))), (2, .int (iI (i))), (1, .int (iI (n + y.1))), (0, .ref (ad 1))]) hx hb dX6_runQueues_22 hl (by decide) rfl (fun ls hl => ?_)
      refine w_cs (cells' := kTc (nE (y).2) - kTc (nE S)) (slots' := kTs (nE (y).2) - kTs (nE S)) rfl rfl ?_
      refine lp_v6 (Wg := fun (x : Int) (y3 : Int × ST) (bk3 : Nat → Nat) (I3 : Int → Bool) (c3 : Int → Int64) (q3 : Int → Int64) (H : Heap) (locs : List Loc) (ls : Array Slot) => W p_ l e_ { frames := 12, cells := kTc (nE (sRuns S).2) - kTc (nE S), slots := kTs (nE (sRuns S).2) - kTs (nE S), locals := 272 } s_ m_ ([.ref (ad 1)] : List Value).toArray be_ me_ co_ H locs (kTc (nE (y3).2) - kTc (nE S)) (kTs (nE (y3).2) - kTs (nE S)) (MQ be_ (gQ D B0 (fun (r : Option Value) (g_ : gF) => ∃ (bk2 : Nat → Nat) (I2 : Int → Bool) (c2 q2 : Int → Int64), r = some (.int (iI (sRuns S).1)) ∧ (nE (sRuns S).2 = 0 → bk2 10 = D.1 21) ∧ g_ = kW cy ad bk2 (sRuns S).2 (I2, c2, q2) G)) ([.ref (ad 1)] : List Value).toArray s_ (kTc (nE (sRuns S).2) - kTc (nE S)) (kTs (nE (sRuns S).2) - kTs (nE S)) (fun q : Nat => B0 ≤ q)) (F0 m_ 24 ls [])) (fun (x : Int) (y3 : Int × ST) (bk3 : Nat → Nat) (I3 : Int → Bool) (c3 : Int → Int64) (q3 : Int → Int64) (H : Heap) (locs : List Loc) (ls : Array Slot) => ((0 ≤ x ∧ x ≤ 6) ∧ y3 = foS (rdB j) y x.toNat ∧ (nE y3.2 = 0 → bk3 10 = D.1 21)) ∧ gW D B0 s_ (kW cy ad bk3 y3.2 (I3, c3, q3) G) H locs ∧ lv_has ls 6 [(5, .int (iI (x))), (4, .int (iI (j))), (3, .int (iI (n))), (2, .int (iI (i))), (1, .int (iI (n + y3.1))), (0, .ref (ad 1))]) (fun (x : Int) (y3 : Int × ST) (bk3 : Nat → Nat) (I3 : Int → Bool) (c3 : Int → Int64) (q3 : Int → Int64) => (6 - x).toNat) (fun x y3 bk3 I3 c3 q3 H locs ls hI ih_lp_6 => ?_) (0) (y) (bk2) (I2) (c2) (q2) _ _ _ ⟨⟨⟨by decide, by decide⟩, rfl, hb2⟩, hW, lv_sub hl [0, 1, 2, 3, 4, 5] rfl⟩
      obtain ⟨hI_lp_6, hW, hl⟩ := hI
      obtain ⟨hx6, hy3, hb3⟩ := hI_lp_6
      refine lv_iload hx hb dX6_runQueues_24 (lv_at hl 0 rfl) ?_
      refine xi_bipush hx hb dX6_runQueues_26 (by decide) ?_
      refine xi_icmp_ge (tgt := 48) hx hb ⟨by omega, by omega⟩ ⟨by omega, by omega⟩ dX6_runQueues_28 (by decide) (fun c_7 => ?_) (fun c_7 => ?_)
      · refine xi_iinc (lv' := [(4, .int (iI (j + 1))), (5, .int (iI (x))), (3, .int (iI (n))), (2, .int (iI (i))), (1, .int (iI (n + y3.1))), (0, .ref (ad 1))]) hx hb dX6_runQueues_48 hl (k := 1) rfl (by decide) rfl (fun ls hl => ?_)
        refine lv_goto (tgt := 15) hx hb dX6_runQueues_51 (by decide) ?_
        refine w_cs (cells' := kTc (nE (y3).2) - kTc (nE S)) (slots' := kTs (nE (y3).2) - kTs (nE S)) rfl rfl ?_
        exact ih_lp_3 (j + 1) (y3) (bk3) (I3) (c3) (q3) _ _ _ (by first | omega | (dsimp only; omega)) ⟨⟨⟨by omega, by omega⟩, by rw [show (j + 1).toNat = j.toNat + 1 by omega, foS_s, show ((j.toNat : Nat) : Int) = j by omega, ← hy, hy3, show x.toNat = 6 by omega]; rfl, hb3⟩, hW, lv_sub hl [0, 2, 3, 4, 5] rfl⟩
      · have hin := rn_in ho hT hr2 hj.1 (by omega) hx6.1 (by omega) hy hy3
        have hib := rdP_bd ho hin.1
        have hic := rdP_n (S := y3.2) hin.1.1.1.1 hin.2.1
        have hE1 : nE y3.2 ≤ nE (sFirst y3.2 x j).2 := by omega
        have hE2 : nE S ≤ nE y3.2 := hib.2.2.2.1
        have t1 := kTc_le hE1
        have t2 := kTc_le hE2
        have t3 := kTc_le hin.2.2
        have t4 := kTs_le hE1
        have t5 := kTs_le hE2
        have t6 := kTs_le hin.2.2
        refine lv_iload_n hx hb dX6_runQueues_31 rfl (lv_at hl 4 rfl) ?_
        refine lv_aload_n hx hb dX6_runQueues_32 rfl (lv_at hl 5 rfl) ?_
        refine lv_iload hx hb dX6_runQueues_33 (lv_at hl 0 rfl) ?_
        refine lv_iload hx hb dX6_runQueues_35 (lv_at hl 1 rfl) ?_
        refine g_callV (i := 100000 + 1) (As := [.int (iI (x)), .int (iI (j))]) (rest := [.int (iI (n + y3.1))]) K (c_X6_settleFirst_s (S := y3.2) (x) (j) hin.1.1.1.1 ⟨by omega, by omega⟩ ⟨by omega, by omega⟩ hin.1.1.1 (legW_of (by have := hib.2.2.2.2; exact this) (hin.1.1.2.2.2 21 (by unfold cht; decide)) hlg) (by have := hib.2.2.1; dsimp only at this; omega) hG0 hb3) (cwV 2 hts gC_X6_129 rfl rfl rfl (by decide +kernel) ⟨Nat.le_of_ble_eq_true rfl, Nat.le_of_ble_eq_true rfl⟩) hK hW (kW_at rfl) rfl rfl hl.1 rfl (Nat.le_of_ble_eq_true rfl) dX6_runQueues_37 ⟨by dsimp only; omega, by dsimp only; omega⟩ (fun v_ f_ H locs hp hW => ?_)
        obtain ⟨bk4, I4, c4, q4, hpv, hb4, hpe⟩ := hp
        rw [hpe] at hW
        subst hpv
        refine xi_iadd hx hb dX6_runQueues_40 ?_
        refine lv_istore_n (lv' := [(1, .int (iI ((n + y3.1) + ((sFirst y3.2 (x) (j)).1)))), (5, .int (iI (x))), (4, .int (iI (j))), (3, .int (iI (n))), (2, .int (iI (i))), (0, .ref (ad 1))]) hx hb dX6_runQueues_41 rfl hl (by decide) rfl (fun ls hl => ?_)
        refine xi_iinc (lv' := [(5, .int (iI (x + 1))), (1, .int (iI ((n + y3.1) + ((sFirst y3.2 (x) (j)).1)))), (4, .int (iI (j))), (3, .int (iI (n))), (2, .int (iI (i))), (0, .ref (ad 1))]) hx hb dX6_runQueues_42 hl (k := 1) rfl (by decide) rfl (fun ls hl => ?_)
        refine lv_goto (tgt := 24) hx hb dX6_runQueues_45 (by decide) ?_
        have hadd : (n + y3.1) + ((sFirst y3.2 (x) (j)).1) = n + (rdB j x y3).1 := Int.add_assoc _ _ _
        rw [hadd] at hl
        refine w_cs (cells' := kTc (nE (rdB j x y3).2) - kTc (nE S)) (slots' := kTs (nE (rdB j x y3).2) - kTs (nE S)) (by show _ = kTc (nE (sFirst y3.2 x j).2) - kTc (nE S); omega) (by show _ = kTs (nE (sFirst y3.2 x j).2) - kTs (nE S); omega) ?_
        exact ih_lp_6 (x + 1) (rdB j x y3) (bk4) (I4) (c4) (q4) _ _ _ (by first | omega | (dsimp only; omega)) ⟨⟨⟨by omega, by omega⟩, by rw [show (x + 1).toNat = x.toNat + 1 by omega, foS_s, show ((x.toNat : Nat) : Int) = x by omega, ← hy3], hb4⟩, hW, lv_sub hl [0, 2, 3, 4, 1, 5] rfl⟩
