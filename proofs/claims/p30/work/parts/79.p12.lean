/-! what holds between the calls -/
def legJ (S : ST) : Prop := ∀ k : Int, 0 ≤ k → k < S.1 8 0 → S.1 21 k = -1 ∨ (0 ≤ S.1 21 k ∧ S.1 21 k < S.1 8 0 ∧ S.1 21 k ≠ k ∧ S.1 21 (S.1 21 k) = k ∧ S.1 15 k ≠ 0)
def netJ (S : ST) : Prop := ∀ k : Int, 0 ≤ k → k < S.1 8 0 → S.1 18 k = 3 → S.1 15 k = 0
def finJ (S : ST) : Prop := ∀ k : Int, 0 ≤ k → k < S.1 8 0 → S.1 21 k = -1 ∨ (S.1 18 k = 4 ↔ S.1 18 (S.1 21 k) = 4)
def annI (S : ST) : Prop := ∀ i : Int, 0 ≤ i → i < S.1 27 0 → 0 ≤ S.1 28 i ∧ S.1 28 i < S.1 8 0
def relJ (S : ST) : Prop := ∀ k : Int, 0 ≤ k → k < S.1 8 0 → (S.1 19 k = 0 → S.1 40 k = S.1 20 k) ∧ (S.1 18 k = 1 → S.1 19 k = 0)
def inv (S : ST) : Prop := okS S ∧ legJ S ∧ netJ S ∧ smE S ∧ toldI S ∧ annI S ∧ takI S ∧ recI S ∧ relJ S ∧ newI S ∧ msgI S ∧ fd41 S
theorem legJ_W {S : ST} (h : legJ S) : legW S := fun k k0 k1 => (h k k0 k1).imp id (fun x => ⟨x.1, x.2.1, x.2.2.1⟩)
theorem legJ_15 {S : ST} (h : legJ S) {k : Int} (k0 : 0 ≤ k) (k1 : k < S.1 8 0) (hn : S.1 21 k ≠ -1) : S.1 15 k ≠ 0 ∧ S.1 15 (S.1 21 k) ≠ 0 := by
  rcases h k k0 k1 with e | ⟨a, b, c, d, e⟩
  · exact absurd e hn
  · refine ⟨e, ?_⟩
    rcases h _ a b with q | ⟨_, _, _, _, q⟩
    · omega
    · exact q
theorem inv_lg4 {S : ST} (hl : legJ S) (hn : netJ S) (hf : finJ S) : lg4 S := by
  intro k k0 k1
  by_cases e : S.1 21 k = -1
  · exact Or.inl e
  · right
    have h15 := legJ_15 hl k0 k1 e
    have hw := (legJ_W hl k k0 k1).resolve_left e
    exact ⟨(hf k k0 k1).resolve_left e, fun q => h15.1 (hn k k0 k1 q), fun q => h15.2 (hn _ hw.1 hw.2.1 q)⟩
theorem relJ_I {S : ST} (h : relJ S) : relI S := fun k k0 k1 hs => ⟨(h k k0 k1).1 ((h k k0 k1).2 hs), (h k k0 k1).2 hs⟩
theorem legJ_of {S T : ST} (a : T.1 8 = S.1 8) (b : T.1 21 = S.1 21) (c : T.1 15 = S.1 15) (h : legJ S) : legJ T := by unfold legJ; rw [a, b, c]; exact h
theorem finJ_of {S T : ST} (a : T.1 8 = S.1 8) (b : T.1 21 = S.1 21) (c : ∀ j : Int, T.1 18 j = 4 ↔ S.1 18 j = 4) (h : finJ S) : finJ T := by
  intro k k0 k1
  rw [a] at k1
  rw [b, c, c]
  exact h k k0 k1
theorem smE_of {S T : ST} (a : T.1 31 = S.1 31) (b : T.2 32 = S.2 32) (h : smE S) : smE T := by unfold smE; rw [a, b]; exact h
theorem aL_of {S T : ST} (b : Int) {n : Nat} (h : ∀ i : Int, 0 ≤ i → i < n → T.1 28 i = S.1 28 i ∧ T.1 10 (S.1 28 i) = S.1 10 (S.1 28 i)) : aL T b n = aL S b n := by
  induction n with
  | zero => rfl
  | succ n ih =>
    rw [aL_s, aL_s, ih (fun i a c => h i a (by omega)), (h n (by omega) (by omega)).1, (h n (by omega) (by omega)).2]
theorem toldI_of {S T : ST} (a : T.1 44 = S.1 44) (b : T.1 27 = S.1 27) (c : T.1 28 = S.1 28) (d : T.1 43 = S.1 43) (e : ∀ i : Int, 0 ≤ i → i < S.1 27 0 → T.1 10 (S.1 28 i) = S.1 10 (S.1 28 i)) (h : toldI S) : toldI T := by
  have q : ∀ x : Int, aL T x (S.1 27 0).toNat = aL S x (S.1 27 0).toNat := fun x => aL_of x (fun i h0 h1 => ⟨by rw [c], e i h0 (by omega)⟩)
  unfold toldI
  rw [a, b, d]
  intro x x0 x1
  rw [q]
  exact h x x0 x1
theorem inv_keep {S T : ST} (ho : okS T) (hf : ∀ f : Nat, (8 ≤ f ∧ f ≤ 25) ∨ 27 ≤ f → T.1 f = S.1 f) (h2 : T.2 32 = S.2 32) (h : inv S) : inv T := by
  obtain ⟨_, a1, a2, a3, a4, a5, a6, a7, a8, a9, a10, a11⟩ := h
  have f8 := hf 8 (by decide)
  have f9 := hf 9 (by decide)
  have f10 := hf 10 (by decide)
  have f15 := hf 15 (by decide)
  have f18 := hf 18 (by decide)
  have f19 := hf 19 (by decide)
  have f20 := hf 20 (by decide)
  have f21 := hf 21 (by decide)
  have f22 := hf 22 (by decide)
  have f23 := hf 23 (by decide)
  have f24 := hf 24 (by decide)
  have f25 := hf 25 (by decide)
  have f27 := hf 27 (by decide)
  have f28 := hf 28 (by decide)
  have f29 := hf 29 (by decide)
  have f30 := hf 30 (by decide)
  have f31 := hf 31 (by decide)
  have f40 := hf 40 (by decide)
  have f41 := hf 41 (by decide)
  have f42 := hf 42 (by decide)
  have f43 := hf 43 (by decide)
  have f44 := hf 44 (by decide)
  refine ⟨ho, legJ_of f8 f21 f15 a1, ?_, smE_of f31 h2 a3, toldI_of f44 f27 f28 f43 (fun _ _ _ => by rw [f10]) a4, ?_, ?_, ?_, ?_, ?_, ?_, ?_⟩
  · unfold netJ; rw [f8, f18, f15]; exact a2
  · unfold annI; rw [f27, f28, f8]; exact a5
  · unfold takI; rw [f29, f30]; exact a6
  · unfold recI; rw [f8, f23, f42]; exact a7
  · unfold relJ; rw [f8, f19, f40, f20, f18]; exact a8
  · unfold newI; rw [f8, f18, f19, f24]; exact a9
  · unfold msgI; rw [f25, f8, f9]; exact a10
  · unfold fd41; rw [f8, f18, f41, f22]; exact a11
/-! an entry of the book -/
theorem sBook_32 (S : ST) (b o c : Int) (v : Int64) (k : Int) : (sBook S b o c v k).2 32 = (sEnt S b o c v k).2 32 := by
  unfold sBook sMore sLess
  rw [pL_f _ _ _ (by decide)]
  show (if b = -1 then _ else _ : Nat → Int → Int64) 32 = _
  split
  · rfl
  · rw [pL_f _ _ _ (by decide)]
theorem rI_64 {x : Int} (h : rI x) : rI (Int64.ofInt x).toInt := by
  have e : (Int64.ofInt x).toInt = x := by
    unfold rI at h
    exact Int64.toInt_ofInt_of_le (by omega) (by omega)
  rw [e]; exact h
theorem smE_book {S : ST} (h : smE S) {b o c : Int} (v : Int64) {k : Int} (h31 : 0 ≤ S.1 31 0) (hb : rI b) (ho : rI o) (hc : rI c) (hk : rI k) : smE (sBook S b o c v k) := by
  intro j j0 j1
  rw [sBook_31] at j1
  rw [sBook_32]
  unfold sEnt
  rw [pI_2]
  by_cases e : j = S.1 31 0
  · rw [e]
    rw [pL_n _ _ _ _ (Or.inr (by omega)), pL_n _ _ _ _ (Or.inr (by omega)), pL_n _ _ _ _ (Or.inr (by omega)), pL_n _ _ _ _ (Or.inr (by omega)), pL_s]
    rw [pL_n _ _ _ _ (Or.inr (by omega)), pL_n _ _ _ _ (Or.inr (by omega)), pL_n _ _ _ _ (Or.inr (by omega)), pL_s]
    rw [pL_n _ _ _ _ (Or.inr (by omega)), pL_n _ _ _ _ (Or.inr (by omega)), pL_s, pL_s]
    exact ⟨rI_64 hb, rI_64 ho, rI_64 hc, rI_64 hk⟩
  · have q := h j j0 (by omega)
    have n : ∀ i : Int, 0 ≤ i → i ≤ 4 → (pL (pL (pL (pL (pL S 32 (5 * S.1 31 0) (Int64.ofInt b)) 32 (5 * S.1 31 0 + 1) (Int64.ofInt o)) 32 (5 * S.1 31 0 + 2) (Int64.ofInt c)) 32 (5 * S.1 31 0 + 3) v) 32 (5 * S.1 31 0 + 4) (Int64.ofInt k)).2 32 (5 * j + i) = S.2 32 (5 * j + i) := fun i i0 i1 => by
      rw [pL_n _ _ _ _ (Or.inr (by omega)), pL_n _ _ _ _ (Or.inr (by omega)), pL_n _ _ _ _ (Or.inr (by omega)), pL_n _ _ _ _ (Or.inr (by omega)), pL_n _ _ _ _ (Or.inr (by omega))]
    have n0 := n 0 (by omega) (by omega)
    rw [Int.add_zero] at n0
    rw [n0, n 1 (by omega) (by omega), n 2 (by omega) (by omega), n 4 (by omega) (by omega)]
    exact q
theorem inv_book {S : ST} (h : inv S) {b o c : Int} (v : Int64) {k : Int} (he : S.1 31 0 + cNF S ≤ 28999) (hb : rI b) (ho : rI o) (hc : rI c) (hk : rI k) : inv (sBook S b o c v k) := by
  obtain ⟨a0, a1, a2, a3, a4, a5, a6, a7, a8, a9, a10, a11⟩ := h
  have F : ∀ {f : Nat}, f ≠ 31 → (sBook S b o c v k).1 f = S.1 f := fun hf => sBook_f S b o c v k hf
  have w := (wf_31 a0.1 0).1
  refine ⟨okS_book a0 b o c v k he, legJ_of (F (by decide)) (F (by decide)) (F (by decide)) a1, ?_, smE_book a3 v w hb ho hc hk, toldI_of (F (by decide)) (F (by decide)) (F (by decide)) (F (by decide)) (fun _ _ _ => by rw [F (show (10 : Nat) ≠ 31 by decide)]) a4, ?_, ?_, ?_, ?_, ?_, ?_, ?_⟩
  · unfold netJ; rw [F (show (8 : Nat) ≠ 31 by decide), F (show (18 : Nat) ≠ 31 by decide), F (show (15 : Nat) ≠ 31 by decide)]; exact a2
  · unfold annI; rw [F (show (27 : Nat) ≠ 31 by decide), F (show (28 : Nat) ≠ 31 by decide), F (show (8 : Nat) ≠ 31 by decide)]; exact a5
  · unfold takI; rw [F (show (29 : Nat) ≠ 31 by decide), F (show (30 : Nat) ≠ 31 by decide)]; exact a6
  · unfold recI; rw [F (show (8 : Nat) ≠ 31 by decide), F (show (23 : Nat) ≠ 31 by decide), F (show (42 : Nat) ≠ 31 by decide)]; exact a7
  · unfold relJ; rw [F (show (8 : Nat) ≠ 31 by decide), F (show (19 : Nat) ≠ 31 by decide), F (show (40 : Nat) ≠ 31 by decide), F (show (20 : Nat) ≠ 31 by decide), F (show (18 : Nat) ≠ 31 by decide)]; exact a8
  · unfold newI; rw [F (show (8 : Nat) ≠ 31 by decide), F (show (18 : Nat) ≠ 31 by decide), F (show (19 : Nat) ≠ 31 by decide), F (show (24 : Nat) ≠ 31 by decide)]; exact a9
  · unfold msgI; rw [F (show (25 : Nat) ≠ 31 by decide), F (show (8 : Nat) ≠ 31 by decide), F (show (9 : Nat) ≠ 31 by decide)]; exact a10
  · unfold fd41; rw [F (show (8 : Nat) ≠ 31 by decide), F (show (18 : Nat) ≠ 31 by decide), F (show (41 : Nat) ≠ 31 by decide), F (show (22 : Nat) ≠ 31 by decide)]; exact a11
theorem gd_r {L : List Int} {k : Int} : (L ++ [k]).getD L.length (-1) = k := by rw [List.getD_eq_getElem?_getD, List.getElem?_append_right (Nat.le_refl _), Nat.sub_self]; rfl
theorem gd_l {L M : List Int} {i : Nat} (h : i < L.length) : (L ++ M).getD i (-1) = L.getD i (-1) := by rw [List.getD_eq_getElem?_getD, List.getD_eq_getElem?_getD, List.getElem?_append_left h]
/-! a payment becomes final -/
theorem sFin_32 (S : ST) (k : Int) : (sFin S k).2 32 = (sBk S k).2 32 := rfl
theorem inv_fin {S : ST} (h : inv S) {k : Int} (k0 : 0 ≤ k) (k1 : k < S.1 8 0) (hs : S.1 18 k ≠ 4) : inv (sFin S k) := by
  obtain ⟨a0, a1, a2, a3, a4, a5, a6, a7, a8, a9, a10, a11⟩ := h
  have w8 := wf_8 a0.1 0
  have w27 := wf_27 a0.1 0
  have hp := cNF_pos k0 (by omega) hs
  have F : ∀ {f : Nat}, (f ≠ 18 ∧ f ≠ 22 ∧ f ≠ 31 ∧ f ≠ 28 ∧ f ≠ 27 ∧ f ≠ 41 ∧ f ≠ 43 ∧ f ≠ 44) → (sFin S k).1 f = S.1 f := fun hf => sFin_f S k hf
  have f8 : (sFin S k).1 8 = S.1 8 := F (by decide)
  have f15 : (sFin S k).1 15 = S.1 15 := F (by decide)
  have f21 : (sFin S k).1 21 = S.1 21 := F (by decide)
  have f10 : (sFin S k).1 10 = S.1 10 := F (by decide)
  have f27 : (sFin S k).1 27 0 = S.1 27 0 + 1 := by rw [sFin_1]; simp [pI]
  have f28 : ∀ j : Int, (sFin S k).1 28 j = if j = S.1 27 0 then k else S.1 28 j := fun j => by rw [sFin_1]; simp [pI]
  have f43 : ∀ j : Int, (sFin S k).1 43 j = if j = 60 * S.1 10 k + S.1 44 (S.1 10 k) then k else S.1 43 j := fun j => by rw [sFin_1]; simp [pI]
  have f44 : ∀ j : Int, (sFin S k).1 44 j = if j = S.1 10 k then S.1 44 (S.1 10 k) + 1 else S.1 44 j := fun j => by rw [sFin_1]; simp [pI]
  have f41 : ∀ j : Int, (sFin S k).1 41 j = if j = k then S.1 0 0 else S.1 41 j := fun j => by rw [sFin_1]; simp [pI]
  have f22 : ∀ j : Int, (sFin S k).1 22 j = if j = k then S.1 0 0 else S.1 22 j := fun j => by rw [sFin_1]; simp [pI]
  have w10 := wf_10 a0.1 k
  have w44 := wf_44 a0.1 (S.1 10 k)
  refine ⟨sFin_ok a0 k0 (by omega) hs, legJ_of f8 f21 f15 a1, ?_, ?_, ?_, ?_, ?_, ?_, ?_, ?_, ?_, ?_⟩
  · intro j j0 j1
    rw [f8] at j1
    rw [sFin_18, f15]
    split
    · intro x; omega
    · exact a2 j j0 j1
  · have q : smE (sBk S k) := smE_book (S := pI (pI S 18 k 4) 22 k (S.1 0 0)) (smE_of (by rw [pI_f _ _ _ (by decide), pI_f _ _ _ (by decide)]) rfl a3) (Int64.ofInt (S.1 12 k)) (by rw [pI_f _ _ _ (by decide), pI_f _ _ _ (by decide)]; exact (wf_31 a0.1 0).1) (by have := wf_9 a0.1 k; unfold rI; omega) (by unfold rI; omega) (by have := wf_11 a0.1 k; unfold rI; omega) (by unfold rI; omega)
    refine smE_of ?_ (sFin_32 S k) q
    rw [sFin_1]
    rw [pI_f _ _ _ (by decide), pI_f _ _ _ (by decide), pI_f _ _ _ (by decide), pI_f _ _ _ (by decide), pI_f _ _ _ (by decide)]
    unfold sBk
    rw [sBook_1]
    funext j
    by_cases e : j = 0
    · rw [e, pI_s, pI_s, pI_f _ _ _ (by decide), pI_f _ _ _ (by decide)]
    · rw [pI_n _ _ _ _ (Or.inr e), pI_n _ _ _ _ (Or.inr e)]
  · have q : ∀ b : Int, aL (sFin S k) b ((sFin S k).1 27 0).toNat = aL S b (S.1 27 0).toNat ++ (if S.1 10 k = b then [k] else []) := fun b => by
      rw [f27, show (S.1 27 0 + 1).toNat = (S.1 27 0).toNat + 1 by omega, aL_s, aL_of (S := S) b (fun i i0 i1 => ⟨by rw [f28, if_neg (by omega)], by rw [f10]⟩), Int.toNat_of_nonneg w27.1, f28, if_pos rfl, f10]
    intro b b0 b1
    obtain ⟨c1, c2⟩ := a4 b b0 b1
    have hc := a0.2.2.2 b b0 b1
    have hc2 := a0.2.2.2 (S.1 10 k) w10.1 w10.2
    rw [q, f44]
    by_cases e : S.1 10 k = b
    · rw [if_pos e, if_pos e.symm, e]
      refine ⟨by rw [List.length_append, List.length_singleton]; omega, fun i hi => ?_⟩
      rw [List.length_append, List.length_singleton] at hi
      rw [f43, e]
      by_cases ei : i = (aL S b (S.1 27 0).toNat).length
      · rw [if_pos (by omega), ei, gd_r]
      · rw [if_neg (by omega), gd_l (by omega)]
        exact c2 i (by omega)
    · rw [if_neg e, if_neg (fun x => e x.symm), List.append_nil]
      refine ⟨c1, fun i hi => ?_⟩
      rw [f43, if_neg (by omega)]
      exact c2 i hi
  · intro i i0 i1
    rw [f27] at i1
    rw [f28, f8]
    split
    · exact ⟨k0, k1⟩
    · exact a5 i i0 (by omega)
  · unfold takI
    rw [F (f := 29) (by decide), F (f := 30) (by decide)]
    exact a6
  · unfold recI
    rw [f8, F (f := 23) (by decide), F (f := 42) (by decide)]
    exact a7
  · intro j j0 j1
    rw [f8] at j1
    rw [sFin_18, F (f := 19) (by decide), F (f := 40) (by decide), F (f := 20) (by decide)]
    refine ⟨(a8 j j0 j1).1, ?_⟩
    split
    · intro x; omega
    · exact (a8 j j0 j1).2
  · intro j j0 j1
    rw [f8] at j0
    rw [sFin_18, if_neg (by omega), F (f := 19) (by decide), F (f := 24) (by decide)]
    exact a9 j j0 j1
  · unfold msgI
    rw [f8, F (f := 25) (by decide), F (f := 9) (by decide)]
    exact a10
  · intro j j0 j1
    rw [f8] at j1
    rw [sFin_18, f41, f22]
    split
    · intro _; rfl
    · exact a11 j j0 j1
theorem inv_sets {S : ST} {I : Int → Bool} (h : inv S) : ∀ (n : Nat), n ≤ nP S → (∀ j : Int, 0 ≤ j → j < n → I j = true → S.1 18 j ≠ 4) → inv (sSets S I n) ∧ (sSets S I n).1 8 = S.1 8 ∧ (sSets S I n).1 21 = S.1 21 ∧ ∀ j : Int, (sSets S I n).1 18 j = if 0 ≤ j ∧ j < n ∧ I j = true then 4 else S.1 18 j
  | 0, _, _ => ⟨h, rfl, rfl, fun j => by rw [if_neg (by omega)]; rfl⟩
  | n + 1, hn, hI => by
    obtain ⟨q1, q2, q3, q4⟩ := inv_sets h n (by omega) (fun j a b => hI j a (by omega))
    have w8 := wf_8 h.1.1 0
    rw [sSets_s]
    by_cases e : I n = true
    · rw [if_pos e]
      have hs : (sSets S I n).1 18 n ≠ 4 := by rw [q4, if_neg (by omega)]; exact hI n (by omega) (by omega) e
      refine ⟨inv_fin q1 (by omega) (by rw [q2]; unfold nP at hn; omega) hs, by rw [sFin_f _ _ (by decide), q2], by rw [sFin_f _ _ (by decide), q3], fun j => ?_⟩
      rw [sFin_18, q4]
      by_cases ej : j = n
      · rw [if_pos ej, if_pos ⟨by omega, by omega, by rw [ej]; exact e⟩]
      · rw [if_neg ej]
        by_cases ek : 0 ≤ j ∧ j < n ∧ I j = true
        · rw [if_pos ek, if_pos ⟨ek.1, by omega, ek.2.2⟩]
        · rw [if_neg ek, if_neg (fun x => ek ⟨x.1, by omega, x.2.2⟩)]
    · rw [if_neg e]
      refine ⟨q1, q2, q3, fun j => ?_⟩
      rw [q4]
      by_cases ek : 0 ≤ j ∧ j < n ∧ I j = true
      · rw [if_pos ek, if_pos ⟨ek.1, by omega, ek.2.2⟩]
      · rw [if_neg ek, if_neg (fun x => ek ⟨x.1, by
          by_cases ej : j = n
          · rw [ej] at x; exact absurd x.2.2 e
          · omega, x.2.2⟩)]
/-- a set that holds a payment with its leg -/
theorem fin_sets {S : ST} {I : Int → Bool} (h : inv S) (hf : finJ S) (hI : ∀ j : Int, 0 ≤ j → j < nP S → I j = true → S.1 18 j ≠ 4) (hc : ∀ j : Int, 0 ≤ j → j < nP S → S.1 21 j ≠ -1 → I j = I (S.1 21 j)) : inv (sSets S I (nP S)) ∧ finJ (sSets S I (nP S)) := by
  obtain ⟨q1, q2, q3, q4⟩ := inv_sets h (nP S) (Nat.le_refl _) hI
  refine ⟨q1, fun k k0 k1 => ?_⟩
  have w8 := wf_8 h.1.1 0
  have en : (nP S : Int) = S.1 8 0 := by unfold nP; omega
  rw [q2] at k1
  rw [q3]
  by_cases e : S.1 21 k = -1
  · exact Or.inl e
  · right
    have hw := (legJ_W h.2.1 k k0 k1).resolve_left e
    have hck := hc k k0 (by omega) e
    have hfk := (hf k k0 k1).resolve_left e
    rw [q4, q4]
    by_cases eI : I k = true
    · rw [if_pos ⟨k0, by omega, eI⟩, if_pos ⟨hw.1, by omega, by rw [← hck]; exact eI⟩]
    · rw [if_neg (fun x => eI x.2.2), if_neg (fun x => eI (by rw [hck]; exact x.2.2))]
      exact hfk
theorem fin_first {S : ST} (h : inv S) (hf : finJ S) (b c : Int) : inv (sFirst S b c).2 ∧ finJ (sFirst S b c).2 := by
  unfold sFirst
  split
  · rename_i hq
    simp only [Bool.and_eq_true, Bool.not_eq_true', decide_eq_false_iff_not, fstOk, Bool.or_eq_true, decide_eq_true_eq] at hq
    obtain ⟨h1, ⟨⟨⟨h2, _⟩, _⟩, _⟩, _⟩ := hq
    have w8 := wf_8 h.1.1 0
    have en : (nP S : Int) = S.1 8 0 := by unfold nP; omega
    have hr := (qAt_r h.1.1 (rfl : qAt S b c 0 = _)).resolve_left h1
    obtain ⟨k, hk⟩ : ∃ k, k = qAt S b c 0 := ⟨_, rfl⟩
    rw [← hk] at hr h1 h2 ⊢
    refine fin_sets h hf ?_ ?_
    · intro j a1 a2 hj
      simp only [fstI, Bool.or_eq_true, decide_eq_true_eq] at hj
      rcases hj with hj | hj
      · rw [hj, hr.2.2.1]; decide
      · rcases h2 with q | q
        · omega
        · rw [hj, q]; decide
    · intro j j0 j1 hn
      rcases h.2.1 j j0 (by omega) with e | ⟨p1, p2, p3, p4, p5⟩
      · exact absurd e hn
      · unfold fstI
        rw [Bool.eq_iff_iff]
        simp only [Bool.or_eq_true, decide_eq_true_eq]
        constructor
        · rintro (e | e)
          · right; rw [e]
          · left
            rcases h.2.1 k hr.1 hr.2.1 with x | ⟨_, _, _, x, _⟩
            · omega
            · rw [e]; exact x
        · rintro (e | e)
          · right; rw [← e, p4]
          · left
            rcases h.2.1 k hr.1 hr.2.1 with x | ⟨_, _, _, x, _⟩
            · omega
            · rw [← p4, e, x]
  · exact ⟨h, hf⟩
theorem round_P {P : ST → Prop} (hP : ∀ (S : ST) (b c : Int), P S → P (sFirst S b c).2) {S : ST} (h : P S) : P (sRound S).2 := by
  have hC : ∀ (c : Int) (x : Int × ST), P x.2 → P (rdC c x).2 := fun c x hx => by
    have q := foS_keeps (P := fun x : Int × ST => P x.2) (f := rdB c) (s := x) hx (fun b y hy => hP y.2 b c hy) 6
    exact q
  have q := foS_keeps (P := fun x : Int × ST => P x.2) (f := rdC) (s := (0, S)) h hC 3
  exact q
theorem runN_P {P : ST → Prop} (hP : ∀ (S : ST) (b c : Int), P S → P (sFirst S b c).2) : ∀ (n : Nat) (a : Int) (T : ST), P T → P (sRunN n a T).2
  | 0, _, _, h => h
  | n + 1, a, T, h => by
    have q : P (sRound T).2 := round_P (P := P) (S := T) hP h
    unfold sRunN
    generalize sRound T = R at q ⊢
    by_cases e : R.1 ≤ 0
    · rw [if_pos e]; exact q
    · rw [if_neg e]; exact runN_P (P := P) hP n _ _ q
set_option maxRecDepth 100000 in
theorem runs_P {P : ST → Prop} (hP : ∀ (S : ST) (b c : Int), P S → P (sFirst S b c).2) {S : ST} (h : P S) : P (sRuns S).2 := by
  have q : P (sRunN 61 0 S).2 := @runN_P P hP 61 0 S h
  have e : sRuns S = sRunN 61 0 S := rfl
  rw [e]
  exact q
theorem fin_runs {S : ST} (h : inv S) (hf : finJ S) : inv (sRuns S).2 ∧ finJ (sRuns S).2 := runs_P (P := fun T => inv T ∧ finJ T) (fun T b c hT => fin_first hT.1 hT.2 b c) ⟨h, hf⟩
