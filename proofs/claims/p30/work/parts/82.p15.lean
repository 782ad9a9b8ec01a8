/-! the other steps -/
theorem inv_msg {S : ST} (hi : inv S) {b m k : Int} (hb : 0 ≤ b ∧ b ≤ 5) (hm : 0 ≤ m ∧ m ≤ 99) (hk : 0 ≤ k ∧ k < S.1 8 0) (h9 : S.1 9 k = b) : inv (pI S 25 (100 * b + m) k) := by
  obtain ⟨a0, a1, a2, a3, a4, a5, a6, a7, a8, a9, a10, a11⟩ := hi
  have w8 := wf_8 a0.1 0
  refine ⟨okS_pI a0 _ _ (by decide) (by simp only [rLo, rHi]; omega), a1, a2, a3, toldI_of (S := S) rfl rfl rfl rfl (fun _ _ _ => rfl) a4, a5, a6, a7, a8, a9, ?_, a11⟩
  intro x y x0 x1 y0 y1
  by_cases e : x = b ∧ y = m
  · rw [e.1, e.2, pI_s]
    exact Or.inr ⟨hk.1, hk.2, h9⟩
  · rw [pI_n _ _ _ _ (Or.inr (by omega))]
    exact a10 x y x0 x1 y0 y1
theorem fin_pI {S : ST} (hf : finJ S) {f : Nat} (k v : Int) (h : f ≠ 8 ∧ f ≠ 21 ∧ f ≠ 18) : finJ (pI S f k v) := finJ_of (pI_f _ _ _ (fun e => h.1 e.symm)) (pI_f _ _ _ (fun e => h.2.1 e.symm)) (fun j => by rw [pI_f _ _ _ (fun e => h.2.2 e.symm)]) hf
/-- a field that nothing here speaks of -/
theorem inv_pI {S : ST} (hi : inv S) {f : Nat} (k v : Int) (hf : f < 8 ∨ f = 26) (hv : rLo f ≤ v ∧ v ≤ rHi f) : inv (pI S f k v) := inv_keep (okS_pI hi.1 k v (by omega) hv) (fun g hg => pI_f _ _ _ (by omega)) rfl hi
theorem inv_24 {S : ST} (hi : inv S) {k v : Int} (k1 : k < S.1 8 0) (hv : 0 ≤ v ∧ v ≤ 1) : inv (pI S 24 k v) := by
  obtain ⟨a0, a1, a2, a3, a4, a5, a6, a7, a8, a9, a10, a11⟩ := hi
  refine ⟨okS_pI a0 _ _ (by decide) (by simp only [rLo, rHi]; omega), a1, a2, a3, toldI_of (S := S) rfl rfl rfl rfl (fun _ _ _ => rfl) a4, a5, a6, a7, a8, ?_, a10, a11⟩
  intro j j0 j1
  rw [pI_n S k j v (f := 24) (g := 24) (Or.inr (by
    have q : S.1 8 0 ≤ j := j0
    omega))]
  exact a9 j j0 j1
theorem inv_recall {S : ST} (hi : inv S) (k : Int) : inv (pI (pI S 23 k (S.1 0 0)) 42 k (S.1 0 0 + 2)) := by
  obtain ⟨a0, a1, a2, a3, a4, a5, a6, a7, a8, a9, a10, a11⟩ := hi
  have w0 := wf_0 a0.1 0
  refine ⟨okS_pI (okS_pI a0 _ _ (by decide) (by simp only [rLo, rHi]; omega)) _ _ (by decide) (by simp only [rLo, rHi]; omega), a1, a2, a3, toldI_of (S := S) rfl rfl rfl rfl (fun _ _ _ => rfl) a4, a5, a6, ?_, a8, a9, a10, a11⟩
  intro j j0 j1
  by_cases e : j = k
  · rw [e, pI_s, pI_f _ _ _ (by decide), pI_s]
    exact Or.inr ⟨w0.1, rfl⟩
  · have q : ∀ f : Nat, (pI (pI S 23 k (S.1 0 0)) 42 k (S.1 0 0 + 2)).1 f j = S.1 f j := fun f => by rw [pI_n _ _ _ _ (Or.inr e), pI_n _ _ _ _ (Or.inr e)]
    rw [q, q]
    exact a7 j j0 j1
theorem inv_rel1 {S : ST} (hi : inv S) (k : Int) {y : Int} (hy : 0 ≤ y ∧ y ≤ 3) : inv (pI (pI S 20 k y) 40 k y) := by
  obtain ⟨a0, a1, a2, a3, a4, a5, a6, a7, a8, a9, a10, a11⟩ := hi
  refine ⟨okS_pI (okS_pI a0 _ _ (by decide) (by simp only [rLo, rHi]; omega)) _ _ (by decide) (by simp only [rLo, rHi]; omega), a1, a2, a3, toldI_of (S := S) rfl rfl rfl rfl (fun _ _ _ => rfl) a4, a5, a6, a7, ?_, a9, a10, a11⟩
  intro j j0 j1
  by_cases e : j = k
  · refine ⟨fun _ => ?_, (a8 j j0 j1).2⟩
    rw [e, pI_s, pI_f _ _ _ (by decide), pI_s]
  · refine ⟨fun h => ?_, (a8 j j0 j1).2⟩
    rw [pI_n _ _ _ _ (Or.inr e), pI_f _ _ _ (by decide), pI_f _ _ _ (by decide), pI_n _ _ _ _ (Or.inr e)]
    exact (a8 j j0 j1).1 h
theorem inv_rel2 {S : ST} (hi : inv S) (hf : finJ S) {k y : Int} (k0 : 0 ≤ k) (k1 : k < S.1 8 0) (h18 : S.1 18 k = 1) (hy : 0 ≤ y ∧ y ≤ 3) : inv (pI (sEnter (pI S 19 k 1) k) 40 k y) ∧ finJ (pI (sEnter (pI S 19 k 1) k) 40 k y) := by
  have w8 := wf_8 hi.1.1 0
  obtain ⟨a0, a1, a2, a3, a4, a5, a6, a7, a8, a9, a10, a11⟩ := hi
  have hv := sEntV_c (pI S 19 k 1) k
  have hr := sEntV_r (pI S 19 k 1) k
  have e18 : ∀ j : Int, (pI (sEnter (pI S 19 k 1) k) 40 k y).1 18 j = if j = k then sEntV (pI S 19 k 1) k else S.1 18 j := fun j => by
    rw [pI_f _ _ _ (by decide)]
    unfold sEnter
    by_cases e : j = k
    · rw [e, pI_s, if_pos rfl]
    · rw [pI_n _ _ _ _ (Or.inr e), pI_f _ _ _ (by decide), if_neg e]
  have e19 : ∀ j : Int, (pI (sEnter (pI S 19 k 1) k) 40 k y).1 19 j = if j = k then 1 else S.1 19 j := fun j => by
    rw [pI_f _ _ _ (by decide)]
    unfold sEnter
    rw [pI_f _ _ _ (by decide)]
    by_cases e : j = k
    · rw [e, pI_s, if_pos rfl]
    · rw [pI_n _ _ _ _ (Or.inr e), if_neg e]
  have h1 : sEntV (pI S 19 k 1) k ≠ 1 := by
    intro x
    have := hv.2.1 x
    rw [pI_s] at this
    omega
  have h3 : sEntV (pI S 19 k 1) k = 3 → S.1 15 k = 0 := by
    intro x
    have := hv.1 x
    rw [pI_f _ _ _ (by decide)] at this
    exact this
  have F : ∀ {f : Nat}, f ≠ 18 ∧ f ≠ 19 ∧ f ≠ 40 → (pI (sEnter (pI S 19 k 1) k) 40 k y).1 f = S.1 f := fun hf => by
    rw [pI_f _ _ _ hf.2.2]
    unfold sEnter
    rw [pI_f _ _ _ hf.1, pI_f _ _ _ hf.2.1]
  have e40 : ∀ j : Int, j ≠ k → (pI (sEnter (pI S 19 k 1) k) 40 k y).1 40 j = S.1 40 j := fun j e => by
    rw [pI_n _ _ _ _ (Or.inr e)]
    unfold sEnter
    rw [pI_f _ _ _ (by decide), pI_f _ _ _ (by decide)]
  have hO : okS (pI (sEnter (pI S 19 k 1) k) 40 k y) := okS_pI (okS_ent (okS_pI a0 k 1 (by decide) (by decide)) k0 (by omega) (by rw [pI_f _ _ _ (by decide), h18]; decide)) k y (by decide) (by simp only [rLo, rHi]; omega)
  have h2 : (pI (sEnter (pI S 19 k 1) k) 40 k y).2 = S.2 := rfl
  generalize pI (sEnter (pI S 19 k 1) k) 40 k y = T at *
  have h4 : ∀ j : Int, T.1 18 j = 4 ↔ S.1 18 j = 4 := fun j => by
    rw [e18]
    split
    · rename_i e
      rw [e, h18]
      constructor
      · intro x; exact absurd x hv.2.2
      · intro x; omega
    · exact Iff.rfl
  refine ⟨⟨hO, legJ_of (F (by decide)) (F (by decide)) (F (by decide)) a1, ?_, smE_of (F (by decide)) (by rw [h2]) a3, toldI_of (F (by decide)) (F (by decide)) (F (by decide)) (F (by decide)) (fun _ _ _ => by rw [F (f := 10) (by decide)]) a4, ?_, ?_, ?_, ?_, ?_, ?_, ?_⟩, finJ_of (F (by decide)) (F (by decide)) h4 hf⟩
  · intro j j0 j1
    rw [F (f := 8) (by decide)] at j1
    rw [e18, F (f := 15) (by decide)]
    split
    · rename_i e; rw [e]; exact h3
    · exact a2 j j0 j1
  · unfold annI; rw [F (f := 27) (by decide), F (f := 28) (by decide), F (f := 8) (by decide)]; exact a5
  · unfold takI; rw [F (f := 29) (by decide), F (f := 30) (by decide)]; exact a6
  · unfold recI; rw [F (f := 8) (by decide), F (f := 23) (by decide), F (f := 42) (by decide)]; exact a7
  · intro j j0 j1
    rw [F (f := 8) (by decide)] at j1
    rw [e18, e19, F (f := 20) (by decide)]
    by_cases e : j = k
    · rw [if_pos e, if_pos e]
      exact ⟨fun x => absurd x (by decide), fun x => absurd x h1⟩
    · rw [if_neg e, if_neg e, e40 j e]
      exact a8 j j0 j1
  · intro j j0 j1
    rw [F (f := 8) (by decide)] at j0
    rw [e18, e19, F (f := 24) (by decide), if_neg (by omega), if_neg (by omega)]
    exact a9 j j0 j1
  · unfold msgI; rw [F (f := 25) (by decide), F (f := 8) (by decide), F (f := 9) (by decide)]; exact a10
  · intro j j0 j1 hj
    rw [F (f := 8) (by decide)] at j1
    rw [F (f := 41) (by decide), F (f := 22) (by decide)]
    exact a11 j j0 j1 ((h4 j).mp hj)
theorem inv_join {S : ST} (hi : inv S) (hf : finJ S) {k u : Int} (k0 : 0 ≤ k) (k1 : k < S.1 8 0) (u0 : 0 ≤ u) (u1 : u < S.1 8 0) (h : sJoin S k u = true) : inv (pI (pI S 21 k u) 21 u k) ∧ finJ (pI (pI S 21 k u) 21 u k) := by
  obtain ⟨a0, a1, a2, a3, a4, a5, a6, a7, a8, a9, a10, a11⟩ := hi
  have w8 := wf_8 a0.1 0
  simp only [sJoin, sJ1, sEnds, Bool.and_eq_true, Bool.not_eq_true', decide_eq_true_eq, decide_eq_false_iff_not, Bool.or_eq_false_iff] at h
  obtain ⟨⟨⟨⟨⟨⟨⟨⟨⟨hne, hk4⟩, hu4⟩, hk15⟩, hu15⟩, _⟩, _⟩, _⟩, hk21⟩, hu21⟩ := h
  have e21 : ∀ j : Int, (pI (pI S 21 k u) 21 u k).1 21 j = if j = u then k else if j = k then u else S.1 21 j := fun j => by simp [pI]
  have hO : okS (pI (pI S 21 k u) 21 u k) := okS_pI (okS_pI a0 k u (by decide) (by simp only [rLo, rHi]; omega)) u k (by decide) (by simp only [rLo, rHi]; omega)
  refine ⟨⟨hO, ?_, a2, a3, toldI_of (S := S) rfl rfl rfl rfl (fun _ _ _ => rfl) a4, a5, a6, a7, a8, a9, a10, a11⟩, ?_⟩
  · intro j j0 j1
    have j1 : j < S.1 8 0 := j1
    show (pI (pI S 21 k u) 21 u k).1 21 j = -1 ∨ (0 ≤ (pI (pI S 21 k u) 21 u k).1 21 j ∧ (pI (pI S 21 k u) 21 u k).1 21 j < S.1 8 0 ∧ (pI (pI S 21 k u) 21 u k).1 21 j ≠ j ∧ (pI (pI S 21 k u) 21 u k).1 21 ((pI (pI S 21 k u) 21 u k).1 21 j) = j ∧ S.1 15 j ≠ 0)
    rw [e21, e21]
    by_cases e : j = u
    · rw [if_pos e, if_neg hne, if_pos rfl, e]
      exact Or.inr ⟨k0, k1, hne, rfl, hu15⟩
    · rw [if_neg e]
      by_cases e2 : j = k
      · rw [if_pos e2, if_pos rfl, e2]
        exact Or.inr ⟨u0, u1, fun x => hne x.symm, rfl, hk15⟩
      · rw [if_neg e2]
        rcases a1 j j0 j1 with x | ⟨x0, x1, x2, x3, x4⟩
        · exact Or.inl x
        · refine Or.inr ⟨x0, x1, x2, ?_, x4⟩
          rw [if_neg (fun q => by rw [q, hu21] at x3; omega), if_neg (fun q => by rw [q, hk21] at x3; omega)]
          exact x3
  · intro j j0 j1
    have j1 : j < S.1 8 0 := j1
    show (pI (pI S 21 k u) 21 u k).1 21 j = -1 ∨ (S.1 18 j = 4 ↔ S.1 18 ((pI (pI S 21 k u) 21 u k).1 21 j) = 4)
    rw [e21]
    by_cases e : j = u
    · rw [if_pos e, e]
      exact Or.inr ⟨fun x => absurd x hu4.1, fun x => absurd x hk4.1⟩
    · rw [if_neg e]
      by_cases e2 : j = k
      · rw [if_pos e2, e2]
        exact Or.inr ⟨fun x => absurd x hk4.1, fun x => absurd x hu4.1⟩
      · rw [if_neg e2]
        exact hf j j0 j1
theorem inv_list {S : ST} (hi : inv S) (hf : finJ S) {nm : Int} (is : Bool) : ∀ n : Nat, n ≤ nP S → inv (sList S nm is n).2 ∧ finJ (sList S nm is n).2 ∧ (∀ f : Nat, f ≠ 18 → f ≠ 7 → (sList S nm is n).2.1 f = S.1 f) ∧ (sList S nm is n).2.2 = S.2 ∧ cNF (sList S nm is n).2 = cNF S := by
  have w8 := wf_8 hi.1.1 0
  intro n
  induction n with
  | zero =>
    intro _
    exact ⟨inv_pI hi _ _ (by decide) (by rcases bI_01 is with h | h <;> rw [h] <;> decide), fin_pI hf _ _ (by decide), fun f _ h7 => pI_f _ _ _ h7, rfl, cNF_pI (by decide)⟩
  | succ n ih =>
    intro hn
    obtain ⟨a, b, c, d, e⟩ := ih (by omega)
    have s : sList S nm is (n + 1) = lsB nm is n (sList S nm is n) := rfl
    rw [s]
    generalize sList S nm is n = x at a b c d e ⊢
    unfold lsB
    split
    · rename_i hc
      simp only [lsC, Bool.and_eq_true, Bool.or_eq_true, decide_eq_true_eq] at hc
      have f8 : x.2.1 8 0 = S.1 8 0 := by rw [c 8 (by decide) (by decide)]
      have r := inv_one (k := (n : Int)) (v := 1) a b (by omega) (by rw [f8]; unfold nP at hn; omega) (by omega) (by decide) (by decide) (fun q => absurd q (by decide)) (fun _ => hc.1.2)
      refine ⟨r.1, r.2, fun f h18 h7 => ?_, d, ?_⟩
      · show (pI x.2 18 n 1).1 f = S.1 f
        rw [pI_f _ _ _ h18]; exact c f h18 h7
      · exact (cNF_18 (by omega) (by unfold nP at hn; omega) (by omega) (by decide)).trans e
    · exact ⟨a, b, c, d, e⟩
theorem inv_tak {S : ST} (hi : inv S) (hf : finJ S) {b x y : Int} (hx : 0 ≤ x ∧ x ≤ 60) (hy : 0 ≤ y ∧ y ≤ 60) (hxy : x ≤ y) : inv (pI (pI S 29 b x) 30 b y) ∧ finJ (pI (pI S 29 b x) 30 b y) := by
  obtain ⟨a0, a1, a2, a3, a4, a5, a6, a7, a8, a9, a10, a11⟩ := hi
  refine ⟨⟨okS_pI (okS_pI a0 _ _ (by decide) (by simp only [rLo, rHi]; omega)) _ _ (by decide) (by simp only [rLo, rHi]; omega), a1, a2, a3, toldI_of (S := S) rfl rfl rfl rfl (fun _ _ _ => rfl) a4, a5, ?_, a7, a8, a9, a10, a11⟩, hf⟩
  intro j j0 j1
  by_cases e : j = b
  · rw [e, pI_s, pI_f _ _ _ (by decide), pI_s]; exact hxy
  · rw [pI_f _ _ _ (by decide), pI_n _ _ _ _ (Or.inr e), pI_n _ _ _ _ (Or.inr e), pI_f _ _ _ (by decide)]
    exact a6 j j0 j1
theorem pI_id (S : ST) (f : Nat) (k : Int) : pI S f k (S.1 f k) = S := pI_self S f k
