/-! the calls: the property's invariants -/
def evS (S T : ST) : Prop := S.1 31 0 ≤ T.1 31 0 ∧ pfx S T ∧ S.1 8 0 ≤ T.1 8 0 ∧ (∀ (g : Nat) (k : Int), (9 ≤ g ∧ g ≤ 12) ∨ g = 14 ∨ g = 15 → 0 ≤ k → k < S.1 8 0 → T.1 g k = S.1 g k) ∧ ∀ k : Int, 0 ≤ k → k < S.1 8 0 → (S.1 18 k = 4 → T.1 18 k = 4) ∧ (S.1 18 k = 5 → T.1 18 k = 5)
theorem evS_0 (S : ST) : evS S S := ⟨Int.le_refl _, fun _ _ _ => rfl, Int.le_refl _, fun _ _ _ _ _ => rfl, fun _ _ _ => ⟨id, id⟩⟩
theorem evS_R {S T : ST} (h : evR S T) : evS S T := by
  obtain ⟨a1, a2, a3, a4⟩ := h
  have e8 : T.1 8 = S.1 8 := a3 8 (by unfold cht; decide)
  refine ⟨a1, a2, by rw [e8]; exact Int.le_refl _, fun g k hg _ _ => by rw [a3 g (by unfold cht; omega)], fun k _ _ => ?_⟩
  rcases a4 k with q | q
  · rw [q]; exact ⟨id, id⟩
  · exact ⟨fun _ => q.1, fun x => absurd x q.2⟩
theorem evS_tr {S T U : ST} (h : evS S T) (h2 : evS T U) : evS S U := by
  obtain ⟨a1, a2, a3, a4, a5⟩ := h
  obtain ⟨b1, b2, b3, b4, b5⟩ := h2
  refine ⟨by omega, fun x x0 x1 => by rw [b2 x x0 (by omega), a2 x x0 x1], by omega, fun g k hg k0 k1 => by rw [b4 g k hg k0 (by omega), a4 g k hg k0 k1], fun k k0 k1 => ?_⟩
  have p := a5 k k0 k1
  have q := b5 k k0 (by omega)
  exact ⟨fun x => q.1 (p.1 x), fun x => q.2 (p.2 x)⟩
theorem fin_act {f : Int → Int64} {S T : ST} (hi : inv T) (hf : finJ T) (hk : kI f T) (he : evS S T) : kI f (sRuns T).2 ∧ evS S (sRuns T).2 ∧ evR T (sRuns T).2 := by
  have h := kk_runs (f := f) (S0 := T) (S := T) ⟨⟨hi, hf⟩, hk, evR_0 T⟩
  exact ⟨h.2.1, evS_tr he (evS_R h.2.2), h.2.2⟩
theorem kI_keep {f : Int → Int64} {S T : ST} (h : kI f S) (hF : ∀ g : Nat, (8 ≤ g ∧ g ≤ 12) ∨ g = 15 ∨ g = 27 ∨ g = 28 ∨ g = 31 → T.1 g = S.1 g) (h1 : T.2 1 = S.2 1) (h32 : T.2 32 = S.2 32) (h4 : ∀ j : Int, T.1 18 j = 4 ↔ S.1 18 j = 4) (hq : kQ T) (hp : kP T) (hl : kL T) (hr : kR T) (hb : kB T) : kI f T := by
  obtain ⟨a1, a2, a3, a4, a5, a6, a7, a8, a9, a10, a11, a12⟩ := h
  have f8 := hF 8 (by decide)
  have f9 := hF 9 (by decide)
  have f10 := hF 10 (by decide)
  have f11 := hF 11 (by decide)
  have f12 := hF 12 (by decide)
  have f27 := hF 27 (by decide)
  have f28 := hF 28 (by decide)
  have f31 := hF 31 (by decide)
  have hx : pfx S T := fun x _ _ => by rw [h32]
  refine ⟨kE_step a1 hx (by rw [f8]; exact Int.le_refl _) (fun k _ _ => ⟨by rw [f9], by rw [f10], by rw [f11], by rw [f12]⟩) (fun k _ _ x => (h4 k).mpr x) (fun j _ j1 j2 => by rw [f31] at j2; omega), ?_, kH_step a3 hx (by rw [f31]; exact Int.le_refl _) (fun k _ k1 x => Or.inl ⟨by rw [f8] at k1; exact k1, (h4 k).mp x⟩), ?_, ?_, hq, hp, ?_, hl, hr, ?_, hb⟩
  · unfold kU; rw [f31, h32]; exact a2
  · intro b c b0 b1 c0 c1
    have e : sAnew T b c (S.1 31 0).toNat = sAnew S b c (S.1 31 0).toNat := by
      by_cases q : 0 ≤ S.1 31 0
      · exact anew_pfx hx b c _ (by omega)
      · rw [show (S.1 31 0).toNat = 0 by omega]; rfl
    rw [h1, f31, e]
    exact a4 b c b0 b1 c0 c1
  · unfold kS; rw [h1]; exact a5
  · unfold kT; rw [f8, f9, f10, f12]; exact a8
  · intro i i0 i1
    rw [f27] at i1
    rw [f28]
    exact (h4 _).mpr (a11 i i0 i1)
theorem kI_pI {f : Int → Int64} {S : ST} (h : kI f S) {g : Nat} (k v : Int) (hg : g ≠ 2 ∧ g ≠ 3 ∧ g ≠ 8 ∧ g ≠ 9 ∧ g ≠ 10 ∧ g ≠ 11 ∧ g ≠ 12 ∧ g ≠ 15 ∧ g ≠ 18 ∧ g ≠ 23 ∧ g ≠ 27 ∧ g ≠ 28 ∧ g ≠ 30 ∧ g ≠ 31 ∧ g ≠ 44) : kI f (pI S g k v) := by
  obtain ⟨a1, a2, a3, a4, a5, a6, a7, a8, a9, a10, a11, a12⟩ := id h
  have F : ∀ {i : Nat}, i ≠ g → (pI S g k v).1 i = S.1 i := fun hi => pI_f _ _ _ hi
  refine kI_keep h (fun i hi => F (by omega)) rfl rfl (fun j => by rw [F (by omega)]) ?_ a7 ?_ ?_ ?_
  · unfold kQ; rw [F (i := 8) (by omega), F (i := 18) (by omega), F (i := 15) (by omega)]; exact a6
  · unfold kL; rw [F (i := 2) (by omega), F (i := 3) (by omega)]; exact a9
  · unfold kR; rw [F (i := 8) (by omega), F (i := 18) (by omega), F (i := 23) (by omega)]; exact a10
  · unfold kB; rw [F (i := 30) (by omega), F (i := 44) (by omega)]; exact a12
theorem evS_pI (S : ST) {g : Nat} (k v : Int) (hg : g ≠ 8 ∧ g ≠ 9 ∧ g ≠ 10 ∧ g ≠ 11 ∧ g ≠ 12 ∧ g ≠ 14 ∧ g ≠ 15 ∧ g ≠ 18 ∧ g ≠ 31) : evS S (pI S g k v) := by
  have F : ∀ {i : Nat}, i ≠ g → (pI S g k v).1 i = S.1 i := fun hi => pI_f _ _ _ hi
  refine ⟨by rw [F (by omega)]; exact Int.le_refl _, fun _ _ _ => rfl, by rw [F (by omega)]; exact Int.le_refl _, fun i j hi _ _ => by rw [F (by omega)], fun j _ _ => by rw [F (i := 18) (by omega)]; exact ⟨id, id⟩⟩
/-- states alone -/
theorem kI_18 {f : Int → Int64} {S T : ST} (h : kI f S) (hF : ∀ g : Nat, g ≠ 18 → T.1 g = S.1 g) (h2 : T.2 = S.2) (h4 : ∀ j : Int, T.1 18 j = 4 ↔ S.1 18 j = 4) (hq : ∀ k : Int, 0 ≤ k → k < S.1 8 0 → T.1 18 k = 2 → S.1 15 k ≠ 0) : kI f T := by
  obtain ⟨a1, a2, a3, a4, a5, a6, a7, a8, a9, a10, a11, a12⟩ := id h
  have F : ∀ {i : Nat}, i ≠ 18 → T.1 i = S.1 i := fun hi => hF _ hi
  refine kI_keep h (fun i hi => F (by omega)) (by rw [h2]) (by rw [h2]) h4 ?_ ?_ ?_ ?_ ?_
  · unfold kQ; rw [F (i := 8) (by decide), F (i := 15) (by decide)]; exact hq
  · unfold kP; rw [h2]; exact a7
  · unfold kL; rw [F (i := 2) (by decide), F (i := 3) (by decide)]; exact a9
  · unfold kR; rw [F (i := 8) (by decide), F (i := 23) (by decide)]; exact fun k k0 k1 x => (h4 k).mpr (a10 k k0 k1 x)
  · unfold kB; rw [F (i := 30) (by decide), F (i := 44) (by decide)]; exact a12
theorem evS_18 {S T : ST} (hF : ∀ g : Nat, g ≠ 18 → T.1 g = S.1 g) (h2 : T.2 = S.2) (h4 : ∀ j : Int, T.1 18 j = 4 ↔ S.1 18 j = 4) (h5 : ∀ j : Int, S.1 18 j = 5 → T.1 18 j = 5) : evS S T := by
  have F : ∀ {i : Nat}, i ≠ 18 → T.1 i = S.1 i := fun hi => hF _ hi
  exact ⟨by rw [F (by decide)]; exact Int.le_refl _, fun _ _ _ => by rw [h2], by rw [F (by decide)]; exact Int.le_refl _, fun i j hi _ _ => by rw [F (by omega)], fun j _ _ => ⟨(h4 j).mpr, h5 j⟩⟩
theorem act_one {f : Int → Int64} {S : ST} (h : kI f S) {k v : Int} (hs : S.1 18 k ≠ 4 ∧ S.1 18 k ≠ 5) (hv : v ≠ 4) (h2 : v = 2 → S.1 15 k ≠ 0) : kI f (pI S 18 k v) ∧ evS S (pI S 18 k v) := by
  have e : ∀ j : Int, (pI S 18 k v).1 18 j = if j = k then v else S.1 18 j := fun j => by simp [pI]
  have h4 : ∀ j : Int, (pI S 18 k v).1 18 j = 4 ↔ S.1 18 j = 4 := fun j => by
    rw [e]
    split
    · rename_i q
      rw [q]
      constructor
      · intro x; exact absurd x hv
      · intro x; exact absurd x hs.1
    · exact Iff.rfl
  refine ⟨kI_18 h (fun g hg => pI_f _ _ _ hg) rfl h4 (fun j j0 j1 => ?_), evS_18 (fun g hg => pI_f _ _ _ hg) rfl h4 (fun j hj => ?_)⟩
  · rw [e]
    split
    · rename_i q; rw [q]; exact h2
    · exact h.2.2.2.2.2.1 j j0 j1
  · rw [e]
    split
    · rename_i q; rw [q] at hj; exact absurd hj hs.2
    · exact hj
theorem sEntV_2 (S : ST) (k : Int) : sEntV S k = 2 → S.1 15 k ≠ 0 := by
  unfold sEntV
  split
  · intro x; omega
  · split
    · intro x; omega
    · rename_i q; exact fun _ => q
theorem act_ent {f : Int → Int64} {S : ST} (h : kI f S) {k : Int} (hs : S.1 18 k ≠ 4 ∧ S.1 18 k ≠ 5) : kI f (sEnter S k) ∧ evS S (sEnter S k) := act_one h hs (sEntV_c S k).2.2 (sEntV_2 S k)
theorem act_ret {f : Int → Int64} {S : ST} (h : kI f S) (hi : inv S) (hf : finJ S) {k : Int} (k0 : 0 ≤ k) (k1 : k < S.1 8 0) (hs : S.1 18 k ≠ 4) : kI f (sRet S k) ∧ evS S (sRet S k) := by
  have h4 : ∀ j : Int, (sRet S k).1 18 j = 4 ↔ S.1 18 j = 4 := fun j => sRet_4 hs (hf k k0 k1)
  have h2 : (sRet S k).2 = S.2 := by unfold sRet; split <;> rfl
  refine ⟨kI_18 h (fun g hg => sRet_f S k hg) h2 h4 (fun j j0 j1 hj => ?_), evS_18 (fun g hg => sRet_f S k hg) h2 h4 (fun j hj => ?_)⟩
  · rcases sRet_18 S k j with q | q
    · omega
    · exact h.2.2.2.2.2.1 j j0 j1 (by omega)
  · rcases sRet_18 S k j with q | q
    · exact q
    · omega
theorem ret_5 (S : ST) {k : Int} (hl : legJ S) (k0 : 0 ≤ k) (k1 : k < S.1 8 0) : (sRet S k).1 18 k = 5 := by
  unfold sRet
  split
  · rename_i q
    simp only [sRe1, Bool.and_eq_true, Bool.not_eq_true', decide_eq_false_iff_not] at q
    have l2 := (hl k k0 k1).resolve_left q.1
    rw [pI_n _ _ _ _ (Or.inr (by omega)), pI_s]
  · rw [pI_s]
/-! a booking that pays no payment -/
theorem book_4 (S : ST) (b o c : Int) (v : Int64) (k : Int) : (sBook S b o c v k).2 4 = S.2 4 := by
  unfold sBook sMore sLess
  rw [pL_f _ _ _ (by decide)]
  show (if b = -1 then _ else _ : Nat → Int → Int64) 4 = _
  split
  · rfl
  · rw [pL_f _ _ _ (by decide)]; rfl
theorem kI_book {f f' : Int → Int64} {S : ST} (h : kI f S) (hw : wf S) {b o c : Int} {v : Int64} (hb : -1 ≤ b ∧ b ≤ 6) (ho : 0 ≤ o ∧ o ≤ 6) (hc : 0 ≤ c ∧ c ≤ 2) (hv : 0 < v) (hs : kS f' (sBook S b o c v (-1))) : kI f' (sBook S b o c v (-1)) ∧ evS S (sBook S b o c v (-1)) := by
  obtain ⟨a1, a2, a3, a4, a5, a6, a7, a8, a9, a10, a11, a12⟩ := id h
  have w31 := wf_31 hw 0
  have F : ∀ {i : Nat}, i ≠ 31 → (sBook S b o c v (-1)).1 i = S.1 i := fun hi => sBook_f S b o c v (-1) hi
  have hk : bkS S (sBook S b o c v (-1)) b o c v (-1) := ⟨sBook_31 _ _ _ _ _ _, fun x => by rw [sBook_32], fun _ => rfl⟩
  have hx := bk_pfx hk
  obtain ⟨e0, e1, e2, e3, e4⟩ := bk_at hk
  have h31 := hk.1
  refine ⟨⟨kE_step a1 hx (by rw [F (by decide)]; exact Int.le_refl _) (fun k _ _ => ⟨by rw [F (by decide)], by rw [F (by decide)], by rw [F (by decide)], by rw [F (by decide)]⟩) (fun k _ _ x => by rw [F (by decide)]; exact x) (fun j _ j1 j2 => ?_), kU_step a2 hx (by omega) (fun _ => Or.inl e4), kH_step a3 hx (by omega) (fun k _ k1 x => Or.inl ⟨by rw [F (by decide)] at k1; exact k1, by rw [F (by decide)] at x; exact x⟩), kA_bk a4 w31.1 hk hb ho hc, hs, ?_, ?_, ?_, ?_, ?_, ?_, ?_⟩, ⟨by omega, hx, by rw [F (by decide)]; exact Int.le_refl _, fun g k hg _ _ => by rw [F (by omega)], fun k _ _ => by rw [F (by decide)]; exact ⟨id, id⟩⟩⟩
  · have ej : j = S.1 31 0 := by omega
    unfold entOK
    rw [ej, e3, e4]
    exact ⟨hv, Or.inl rfl⟩
  · unfold kQ; rw [F (i := 8) (by decide), F (i := 18) (by decide), F (i := 15) (by decide)]; exact a6
  · unfold kP; rw [book_4]; exact a7
  · unfold kT; rw [F (i := 8) (by decide), F (i := 9) (by decide), F (i := 10) (by decide), F (i := 12) (by decide)]; exact a8
  · unfold kL; rw [F (i := 2) (by decide), F (i := 3) (by decide)]; exact a9
  · unfold kR; rw [F (i := 8) (by decide), F (i := 23) (by decide), F (i := 18) (by decide)]; exact a10
  · unfold kF; rw [F (i := 27) (by decide), F (i := 28) (by decide), F (i := 18) (by decide)]; exact a11
  · unfold kB; rw [F (i := 30) (by decide), F (i := 44) (by decide)]; exact a12
theorem pos64 {z : Int} (h : 0 < z ∧ z ≤ 1000000000000000000) : 0 < Int64.ofInt z := by
  rw [Int64.lt_iff_toInt_lt, ti_of (by omega)]
  have q : (0 : Int64).toInt = 0 := by decide
  omega
theorem act_chg {f : Int → Int64} {S : ST} (h : kI f S) (hw : wf S) {b c : Int} (hw1 : wf (sCh1 S b c)) (hb : 0 ≤ b ∧ b ≤ 5) (hc : 0 ≤ c ∧ c ≤ 2) : kI f (sChg S b c) ∧ evS S (sChg S b c) := by
  have bk : ∀ (T : ST) (v : Int64), bkS T (sBook T b 6 c v (-1)) b 6 c v (-1) := fun T v => ⟨sBook_31 _ _ _ _ _ _, fun x => by rw [sBook_32], fun _ => rfl⟩
  have hf := sFee_r S b c (nP S)
  have h8 := nP_le hw
  have h1 : kI f (sCh1 S b c) ∧ evS S (sCh1 S b c) := by
    unfold sCh1
    split
    · exact kI_book h hw (by omega) (by omega) hc (pos64 (by omega)) (kS_bk h.2.2.2.2.1 (bk S _) (by omega) (by omega) hc)
    · exact ⟨h, evS_0 S⟩
  unfold sChg
  split
  · rename_i q
    have h2 := kI_book h1.1 hw1 (b := b) (o := 6) (c := c) (by omega) (by omega) hc q (kS_bk h1.1.2.2.2.2.1 (bk _ _) (by omega) (by omega) hc)
    exact ⟨h2.1, evS_tr h1.2 h2.2⟩
  · exact h1
