/-! steps that keep what holds between the calls -/
theorem inv_18 {S T : ST} (h : inv S) (ho : okS T) (hF : ∀ f : Nat, f ≠ 18 → T.1 f = S.1 f) (h2 : T.2 32 = S.2 32) (hn : ∀ j : Int, S.1 8 0 ≤ j → T.1 18 j = S.1 18 j) (h4 : ∀ j : Int, T.1 18 j = 4 ↔ S.1 18 j = 4) (h3 : ∀ j : Int, 0 ≤ j → j < S.1 8 0 → T.1 18 j = 3 → S.1 15 j = 0) (h1 : ∀ j : Int, 0 ≤ j → j < S.1 8 0 → T.1 18 j = 1 → S.1 19 j = 0) : inv T := by
  obtain ⟨a0, a1, a2, a3, a4, a5, a6, a7, a8, a9, a10, a11⟩ := h
  have F : ∀ {f : Nat}, f ≠ 18 → T.1 f = S.1 f := fun hf => hF _ hf
  refine ⟨ho, legJ_of (F (by decide)) (F (by decide)) (F (by decide)) a1, ?_, smE_of (F (by decide)) h2 a3, toldI_of (F (by decide)) (F (by decide)) (F (by decide)) (F (by decide)) (fun _ _ _ => by rw [F (show (10 : Nat) ≠ 18 by decide)]) a4, ?_, ?_, ?_, ?_, ?_, ?_, ?_⟩
  · unfold netJ; rw [F (show (8 : Nat) ≠ 18 by decide), F (show (15 : Nat) ≠ 18 by decide)]; exact h3
  · unfold annI; rw [F (show (27 : Nat) ≠ 18 by decide), F (show (28 : Nat) ≠ 18 by decide), F (show (8 : Nat) ≠ 18 by decide)]; exact a5
  · unfold takI; rw [F (show (29 : Nat) ≠ 18 by decide), F (show (30 : Nat) ≠ 18 by decide)]; exact a6
  · unfold recI; rw [F (show (8 : Nat) ≠ 18 by decide), F (show (23 : Nat) ≠ 18 by decide), F (show (42 : Nat) ≠ 18 by decide)]; exact a7
  · unfold relJ; rw [F (show (8 : Nat) ≠ 18 by decide), F (show (19 : Nat) ≠ 18 by decide), F (show (40 : Nat) ≠ 18 by decide), F (show (20 : Nat) ≠ 18 by decide)]; exact fun j j0 j1 => ⟨(a8 j j0 j1).1, h1 j j0 j1⟩
  · unfold newI; rw [F (show (8 : Nat) ≠ 18 by decide), F (show (19 : Nat) ≠ 18 by decide), F (show (24 : Nat) ≠ 18 by decide)]; exact fun j j0 j1 => ⟨by rw [hn j j0]; exact (a9 j j0 j1).1, (a9 j j0 j1).2⟩
  · unfold msgI; rw [F (show (25 : Nat) ≠ 18 by decide), F (show (8 : Nat) ≠ 18 by decide), F (show (9 : Nat) ≠ 18 by decide)]; exact a10
  · unfold fd41; rw [F (show (8 : Nat) ≠ 18 by decide), F (show (41 : Nat) ≠ 18 by decide), F (show (22 : Nat) ≠ 18 by decide)]; exact fun j j0 j1 hj => a11 j j0 j1 ((h4 j).mp hj)
theorem fin_18 {S T : ST} (hf : finJ S) (hF : ∀ f : Nat, f ≠ 18 → T.1 f = S.1 f) (h4 : ∀ j : Int, T.1 18 j = 4 ↔ S.1 18 j = 4) : finJ T := finJ_of (hF 8 (by decide)) (hF 21 (by decide)) h4 hf
/-- one payment's state -/
theorem inv_one {S : ST} (h : inv S) (hf : finJ S) {k v : Int} (k0 : 0 ≤ k) (k1 : k < S.1 8 0) (hs : S.1 18 k ≠ 4) (hv : v ≠ 4) (hr : 0 ≤ v ∧ v ≤ 5) (h3 : v = 3 → S.1 15 k = 0) (h1 : v = 1 → S.1 19 k = 0) : inv (pI S 18 k v) ∧ finJ (pI S 18 k v) := by
  have w8 := wf_8 h.1.1 0
  have e : ∀ j : Int, (pI S 18 k v).1 18 j = if j = k then v else S.1 18 j := fun j => by simp [pI]
  have h4 : ∀ j : Int, (pI S 18 k v).1 18 j = 4 ↔ S.1 18 j = 4 := fun j => by
    rw [e]
    split
    · rename_i q
      rw [q]
      constructor <;> intro x <;> contradiction
    · exact Iff.rfl
  refine ⟨inv_18 h (okS_18 h.1 k0 (by omega) hs hv hr) (fun f hf => pI_f _ _ _ hf) rfl (fun j hj => by rw [e, if_neg (by omega)]) h4 (fun j j0 j1 => ?_) (fun j j0 j1 => ?_), fin_18 hf (fun f hf => pI_f _ _ _ hf) h4⟩
  · rw [e]
    split
    · rename_i q; rw [q]; exact h3
    · exact h.2.2.1 j j0 j1
  · rw [e]
    split
    · rename_i q; rw [q]; exact h1
    · exact (h.2.2.2.2.2.2.2.2.1 j j0 j1).2
theorem sEntV_c (S : ST) (k : Int) : (sEntV S k = 3 → S.1 15 k = 0) ∧ (sEntV S k = 1 → S.1 19 k = 0) ∧ sEntV S k ≠ 4 := by
  unfold sEntV
  split
  · rename_i q
    simp only [Bool.and_eq_true, Bool.not_eq_true', decide_eq_true_eq, decide_eq_false_iff_not] at q
    exact ⟨fun x => by omega, fun _ => q.2, by decide⟩
  · split
    · rename_i q; exact ⟨fun _ => q, fun x => by omega, by decide⟩
    · exact ⟨fun x => by omega, fun x => by omega, by decide⟩
theorem inv_ent {S : ST} (h : inv S) (hf : finJ S) {k : Int} (k0 : 0 ≤ k) (k1 : k < S.1 8 0) (hs : S.1 18 k ≠ 4) : inv (sEnter S k) ∧ finJ (sEnter S k) := by
  have c := sEntV_c S k
  have r := sEntV_r S k
  exact inv_one h hf k0 k1 hs c.2.2 (by omega) c.1 c.2.1
theorem inv_ret {S : ST} (h : inv S) (hf : finJ S) {k : Int} (k0 : 0 ≤ k) (k1 : k < S.1 8 0) (hs : S.1 18 k ≠ 4) : inv (sRet S k) ∧ finJ (sRet S k) := by
  have w8 := wf_8 h.1.1 0
  unfold sRet
  have a := inv_one h hf k0 k1 hs (v := 5) (by decide) (by decide) (fun x => absurd x (by decide)) (fun x => absurd x (by decide))
  split
  · rename_i q
    simp only [sRe1, Bool.and_eq_true, Bool.not_eq_true', decide_eq_false_iff_not] at q
    obtain ⟨l0, l1, l2, _⟩ := (h.2.1 k k0 k1).resolve_left q.1
    have f4 := (hf k k0 k1).resolve_left q.1
    exact inv_one a.1 a.2 l0 l1 (by rw [pI_n _ _ _ _ (Or.inr l2)]; exact fun x => hs (f4.mpr x)) (v := 5) (by decide) (by decide) (fun x => absurd x (by decide)) (fun x => absurd x (by decide))
  · exact a
/-! sets of payments without legs -/
theorem fin_red {S : ST} {I : Int → Bool} (h : inv S) (hf : finJ S) (c : Int) (q : Bool) (hI : ∀ j : Int, 0 ≤ j → j < nP S → I j = true → S.1 18 j ≠ 4 ∧ S.1 21 j = -1) : inv (sRedS S I c q).2 ∧ finJ (sRedS S I c q).2 := by
  have w8 := wf_8 h.1.1 0
  have en : (nP S : Int) = S.1 8 0 := by unfold nP; omega
  have sub : ∀ j : Int, 0 ≤ j → j < nP S → sRed S I c q j = true → S.1 18 j ≠ 4 ∧ S.1 21 j = -1 := fun j a b e => hI j a b (sRedN_sub 61 I j e)
  refine fin_sets h hf (fun j a b e => (sub j a b e).1) (fun j a b hn => ?_)
  obtain ⟨l0, l1, l2, l3, _⟩ := (h.2.1 j a (by omega)).resolve_left hn
  have e1 : sRed S I c q j = false := by
    cases e : sRed S I c q j with
    | false => rfl
    | true => exact absurd (sub j a b e).2 hn
  have e2 : sRed S I c q (S.1 21 j) = false := by
    cases e : sRed S I c q (S.1 21 j) with
    | false => rfl
    | true => exact absurd (sub _ l0 (by omega) e).2 (by omega)
  rw [e1, e2]
theorem fin_off {S : ST} (h : inv S) (hf : finJ S) (c : Int) : inv (sOff S c).2 ∧ finJ (sOff S c).2 := by
  unfold sOff
  split
  · refine fin_red h hf c true (fun j a b e => ?_)
    simp only [offI, Bool.and_eq_true, decide_eq_true_eq] at e
    exact ⟨by omega, by omega⟩
  · exact ⟨h, hf⟩
theorem fin_cut {S : ST} (h : inv S) (hf : finJ S) (c : Int) : inv (sCut S c).2 ∧ finJ (sCut S c).2 := by
  have w8 := wf_8 h.1.1 0
  refine fin_red h hf c false (fun j a b e => ?_)
  have e3 := netI_3 e
  have hj : j < S.1 8 0 := by unfold nP at b; omega
  refine ⟨by omega, ?_⟩
  rcases h.2.1 j a hj with x | ⟨_, _, _, _, x⟩
  · exact x
  · exact absurd (h.2.2.1 j a hj e3) x
theorem fin_ed1 {S : ST} (h : inv S) (hf : finJ S) : inv (sEd1 S).2 ∧ finJ (sEd1 S).2 := by
  have q := foS_keeps (P := fun x : Int × ST => inv x.2 ∧ finJ x.2) (f := ed1) (s := (0, S)) ⟨h, hf⟩ (fun c x hx => by
    unfold ed1
    split
    · exact fin_cut hx.1 hx.2 c
    · exact hx) 3
  exact q
theorem fin_ed2 {S : ST} (h : inv S) (hf : finJ S) : inv (sEd2 S) ∧ finJ (sEd2 S) := by
  have w8 := wf_8 h.1.1 0
  have q : ∀ n : Nat, n ≤ nP S → inv (foS ed2 S n) ∧ finJ (foS ed2 S n) ∧ (foS ed2 S n).1 8 0 = S.1 8 0 := by
    intro n
    induction n with
    | zero => intro _; exact ⟨h, hf, rfl⟩
    | succ n ih =>
      intro hn
      obtain ⟨a, b, c⟩ := ih (by omega)
      rw [foS_s]
      generalize foS ed2 S n = T at a b c ⊢
      unfold ed2
      split
      · rename_i hc
        simp only [Bool.and_eq_true, Bool.or_eq_true, decide_eq_true_eq] at hc
        have r := inv_ret (k := (n : Int)) a b (by omega) (by rw [c]; unfold nP at hn; omega) (by omega)
        exact ⟨r.1, r.2, by rw [sRet_f _ _ (by decide)]; exact c⟩
      · exact ⟨a, b, c⟩
  exact ⟨(q _ (Nat.le_refl _)).1, (q _ (Nat.le_refl _)).2.1⟩
theorem fin_ed5 {S : ST} (h : inv S) (hf : finJ S) : inv (sEd5 S) ∧ finJ (sEd5 S) := by
  have w8 := wf_8 h.1.1 0
  have q : ∀ n : Nat, n ≤ nP S → inv (foS ed5 S n) ∧ finJ (foS ed5 S n) ∧ (foS ed5 S n).1 8 0 = S.1 8 0 := by
    intro n
    induction n with
    | zero => intro _; exact ⟨h, hf, rfl⟩
    | succ n ih =>
      intro hn
      obtain ⟨a, b, c⟩ := ih (by omega)
      rw [foS_s]
      generalize foS ed5 S n = T at a b c ⊢
      unfold ed5
      split
      · rename_i hc
        simp only [Bool.and_eq_true, decide_eq_true_eq] at hc
        have r := inv_ent (k := (n : Int)) a b (by omega) (by rw [c]; unfold nP at hn; omega) (by omega)
        exact ⟨r.1, r.2, by unfold sEnter; rw [pI_f _ _ _ (by decide)]; exact c⟩
      · exact ⟨a, b, c⟩
  exact ⟨(q _ (Nat.le_refl _)).1, (q _ (Nat.le_refl _)).2.1⟩
/-- the book alone -/
theorem fin_book {S : ST} (hf : finJ S) (b o c : Int) (v : Int64) (k : Int) : finJ (sBook S b o c v k) := finJ_of (sBook_f S b o c v k (by decide)) (sBook_f S b o c v k (by decide)) (fun j => by rw [sBook_f S b o c v k (by decide)]) hf
