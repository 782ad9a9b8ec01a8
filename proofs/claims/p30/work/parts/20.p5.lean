/-! entries are booked as payments become FINAL; what the end of the day keeps -/
theorem sFin_31 (S : ST) (k : Int) : (sFin S k).1 31 0 = S.1 31 0 + 1 := by
  rw [sFin_1]
  simp [pI]
theorem sSets_31 (S : ST) (I : Int → Bool) : ∀ n : Nat, (sSets S I n).1 31 0 = S.1 31 0 + cnB I n
  | 0 => by show S.1 31 0 = S.1 31 0 + 0; omega
  | n + 1 => by
    have h := sSets_31 S I n
    rw [sSets_s, cnB_s]
    split
    · rename_i e; rw [sFin_31, h, e]; show _ + 1 = _ + (_ + 1); omega
    · rename_i e; rw [h]; simp only [Bool.not_eq_true] at e; rw [e]; show _ = _ + (_ + 0); omega
def rdE (S : ST) (x : Int × ST) : Prop := x.2.1 31 0 = S.1 31 0 + x.1
theorem sRedS_31 (S : ST) (I : Int → Bool) (c : Int) (q : Bool) : rdE S (sRedS S I c q) := sSets_31 _ _ _
theorem sFirst_31 (S : ST) (b c : Int) : rdE S (sFirst S b c) := by
  unfold sFirst
  split
  · exact sSets_31 _ _ _
  · show S.1 31 0 = S.1 31 0 + 0; omega
theorem rdB_31 {S : ST} {x : Int × ST} {b c : Int} (h : rdE S x) : rdE S (rdB c b x) := by
  have h2 := sFirst_31 x.2 b c
  unfold rdE at h h2 ⊢
  show (sFirst x.2 b c).2.1 31 0 = S.1 31 0 + (x.1 + (sFirst x.2 b c).1)
  omega
theorem rdE_0 (S : ST) : rdE S (0, S) := by show S.1 31 0 = S.1 31 0 + 0; omega
theorem rdC_31 {S : ST} {x : Int × ST} {c : Int} (h : rdE S x) : rdE S (rdC c x) := foS_keeps (P := rdE S) h (fun _ _ h => rdB_31 h) 6
theorem sRound_31 (S : ST) : rdE S (sRound S) := foS_keeps (P := rdE S) (rdE_0 S) (fun _ _ h => rdC_31 h) 3
theorem sRunN_31 {S : ST} : ∀ (n : Nat) (a : Int) (x : ST), rdE S (a, x) → rdE S (sRunN n a x)
  | 0, _, _, h => h
  | n + 1, a, x, h => by
    have r := sRound_31 x
    unfold sRunN
    generalize sRound x = y at r ⊢
    have key : rdE S (a + y.1, y.2) := by
      unfold rdE at h r ⊢
      show y.2.1 31 0 = S.1 31 0 + (a + y.1)
      have h' : x.1 31 0 = S.1 31 0 + a := h
      omega
    split
    · exact key
    · exact sRunN_31 n _ _ key
theorem sRuns_31 (S : ST) : rdE S (sRuns S) := sRunN_31 61 0 S (rdE_0 S)
/-- the end of the day, part by part -/
def e1Ok (S : ST) (x : Int × ST) : Prop := rdOk S x ∧ rdE S x ∧ lg4 x.2
theorem ed1_ok {S : ST} {x : Int × ST} {c : Int} (h : e1Ok S x) : e1Ok S (ed1 c x) := by
  obtain ⟨⟨h1, h2, h3, h4⟩, h5, h6⟩ := h
  obtain ⟨⟨r1, r2, r3, r4⟩, r5⟩ := sCut_ok h1 h6 c
  have r6 : rdE x.2 (sCut x.2 c) := sRedS_31 _ _ _ _
  unfold ed1
  split
  · refine ⟨rdOk_mk r1 (by omega) (by omega) (fun f hf => (r4 f hf).trans (h4 f hf)), ?_, r5⟩
    unfold rdE at h5 r6 ⊢
    show (sCut x.2 c).2.1 31 0 = S.1 31 0 + (x.1 + (sCut x.2 c).1)
    omega
  · exact ⟨rdOk_mk h1 (by omega) (by omega) h4, by unfold rdE at h5 ⊢; show x.2.1 31 0 = S.1 31 0 + (x.1 + 0); omega, h6⟩
theorem e1Ok_0 {S : ST} (h : okS S) (hl : lg4 S) : e1Ok S (0, S) := ⟨rdOk_0 h, rdE_0 S, hl⟩
theorem ed1_all {S : ST} (h : okS S) (hl : lg4 S) (n : Nat) : e1Ok S (foS ed1 (0, S) n) := foS_keeps (P := e1Ok S) (e1Ok_0 h hl) (fun _ _ h => ed1_ok h) n
def e2Ok (S T : ST) : Prop := okS T ∧ lg4 T ∧ cNF T = cNF S ∧ ∀ f : Nat, f ≠ 18 → T.1 f = S.1 f
theorem ed2_ok {S T : ST} {k : Int} (h0 : 0 ≤ k) (h1 : k < T.1 8 0) (h : e2Ok S T) : e2Ok S (ed2 k T) := by
  obtain ⟨q1, q2, q3, q4⟩ := h
  unfold ed2
  split
  · rename_i hc
    simp only [Bool.and_eq_true, Bool.or_eq_true, decide_eq_true_eq] at hc
    have hs : T.1 18 k ≠ 4 := by omega
    have hg : T.1 21 k = -1 ∨ (T.1 18 k = 4 ↔ T.1 18 (T.1 21 k) = 4) := by
      rcases q2 k h0 h1 with h | h
      · exact Or.inl h
      · exact Or.inr h.1
    exact ⟨okS_ret q1 h0 h1 hs q2, lg4_ret h0 h1 hs q2, (cNF_ret hs hg).trans q3, fun f hf => (sRet_f T k hf).trans (q4 f hf)⟩
  · exact ⟨q1, q2, q3, q4⟩
theorem ed2_all {S : ST} (h : okS S) (hl : lg4 S) : ∀ n : Nat, n ≤ nP S → e2Ok S (foS ed2 S n)
  | 0, _ => ⟨h, hl, rfl, fun _ _ => rfl⟩
  | n + 1, hn => by
    have ih := ed2_all h hl n (by omega)
    have h8 : (foS ed2 S n).1 8 0 = S.1 8 0 := by rw [ih.2.2.2 8 (by decide)]
    exact ed2_ok (by omega) (by rw [h8]; unfold nP at hn; omega) ih
def e3Ok (S T : ST) (n : Int) : Prop := okS T ∧ cNF T = cNF S ∧ S.1 31 0 ≤ T.1 31 0 ∧ T.1 31 0 ≤ S.1 31 0 + 2 * n ∧ ∀ f : Nat, f ≠ 31 → T.1 f = S.1 f
theorem book_e3 {S T : ST} {n m : Int} (h : e3Ok S T n) (b o c : Int) (v : Int64) (k : Int) (he : T.1 31 0 + cNF T ≤ 28999) (hm : T.1 31 0 + 1 ≤ S.1 31 0 + 2 * m) : e3Ok S (sBook T b o c v k) m := by
  obtain ⟨q1, q2, q3, q4, q5⟩ := h
  have h31 := sBook_31 T b o c v k
  exact ⟨okS_book q1 b o c v k he, (cNF_book T b o c v k).trans q2, by omega, by omega, fun f hf => (sBook_f T b o c v k hf).trans (q5 f hf)⟩
theorem e3_le {S T : ST} {n m : Int} (h : e3Ok S T n) (hm : n ≤ m) : e3Ok S T m := ⟨h.1, h.2.1, h.2.2.1, by have := h.2.2.2.1; omega, h.2.2.2.2⟩
theorem sChg_e3 {S T : ST} {n b c : Int} (h : e3Ok S T n) (he : S.1 31 0 + cNF S + 2 * n ≤ 28900) : e3Ok S (sChg T b c) (n + 1) := by
  have hc := h.2.1
  have h4 := h.2.2.2.1
  have h1 : e3Ok S (sCh1 T b c) (n + 1) ∧ (sCh1 T b c).1 31 0 ≤ T.1 31 0 + 1 := by
    unfold sCh1
    split
    · exact ⟨book_e3 h _ _ _ _ _ (by omega) (by omega), by rw [sBook_31]; omega⟩
    · exact ⟨e3_le h (by omega), by omega⟩
  have hc1 := h1.1.2.1
  unfold sChg
  split
  · exact book_e3 h1.1 _ _ _ _ _ (by omega) (by omega)
  · exact h1.1
theorem ed3_all {S : ST} (h : okS S) (he : S.1 31 0 + cNF S ≤ 28800) : ∀ n : Nat, n ≤ 18 → e3Ok S (foS ed3 S n) n
  | 0, _ => ⟨h, rfl, by show S.1 31 0 ≤ S.1 31 0; omega, by show S.1 31 0 ≤ S.1 31 0 + 2 * 0; omega, fun _ _ => rfl⟩
  | n + 1, hn => by
    have ih := ed3_all h he n (by omega)
    have r := sChg_e3 (b := (n : Int) / 3) (c := (n : Int) % 3) ih (by omega)
    have e : ((n + 1 : Nat) : Int) = (n : Int) + 1 := by omega
    rw [e]
    exact r
theorem ed4_1 (S : ST) : ∀ n : Nat, (foS ed4 S n).1 = S.1
  | 0 => rfl
  | n + 1 => ed4_1 S n
def e5Ok (S T : ST) : Prop := okS T ∧ cNF T = cNF S ∧ (∀ f : Nat, f ≠ 18 → T.1 f = S.1 f)
theorem ed5_ok {S T : ST} {k : Int} (h0 : 0 ≤ k) (h1 : k < 60) (h : e5Ok S T) : e5Ok S (ed5 k T) := by
  obtain ⟨q1, q2, q3⟩ := h
  unfold ed5
  split
  · rename_i hc
    simp only [Bool.and_eq_true, decide_eq_true_eq] at hc
    have hv := sEntV_r T k
    exact ⟨okS_ent q1 h0 h1 (by omega), (cNF_18 h0 h1 (by omega) (by omega)).trans q2, fun f hf => (pI_f T k _ hf).trans (q3 f hf)⟩
  · exact ⟨q1, q2, q3⟩
theorem ed5_all {S : ST} (h : okS S) : ∀ n : Nat, n ≤ 60 → e5Ok S (foS ed5 S n)
  | 0, _ => ⟨h, rfl, fun _ _ => rfl⟩
  | n + 1, hn => ed5_ok (by omega) (by omega) (ed5_all h n (by omega))
