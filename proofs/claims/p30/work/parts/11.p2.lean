/-! sets of payments: what they change, whether they can settle; a queue's first one; the queues' run -/
def nP (S : ST) : Nat := (S.1 8 0).toNat
theorem nP_le {S : ST} (h : wf S) : nP S ≤ 60 := by
  have := wf_8 h 0
  unfold nP
  omega
theorem dS_congr {S : ST} {I J : Int → Bool} {x : Int} : ∀ {n : Nat}, (∀ j : Int, 0 ≤ j → j < n → I j = J j) → dS S I n x = dS S J n x := fun {n} h => suL_congr (n := n) (fun k h1 h2 => by rw [h k h1 h2])
theorem pS_congr {S : ST} {I J : Int → Bool} {x : Int} : ∀ {n : Nat}, (∀ j : Int, 0 ≤ j → j < n → I j = J j) → pS S I n x = pS S J n x := fun {n} h => suL_congr (n := n) (fun k h1 h2 => by rw [h k h1 h2])
theorem alB_congr {p q : Int → Bool} : ∀ {n : Nat}, (∀ j : Int, 0 ≤ j → j < n → p j = q j) → alB p n = alB q n
  | 0, _ => rfl
  | n + 1, h => by rw [alB, alB, alB_congr (fun j a b => h j a (by omega)), h n (by omega) (by omega)]
theorem anB_congr {p q : Int → Bool} : ∀ {n : Nat}, (∀ j : Int, 0 ≤ j → j < n → p j = q j) → anB p n = anB q n
  | 0, _ => rfl
  | n + 1, h => by rw [anB, anB, anB_congr (fun j a b => h j a (by omega)), h n (by omega) (by omega)]
theorem anB_iff (q : Int → Bool) : ∀ n : Nat, anB q n = true ↔ ∃ k : Int, 0 ≤ k ∧ k < n ∧ q k = true
  | 0 => ⟨fun h => (by cases h), fun ⟨k, h1, h2, _⟩ => (by omega)⟩
  | n + 1 => by
    rw [anB, Bool.or_eq_true, anB_iff q n]
    constructor
    · rintro (⟨k, h1, h2, h3⟩ | h)
      · exact ⟨k, h1, by omega, h3⟩
      · exact ⟨n, by omega, by omega, h⟩
    · rintro ⟨k, h1, h2, h3⟩
      by_cases h : k = n
      · rw [h] at h3; exact Or.inr h3
      · exact Or.inl ⟨k, h1, by omega, h3⟩
theorem shX_congr {S : ST} {a a' : Int → Int64} {b c : Int} (h : a (3 * b + c) = a' (3 * b + c)) : shX S a b c = shX S a' b c := by
  unfold shX
  rw [h]
theorem paX_congr {S : ST} {q q' : Int → Int64} {b u c : Int} (h : q (3 * (6 * b + u) + c) = q' (3 * (6 * b + u) + c)) : paX S q b u c = paX S q' b u c := by
  unfold paX
  rw [h]
theorem fiX_congr {S : ST} {a a' q q' : Int → Int64} {c : Int} (hc : 0 ≤ c ∧ c ≤ 2) (ha : ∀ x : Int, 0 ≤ x → x < 21 → a x = a' x) (hq : ∀ x : Int, 0 ≤ x → x < 108 → q x = q' x) : fiX S a q c = fiX S a' q' c := by
  unfold fiX
  refine alB_congr (fun b h1 h2 => ?_)
  rw [shX_congr (ha (3 * b + c) (by omega) (by omega)), alB_congr (fun u h3 h4 => by rw [paX_congr (hq (3 * (6 * b + u) + c) (by omega) (by omega))])]
def fit (S : ST) (I : Int → Bool) (c : Int) : Bool := fiX S (dS S I (nP S)) (pS S I (nP S)) c
def wrk (S : ST) (I : Int → Bool) : Bool := wrkS S I (nP S)
theorem cnB_congr {I J : Int → Bool} {n : Nat} (h : ∀ j : Int, 0 ≤ j → j < n → I j = J j) : cnB I n = cnB J n := suI_congr (fun j a b => by rw [h j a b])
theorem sSets_congr {S : ST} {I J : Int → Bool} {n : Nat} (h : ∀ j : Int, 0 ≤ j → j < n → I j = J j) : sSets S I n = sSets S J n := foS_congr (fun j a b x => by rw [h j a b])
theorem fit_congr {S : ST} {I J : Int → Bool} {c : Int} (hc : 0 ≤ c ∧ c ≤ 2) (h : ∀ j : Int, 0 ≤ j → j < nP S → I j = J j) : fit S I c = fit S J c := fiX_congr hc (fun _ _ _ => dS_congr h) (fun _ _ _ => pS_congr h)
theorem qR_mem {S : ST} {b c h k : Int} : ∀ {n : Nat}, k ∈ qR S b c h n → 0 ≤ k ∧ k < n ∧ isQ S b c h k = true
  | 0, hk => by simp [qR] at hk
  | n + 1, hk => by
    rw [qR_s, List.mem_append] at hk
    rcases hk with hk | hk
    · obtain ⟨h1, h2, h3⟩ := qR_mem hk
      exact ⟨h1, by omega, h3⟩
    · split at hk
      · rename_i hq
        rw [List.mem_singleton] at hk
        subst hk
        exact ⟨by omega, by omega, hq⟩
      · simp at hk
theorem isQ_iff {S : ST} {b c h k : Int} : isQ S b c h k = true ↔ S.1 18 k = 2 ∧ S.1 9 k = b ∧ S.1 11 k = c ∧ S.1 14 k = h := by
  simp [isQ, and_assoc]
theorem qL_mem {S : ST} {b c k : Int} (hw : wf S) (h : k ∈ qL S b c) : 0 ≤ k ∧ k < S.1 8 0 ∧ S.1 18 k = 2 ∧ S.1 9 k = b ∧ S.1 11 k = c := by
  have h8 := wf_8 hw 0
  unfold qL at h
  rw [List.mem_append, List.mem_append] at h
  rcases h with h | h | h <;>
    (obtain ⟨h1, h2, h3⟩ := qR_mem h
     have h4 := isQ_iff.mp h3
     exact ⟨h1, by omega, h4.1, h4.2.1, h4.2.2.1⟩)
theorem qAt_r {S : ST} {b c p z : Int} (hw : wf S) (h : z = qAt S b c p) : z = -1 ∨ (0 ≤ z ∧ z < S.1 8 0 ∧ S.1 18 z = 2 ∧ S.1 9 z = b ∧ S.1 11 z = c) := by
  unfold qAt at h
  rw [List.getD_eq_getElem?_getD] at h
  cases hq : (qL S b c)[p.toNat]? with
  | none => rw [hq] at h; exact Or.inl h
  | some y =>
    rw [hq] at h
    have hz : z = y := h
    subst hz
    exact Or.inr (qL_mem hw (List.mem_of_getElem? hq))
/-- the first one of a queue, with its leg -/
def fstI (S : ST) (k : Int) : Int → Bool := fun j => decide (j = k) || decide (j = S.1 21 k)
def fstOk (S : ST) (k : Int) : Bool := (decide (S.1 21 k = -1) || decide (S.1 18 (S.1 21 k) = 2)) && wrk S (fstI S k) && fit S (fstI S k) 0 && fit S (fstI S k) 1 && fit S (fstI S k) 2
def sFirst (S : ST) (b c : Int) : Int × ST := if (!decide (qAt S b c 0 = -1) && fstOk S (qAt S b c 0)) = true then (cnB (fstI S (qAt S b c 0)) (nP S), sSets S (fstI S (qAt S b c 0)) (nP S)) else (0, S)
theorem sFirst_no {S : ST} {b c k : Int} (hk : k = qAt S b c 0) (h : k = -1 ∨ (¬ S.1 21 k = -1 ∧ ¬ S.1 18 (S.1 21 k) = 2)) : sFirst S b c = (0, S) := by
  unfold sFirst
  rw [← hk, if_neg]
  rcases h with h | ⟨h1, h2⟩
  · simp [h]
  · simp [fstOk, h1, h2]
theorem cnB_nn (I : Int → Bool) (n : Nat) : 0 ≤ cnB I n := suI_nn (fun j _ _ => by rcases bI_01 (I j) with h | h <;> omega)
theorem sFirst_ok {S : ST} (ho : okS S) (b c : Int) : okS (sFirst S b c).2 ∧ 0 ≤ (sFirst S b c).1 ∧ cNF (sFirst S b c).2 = cNF S - (sFirst S b c).1 ∧ ∀ f : Nat, cht f → (sFirst S b c).2.1 f = S.1 f := by
  unfold sFirst
  split
  · rename_i h
    simp only [Bool.and_eq_true, Bool.not_eq_true', decide_eq_false_iff_not, fstOk, Bool.or_eq_true, decide_eq_true_eq] at h
    obtain ⟨h1, ⟨⟨⟨h2, _⟩, _⟩, _⟩, _⟩ := h
    have hq := qAt_r ho.1 (rfl : qAt S b c 0 = _)
    have hI : ∀ j : Int, 0 ≤ j → j < nP S → fstI S (qAt S b c 0) j = true → S.1 18 j ≠ 4 := by
      intro j a1 a2 hj
      simp only [fstI, Bool.or_eq_true, decide_eq_true_eq] at hj
      rcases hj with hj | hj
      · rw [hj]
        rcases hq with q | q
        · exact absurd q h1
        · rw [q.2.2.1]; decide
      · rcases h2 with q | q
        · omega
        · rw [hj, q]; decide
    obtain ⟨r1, r2, r3, r4⟩ := sSets_inv (I := fstI S (qAt S b c 0)) ho (nP S) (nP_le ho.1) hI
    exact ⟨r1, cnB_nn _ _, r4, r2⟩
  · exact ⟨ho, Int.le_refl 0, by simp, fun _ _ => rfl⟩
/-- a round through the queues, and rounds as long as something settles -/
def rdB (c : Int) (b : Int) (x : Int × ST) : Int × ST := (x.1 + (sFirst x.2 b c).1, (sFirst x.2 b c).2)
def rdC (c : Int) (x : Int × ST) : Int × ST := foS (rdB c) x 6
def sRound (S : ST) : Int × ST := foS rdC (0, S) 3
def sRunN : Nat → Int → ST → Int × ST
  | 0, a, S => (a, S)
  | n + 1, a, S => if (sRound S).1 ≤ 0 then (a + (sRound S).1, (sRound S).2) else sRunN n (a + (sRound S).1) (sRound S).2
def sRuns (S : ST) : Int × ST := sRunN 61 0 S
/-- what a part of a round keeps -/
def rdOk (S : ST) (x : Int × ST) : Prop := okS x.2 ∧ 0 ≤ x.1 ∧ cNF x.2 + x.1 = cNF S ∧ ∀ f : Nat, cht f → x.2.1 f = S.1 f
theorem rdOk_0 {S : ST} (h : okS S) : rdOk S (0, S) := ⟨h, Int.le_refl 0, by simp, fun _ _ => rfl⟩
theorem rdOk_mk {S T : ST} {n : Int} (h1 : okS T) (h2 : 0 ≤ n) (h3 : cNF T + n = cNF S) (h4 : ∀ f : Nat, cht f → T.1 f = S.1 f) : rdOk S (n, T) := ⟨h1, h2, h3, h4⟩
theorem rdB_ok {S : ST} {x : Int × ST} {b c : Int} (h : rdOk S x) : rdOk S (rdB c b x) := by
  obtain ⟨h1, h2, h3, h4⟩ := h
  obtain ⟨r1, r2, r3, r4⟩ := sFirst_ok h1 b c
  exact ⟨r1, by show 0 ≤ x.1 + (sFirst x.2 b c).1; omega, by show cNF (sFirst x.2 b c).2 + (x.1 + (sFirst x.2 b c).1) = cNF S; omega, fun f hf => (r4 f hf).trans (h4 f hf)⟩
theorem foS_keeps {σ : Type} {P : σ → Prop} {f : Int → σ → σ} {s : σ} (h0 : P s) (h : ∀ (k : Int) (x : σ), P x → P (f k x)) : ∀ n : Nat, P (foS f s n)
  | 0 => h0
  | n + 1 => h n _ (foS_keeps h0 h n)
theorem rdC_ok {S : ST} {x : Int × ST} {c : Int} (h : rdOk S x) : rdOk S (rdC c x) := foS_keeps (P := rdOk S) h (fun _ _ h => rdB_ok h) 6
theorem sRound_ok {S : ST} (h : okS S) : rdOk S (sRound S) := foS_keeps (P := rdOk S) (rdOk_0 h) (fun _ _ h => rdC_ok h) 3
theorem sRunN_ok {S : ST} : ∀ (n : Nat) (a : Int) (x : ST), rdOk S (a, x) → rdOk S (sRunN n a x)
  | 0, _, _, h => h
  | n + 1, a, x, h => by
    obtain ⟨h1, h2, h3, h4⟩ := h
    obtain ⟨r1, r2, r3, r4⟩ := sRound_ok h1
    have h2' : 0 ≤ a := h2
    have h3' : cNF x + a = cNF S := h3
    unfold sRunN
    generalize sRound x = y at r1 r2 r3 r4 ⊢
    have key : rdOk S (a + y.1, y.2) := rdOk_mk r1 (by omega) (by omega) (fun f hf => (r4 f hf).trans (h4 f hf))
    split
    · exact key
    · exact sRunN_ok n _ _ key
theorem sRuns_ok {S : ST} (h : okS S) : rdOk S (sRuns S) := sRunN_ok 61 0 S (rdOk_0 h)
