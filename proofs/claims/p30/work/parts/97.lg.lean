/-! the law's look into the book and into a queue: what it needs -/
theorem suL_z {f : Int → Int64} {b : Int} (h : 0 ≤ b) : suL f b.toNat + f b = suL f (b + 1).toNat := by
  rw [show (b + 1).toNat = b.toNat + 1 by omega]
  show _ = suL f b.toNat + f ((b.toNat : Nat) : Int)
  rw [Int.toNat_of_nonneg h]
/-- the law's row e while it reads the entries from g on, k of them next -/
def eSt (S M N : ST) (g k : Int) : Prop := (∀ f : Nat, f ≠ 4 → N.1 f = M.1 f) ∧ N.2 = M.2 ∧ ∀ i : Int, 0 ≤ i → i < 60 → (N.1 4 i = 4 ∧ ∃ j : Int, g ≤ j ∧ j < k ∧ S.2 32 (5 * j + 4) = Int64.ofInt i) ∨ (N.1 4 i = M.1 4 i ∧ ∀ j : Int, g ≤ j → j < k → S.2 32 (5 * j + 4) ≠ Int64.ofInt i)
theorem eSt_0 (S M : ST) (g : Int) : eSt S M M g g := ⟨fun _ _ => rfl, rfl, fun _ _ _ => Or.inr ⟨rfl, fun j a b => by omega⟩⟩
theorem eSt_neg {S M N : ST} {g k : Int} (h : eSt S M N g k) (hk : S.2 32 (5 * k + 4) = Int64.ofInt (-1)) : eSt S M N g (k + 1) := by
  refine ⟨h.1, h.2.1, fun i i0 i1 => ?_⟩
  rcases h.2.2 i i0 i1 with ⟨a, j, j0, j1, j2⟩ | ⟨a, b⟩
  · exact Or.inl ⟨a, j, j0, by omega, j2⟩
  · refine Or.inr ⟨a, fun j j0 j1 => ?_⟩
    by_cases e : j = k
    · rw [e, hk, ne_eq, of_inj (by omega) (by omega)]; omega
    · exact b j j0 (by omega)
theorem eSt_pos {S M N : ST} {g k its : Int} (h : eSt S M N g k) (hg : g ≤ k) (h0 : 0 ≤ its) (h1 : its < 60) (hk : S.2 32 (5 * k + 4) = Int64.ofInt its) : eSt S M (pI N 4 its 4) g (k + 1) := by
  refine ⟨fun f hf => by rw [pI_f _ _ _ hf]; exact h.1 f hf, h.2.1, fun i i0 i1 => ?_⟩
  by_cases e : i = its
  · rw [e, pI_s]
    exact Or.inl ⟨rfl, k, hg, by omega, hk⟩
  · rw [pI_n _ _ _ _ (Or.inr e)]
    rcases h.2.2 i i0 i1 with ⟨a, j, j0, j1, j2⟩ | ⟨a, b⟩
    · exact Or.inl ⟨a, j, j0, by omega, j2⟩
    · refine Or.inr ⟨a, fun j j0 j1 => ?_⟩
      by_cases e2 : j = k
      · rw [e2, hk, ne_eq, of_inj (by omega) (by omega)]; omega
      · exact b j j0 (by omega)
/-- an entry, as the law reads it -/
theorem ent_its {S : ST} (hw : wf S) (h : kE S) {k : Int} (k0 : 0 ≤ k) (k1 : k < S.1 31 0) : ∃ its : Int, S.2 32 (5 * k + 4) = Int64.ofInt its ∧ 0 < S.2 32 (5 * k + 3) ∧ -1 ≤ its ∧ its < 60 ∧ (its = -1 ∨ (0 ≤ its ∧ its < S.1 8 0 ∧ S.1 18 its = 4 ∧ S.2 32 (5 * k) = Int64.ofInt (S.1 9 its) ∧ S.2 32 (5 * k + 1) = Int64.ofInt (S.1 10 its) ∧ S.2 32 (5 * k + 2) = Int64.ofInt (S.1 11 its) ∧ S.2 32 (5 * k + 3) = Int64.ofInt (S.1 12 its))) := by
  have w8 := wf_8 hw 0
  obtain ⟨a, b⟩ := h k k0 k1
  rcases b with b | ⟨i, i0, i1, i2, i3, i4⟩
  · exact ⟨-1, b, a, by omega, by omega, Or.inl rfl⟩
  · exact ⟨i, i2, a, by omega, by omega, Or.inr ⟨i0, i1, i3, i4⟩⟩
theorem ent_lt {S0 S M N : ST} {k its : Int} (hw0 : wf S0) (hE0 : kE S0) (hH0 : kH S0) (hU : kU S) (he : evS S0 S) (hM : lM S0 S M) (h : eSt S M N (M.1 0 2) k) (hg : M.1 0 2 ≤ k) (k1 : k < S.1 31 0) (h0 : 0 ≤ its) (h1 : its < 60) (h4 : S.1 18 its = 4) (hk : S.2 32 (5 * k + 4) = Int64.ofInt its) : 0 ≤ N.1 4 its ∧ N.1 4 its < 4 := by
  have w31 := wf_31 hw0 0
  have g2 := hM.2.2.1
  have nm : S.2 32 (5 * k + 4) ≠ Int64.ofInt (-1) := by rw [hk, ne_eq, of_inj (by omega) (by omega)]; omega
  rcases h.2.2 its h0 h1 with ⟨a, j, j0, j1, j2⟩ | ⟨a, b⟩
  · have := hU k j (by omega) k1 (by omega) (by omega) (hk.trans j2.symm) nm
    omega
  · rw [a, hM.2.2.2.2 its h0 h1]
    by_cases e : its < S0.1 8 0
    · rw [if_pos e]
      have w := wf_18 hw0 its
      have v := he.2.2.2.2 its h0 e
      by_cases e4 : S0.1 18 its = 4
      · obtain ⟨j, j0, j1, j2⟩ := hH0 its h0 e e4
        have p := he.2.1 (5 * j + 4) (by omega) (by omega)
        have := hU k j (by omega) k1 j0 (by have := he.1; omega) (by rw [hk, p, j2]) nm
        omega
      · by_cases e5 : S0.1 18 its = 5
        · have := v.2 e5; omega
        · omega
    · rw [if_neg e]; omega
theorem ent_iff {S0 S M N : ST} {i : Int} (hw0 : wf S0) (hE0 : kE S0) (hw : wf S) (hE : kE S) (hH : kH S) (he : evS S0 S) (hM : lM S0 S M) (h : eSt S M N (M.1 0 2) (S.1 31 0)) (h0 : 0 ≤ i) (h1 : i < S.1 8 0) : (N.1 4 i = 4 ↔ S.1 18 i = 4) ∧ (N.1 4 i = 5 → S.1 18 i = 5) ∧ 0 ≤ N.1 4 i ∧ N.1 4 i ≤ 5 := by
  have w8 := wf_8 hw 0
  have w80 := wf_8 hw0 0
  have w31 := wf_31 hw0 0
  have g2 := hM.2.2.1
  rcases h.2.2 i h0 (by omega) with ⟨a, j, j0, j1, j2⟩ | ⟨a, b⟩
  · have s4 : S.1 18 i = 4 := by
      rcases (hE j (by omega) j1).2 with q | ⟨k', q0, q1, q2, q3, _⟩
      · rw [j2, of_inj (by omega) (by omega)] at q; omega
      · rw [j2, of_inj (by omega) (by omega)] at q2
        rw [q2]; exact q3
    rw [a]
    exact ⟨⟨fun _ => s4, fun _ => rfl⟩, fun x => by omega, by omega, by omega⟩
  · have m := hM.2.2.2.2 i h0 (by omega)
    rw [a, m]
    by_cases e : i < S0.1 8 0
    · rw [if_pos e]
      have w := wf_18 hw0 i
      have v := he.2.2.2.2 i h0 e
      refine ⟨⟨v.1, fun x => ?_⟩, v.2, w.1, w.2⟩
      obtain ⟨j, j0, j1, j2⟩ := hH i h0 h1 x
      by_cases ej : j < S0.1 31 0
      · have p := he.2.1 (5 * j + 4) (by omega) (by omega)
        rcases (hE0 j j0 ej).2 with q | ⟨k', q0, q1, q2, q3, _⟩
        · rw [← p, j2, of_inj (by omega) (by omega)] at q; omega
        · rw [← p, j2, of_inj (by omega) (by omega)] at q2
          rw [q2]; exact q3
      · exact absurd j2 (b j (by omega) j1)
    · rw [if_neg e]
      refine ⟨⟨fun x => by omega, fun x => ?_⟩, fun x => by omega, by omega, by omega⟩
      obtain ⟨j, j0, j1, j2⟩ := hH i h0 h1 x
      by_cases ej : j < S0.1 31 0
      · have p := he.2.1 (5 * j + 4) (by omega) (by omega)
        rcases (hE0 j j0 ej).2 with q | ⟨k', q0, q1, q2, q3, _⟩
        · rw [← p, j2, of_inj (by omega) (by omega)] at q; omega
        · rw [← p, j2, of_inj (by omega) (by omega)] at q2
          omega
      · exact absurd j2 (b j (by omega) j1)
/-- the law's row e while it takes the states down -/
def pSt (S N P : ST) (k : Int) : Prop := (∀ f : Nat, f ≠ 4 → P.1 f = N.1 f) ∧ P.2 = N.2 ∧ ∀ i : Int, 0 ≤ i → i < 60 → P.1 4 i = if i < k then S.1 18 i else N.1 4 i
theorem pSt_0 (S N : ST) : pSt S N N 0 := ⟨fun _ _ => rfl, rfl, fun i i0 _ => by rw [if_neg (by omega)]⟩
theorem pSt_s {S N P : ST} {k : Int} (h : pSt S N P k) (k0 : 0 ≤ k) : pSt S N (pI P 4 k (S.1 18 k)) (k + 1) := by
  refine ⟨fun f hf => by rw [pI_f _ _ _ hf]; exact h.1 f hf, h.2.1, fun i i0 i1 => ?_⟩
  by_cases e : i = k
  · rw [e, pI_s, if_pos (by omega)]
  · rw [pI_n _ _ _ _ (Or.inr e), h.2.2 i i0 i1]
    by_cases q : i < k
    · rw [if_pos q, if_pos (by omega)]
    · rw [if_neg q, if_neg (by omega)]
theorem book_end {S0 S M N P : ST} (hw : wf S) (hE : ∀ i : Int, S.1 8 0 ≤ i → i < 60 → N.1 4 i = 0) (hM : lM S0 S M) (h : eSt S M N (M.1 0 2) (S.1 31 0)) (hp : pSt S (pI N 0 2 (S.1 31 0)) P (S.1 8 0)) : lM S S P ∧ P.2 = M.2 := by
  obtain ⟨m1, m2, m3, m4, m5⟩ := hM
  have q : ∀ f : Nat, f ≠ 4 → f ≠ 0 → P.1 f = M.1 f := fun f hf h0 => by rw [hp.1 f hf, pI_f _ _ _ h0, h.1 f hf]
  have q0 : ∀ z : Int, z ≠ 2 → P.1 0 z = M.1 0 z := fun z hz => by rw [hp.1 0 (by decide), pI_n _ _ _ _ (Or.inr hz), h.1 0 (by decide)]
  refine ⟨⟨by rw [q0 0 (by decide)]; exact m1, by rw [q0 1 (by decide)]; exact m2, by rw [hp.1 0 (by decide), pI_s], fun k k0 k1 => ?_, fun k k0 k1 => ?_⟩, ?_⟩
  · rw [q 1 (by decide) (by decide), q 2 (by decide) (by decide), q 3 (by decide) (by decide)]; exact m4 k k0 k1
  · rw [hp.2.2 k k0 k1]
    by_cases e : k < S.1 8 0
    · rw [if_pos e, if_pos e]
    · rw [if_neg e, if_neg e, pI_f _ _ _ (by decide)]
      exact hE k (by omega) k1
  · rw [hp.2.1]
    exact h.2.1
theorem ent_far {S0 S M N : ST} (hw : wf S) (hw0 : wf S0) (hE : kE S) (he : evS S0 S) (hM : lM S0 S M) (h : eSt S M N (M.1 0 2) (S.1 31 0)) (i : Int) (h0 : S.1 8 0 ≤ i) (h1 : i < 60) : N.1 4 i = 0 := by
  have w8 := wf_8 hw 0
  have w31 := wf_31 hw0 0
  have g2 := hM.2.2.1
  rcases h.2.2 i (by omega) h1 with ⟨a, j, j0, j1, j2⟩ | ⟨a, b⟩
  · rcases (hE j (by omega) j1).2 with q | ⟨k', q0, q1, q2, q3, _⟩
    · rw [j2, of_inj (by omega) (by omega)] at q; omega
    · rw [j2, of_inj (by omega) (by omega)] at q2; omega
  · rw [a, hM.2.2.2.2 i (by omega) h1, if_neg (by have := he.2.2.1; omega)]
/-! a queue -/
def qN (S : ST) (b c : Int) : Int := ((qL S b c).length : Int)
def qLast (S : ST) (b c p : Int) : Int := if p = 0 then -1 else qAt S b c (p - 1)
theorem qLast_s (S : ST) (b c : Int) {p : Int} (h : 0 ≤ p) : qAt S b c p = qLast S b c (p + 1) := by
  unfold qLast
  rw [if_neg (by omega), show p + 1 - 1 = p by omega]
theorem qN_b {S : ST} (hw : wf S) (b c : Int) : 0 ≤ qN S b c ∧ qN S b c ≤ 60 := by
  have h := qL_len S b c (nP S)
  have h8 := nP_le hw
  unfold qN qL
  rw [List.length_append, List.length_append]
  unfold nP at h h8
  omega
theorem qAt_g {S : ST} {b c p : Int} (h0 : 0 ≤ p) (h1 : p < qN S b c) : ∃ hp : p.toNat < (qL S b c).length, qAt S b c p = (qL S b c)[p.toNat] := by
  have hp : p.toNat < (qL S b c).length := by unfold qN at h1; omega
  refine ⟨hp, ?_⟩
  unfold qAt
  rw [List.getD_eq_getElem?_getD, List.getElem?_eq_getElem hp]
  rfl
theorem q_fact {S : ST} (hw : wf S) (hq : kQ S) {b c p : Int} (h0 : 0 ≤ p) (h1 : p ≤ qN S b c) : (p < qN S b c ∧ 0 ≤ qAt S b c p ∧ qAt S b c p < S.1 8 0 ∧ S.1 18 (qAt S b c p) = 2 ∧ S.1 9 (qAt S b c p) = b ∧ S.1 11 (qAt S b c p) = c ∧ S.1 15 (qAt S b c p) = 1 ∧ 0 ≤ S.1 14 (qAt S b c p) ∧ S.1 14 (qAt S b c p) ≤ 2 ∧ ((p = 0 ∧ qLast S b c p = -1) ∨ (0 < p ∧ 0 ≤ qLast S b c p ∧ qLast S b c p < S.1 8 0 ∧ 0 ≤ S.1 14 (qLast S b c p) ∧ S.1 14 (qLast S b c p) ≤ 2 ∧ 0 ≤ S.1 15 (qLast S b c p) ∧ S.1 15 (qLast S b c p) ≤ 1 ∧ (S.1 14 (qAt S b c p) < S.1 14 (qLast S b c p) ∨ (S.1 14 (qAt S b c p) = S.1 14 (qLast S b c p) ∧ qLast S b c p < qAt S b c p))))) ∨ (p = qN S b c ∧ qAt S b c p = -1) := by
  by_cases e : p < qN S b c
  · left
    obtain ⟨hp, ep⟩ := qAt_g h0 e
    have m := qL_mem hw (List.getElem_mem hp)
    rw [← ep] at m
    obtain ⟨m1, m2, m3, m4, m5⟩ := m
    have w15 := wf_15 hw (qAt S b c p)
    have w14 := wf_14 hw (qAt S b c p)
    have r := hq _ m1 m2 m3
    refine ⟨e, m1, m2, m3, m4, m5, by omega, w14.1, w14.2, ?_⟩
    by_cases z : p = 0
    · left
      exact ⟨z, by unfold qLast; rw [if_pos z]⟩
    · right
      obtain ⟨hp1, ep1⟩ := qAt_g (S := S) (b := b) (c := c) (p := p - 1) (by omega) (by omega)
      have el : qLast S b c p = qAt S b c (p - 1) := by unfold qLast; rw [if_neg z]
      have n := qL_mem hw (List.getElem_mem hp1)
      rw [← ep1] at n
      have v14 := wf_14 hw (qAt S b c (p - 1))
      have v15 := wf_15 hw (qAt S b c (p - 1))
      have pw := List.pairwise_iff_getElem.mp (qL_pw S b c) (p - 1).toNat p.toNat hp1 hp (by omega)
      rw [← ep, ← ep1] at pw
      unfold kBeh at pw
      simp only [Bool.or_eq_true, Bool.and_eq_true, decide_eq_true_eq] at pw
      rw [el]
      exact ⟨by omega, n.1, n.2.1, v14.1, v14.2, v15.1, v15.2, pw⟩
  · right
    have e2 : p = qN S b c := by omega
    refine ⟨e2, ?_⟩
    unfold qAt
    rw [List.getD_eq_getElem?_getD, List.getElem?_eq_none (by unfold qN at e2; omega)]
    rfl
/-- how many of the first payments stand in the queue -/
def dqB (S : ST) (b c k : Int) : Bool := decide (S.1 18 k = 2) && decide (S.1 9 k = b) && decide (S.1 11 k = c)
def dqS (S : ST) (b c : Int) (n : Nat) : Int := suI (fun k => bI (dqB S b c k)) n
theorem dq_s (S : ST) (b c : Int) {k : Int} (h : 0 ≤ k) : dqS S b c (k + 1).toNat = dqS S b c k.toNat + bI (dqB S b c k) := by
  rw [show (k + 1).toNat = k.toNat + 1 by omega]
  show dqS S b c k.toNat + bI (dqB S b c ((k.toNat : Nat) : Int)) = _
  rw [Int.toNat_of_nonneg h]
theorem dq_1 {S : ST} {b c k : Int} (h : 0 ≤ k) (h1 : S.1 18 k = 2) (h2 : S.1 9 k = b) (h3 : S.1 11 k = c) : dqS S b c k.toNat + 1 = dqS S b c (k + 1).toNat := by
  rw [dq_s S b c h]
  unfold dqB
  rw [decide_eq_true h1, decide_eq_true h2, decide_eq_true h3]
  rfl
theorem dq_0 {S : ST} {b c k : Int} (h : 0 ≤ k) (h1 : ¬ (S.1 18 k = 2 ∧ S.1 9 k = b ∧ S.1 11 k = c)) : dqS S b c k.toNat + 0 = dqS S b c (k + 1).toNat := by
  rw [dq_s S b c h]
  have e : dqB S b c k = false := by
    cases q : dqB S b c k with
    | false => rfl
    | true =>
      unfold dqB at q
      simp only [Bool.and_eq_true, decide_eq_true_eq] at q
      exact absurd ⟨q.1.1, q.1.2, q.2⟩ h1
  rw [e]
  rfl
theorem dq_n {S : ST} (hw : wf S) (b c : Int) : ∀ n : Nat, (((qR S b c 2 n).length + ((qR S b c 1 n).length + (qR S b c 0 n).length) : Nat) : Int) = dqS S b c n
  | 0 => rfl
  | n + 1 => by
    have ih := dq_n hw b c n
    have w := wf_14 hw n
    have s : dqS S b c (n + 1) = dqS S b c n + bI (dqB S b c n) := rfl
    have l : ∀ h : Int, (qR S b c h (n + 1)).length = (qR S b c h n).length + (if isQ S b c h n = true then 1 else 0) := fun h => by
      rw [qR_s, List.length_append]
      split <;> rfl
    rw [s, l, l, l, ← ih]
    have i : ∀ h : Int, isQ S b c h n = (dqB S b c n && decide (S.1 14 n = h)) := fun h => rfl
    rw [i, i, i]
    cases dqB S b c n
    · simp [bI]
    · simp only [Bool.true_and, decide_eq_true_eq]
      have b1 : bI true = 1 := rfl
      rw [b1]
      split <;> split <;> split <;> omega
theorem dq_len {S : ST} (hw : wf S) (b c : Int) : dqS S b c (S.1 8 0).toNat = qN S b c := by
  rw [← dq_n hw b c]
  unfold qN qL
  rw [List.length_append, List.length_append]
