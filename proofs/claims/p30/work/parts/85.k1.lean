/-! the property's own invariants: the book, the money, the queues, the day's sums -/
theorem of_inj {a b : Int} (ha : -1000000000000000000 ≤ a ∧ a ≤ 1000000000000000000) (hb : -1000000000000000000 ≤ b ∧ b ≤ 1000000000000000000) : Int64.ofInt a = Int64.ofInt b ↔ a = b := by
  constructor
  · intro h
    have q := congrArg Int64.toInt h
    rwa [ti_of ha, ti_of hb] at q
  · intro h; rw [h]
def entOK (S : ST) (j : Int) : Prop := 0 < S.2 32 (5 * j + 3) ∧ (S.2 32 (5 * j + 4) = Int64.ofInt (-1) ∨ ∃ k : Int, 0 ≤ k ∧ k < S.1 8 0 ∧ S.2 32 (5 * j + 4) = Int64.ofInt k ∧ S.1 18 k = 4 ∧ S.2 32 (5 * j) = Int64.ofInt (S.1 9 k) ∧ S.2 32 (5 * j + 1) = Int64.ofInt (S.1 10 k) ∧ S.2 32 (5 * j + 2) = Int64.ofInt (S.1 11 k) ∧ S.2 32 (5 * j + 3) = Int64.ofInt (S.1 12 k))
def kE (S : ST) : Prop := ∀ j : Int, 0 ≤ j → j < S.1 31 0 → entOK S j
def kU (S : ST) : Prop := ∀ i j : Int, 0 ≤ i → i < S.1 31 0 → 0 ≤ j → j < S.1 31 0 → S.2 32 (5 * i + 4) = S.2 32 (5 * j + 4) → S.2 32 (5 * i + 4) ≠ Int64.ofInt (-1) → i = j
def kH (S : ST) : Prop := ∀ k : Int, 0 ≤ k → k < S.1 8 0 → S.1 18 k = 4 → ∃ j : Int, 0 ≤ j ∧ j < S.1 31 0 ∧ S.2 32 (5 * j + 4) = Int64.ofInt k
def kA (S : ST) : Prop := ∀ b c : Int, 0 ≤ b → b ≤ 6 → 0 ≤ c → c ≤ 2 → S.2 1 (3 * b + c) = sAnew S b c (S.1 31 0).toNat
def kS (f : Int → Int64) (S : ST) : Prop := ∀ c : Int, 0 ≤ c → c ≤ 2 → suL (fun b => S.2 1 (3 * b + c)) 7 = f c
def kQ (S : ST) : Prop := ∀ k : Int, 0 ≤ k → k < S.1 8 0 → S.1 18 k = 2 → S.1 15 k ≠ 0
def kP (S : ST) : Prop := ∀ b u c : Int, 0 ≤ b → b ≤ 5 → 0 ≤ u → u ≤ 5 → 0 ≤ c → c ≤ 2 → S.2 4 (3 * (6 * b + u) + c) = -(S.2 4 (3 * (6 * u + b) + c)) ∧ S.2 4 (3 * (6 * b + b) + c) = 0
def kT (S : ST) : Prop := ∀ k : Int, 0 ≤ k → k < S.1 8 0 → S.1 9 k ≠ S.1 10 k ∧ 1 ≤ S.1 12 k ∧ S.1 12 k ≤ 50
def kL (S : ST) : Prop := (∀ x : Int, 0 ≤ x → x < 18 → 0 ≤ S.1 2 x ∧ S.1 2 x ≤ 59) ∧ ∀ x : Int, 0 ≤ x → x < 108 → -1 ≤ S.1 3 x ∧ S.1 3 x ≤ 78
def kR (S : ST) : Prop := ∀ k : Int, 0 ≤ k → k < S.1 8 0 → S.1 23 k ≠ -1 → S.1 18 k = 4
def kF (S : ST) : Prop := ∀ i : Int, 0 ≤ i → i < S.1 27 0 → S.1 18 (S.1 28 i) = 4
def kB (S : ST) : Prop := ∀ b : Int, 0 ≤ b → b ≤ 5 → S.1 30 b ≤ S.1 44 b
def kI (f : Int → Int64) (S : ST) : Prop := kE S ∧ kU S ∧ kH S ∧ kA S ∧ kS f S ∧ kQ S ∧ kP S ∧ kT S ∧ kL S ∧ kR S ∧ kF S ∧ kB S
/-- the entries of before stand -/
def pfx (S T : ST) : Prop := ∀ x : Int, 0 ≤ x → x < 5 * S.1 31 0 → T.2 32 x = S.2 32 x
theorem kE_step {S T : ST} (h : kE S) (hp : pfx S T) (h8 : S.1 8 0 ≤ T.1 8 0) (h9 : ∀ k : Int, 0 ≤ k → k < S.1 8 0 → T.1 9 k = S.1 9 k ∧ T.1 10 k = S.1 10 k ∧ T.1 11 k = S.1 11 k ∧ T.1 12 k = S.1 12 k) (h4 : ∀ k : Int, 0 ≤ k → k < S.1 8 0 → S.1 18 k = 4 → T.1 18 k = 4) (hn : ∀ j : Int, 0 ≤ j → S.1 31 0 ≤ j → j < T.1 31 0 → entOK T j) : kE T := by
  intro j j0 j1
  by_cases e : j < S.1 31 0
  · obtain ⟨a, b⟩ := h j j0 e
    have p0 := hp (5 * j) (by omega) (by omega)
    have p1 := hp (5 * j + 1) (by omega) (by omega)
    have p2 := hp (5 * j + 2) (by omega) (by omega)
    have p3 := hp (5 * j + 3) (by omega) (by omega)
    have p4 := hp (5 * j + 4) (by omega) (by omega)
    unfold entOK
    rw [p0, p1, p2, p3, p4]
    refine ⟨a, b.imp id ?_⟩
    rintro ⟨k, k0, k1, k2, k3, k4, k5, k6, k7⟩
    obtain ⟨g1, g2, g3, g4⟩ := h9 k k0 k1
    exact ⟨k, k0, by omega, k2, h4 k k0 k1 k3, by rw [g1]; exact k4, by rw [g2]; exact k5, by rw [g3]; exact k6, by rw [g4]; exact k7⟩
  · exact hn j j0 (by omega) j1
theorem kU_step {S T : ST} (h : kU S) (hp : pfx S T) (h1 : T.1 31 0 ≤ S.1 31 0 + 1) (hn : S.1 31 0 < T.1 31 0 → T.2 32 (5 * S.1 31 0 + 4) = Int64.ofInt (-1) ∨ ∀ i : Int, 0 ≤ i → i < S.1 31 0 → S.2 32 (5 * i + 4) ≠ T.2 32 (5 * S.1 31 0 + 4)) : kU T := by
  intro i j i0 i1 j0 j1 he hne
  by_cases ei : i < S.1 31 0
  · have pi := hp (5 * i + 4) (by omega) (by omega)
    by_cases ej : j < S.1 31 0
    · have pj := hp (5 * j + 4) (by omega) (by omega)
      rw [pi] at he hne
      rw [pj] at he
      exact h i j i0 ei j0 ej he hne
    · have e : j = S.1 31 0 := by omega
      rw [e] at he
      rcases hn (by omega) with q | q
      · exact absurd (he.trans q) hne
      · exact absurd (pi.symm.trans he) (q i i0 ei)
  · have e : i = S.1 31 0 := by omega
    by_cases ej : j < S.1 31 0
    · have pj := hp (5 * j + 4) (by omega) (by omega)
      rw [e] at he hne
      rcases hn (by omega) with q | q
      · exact absurd q hne
      · exact absurd (pj.symm.trans he.symm) (q j j0 ej)
    · omega
theorem kH_step {S T : ST} (h : kH S) (hp : pfx S T) (h1 : S.1 31 0 ≤ T.1 31 0) (hn : ∀ k : Int, 0 ≤ k → k < T.1 8 0 → T.1 18 k = 4 → (k < S.1 8 0 ∧ S.1 18 k = 4) ∨ ∃ j : Int, 0 ≤ j ∧ j < T.1 31 0 ∧ T.2 32 (5 * j + 4) = Int64.ofInt k) : kH T := by
  intro k k0 k1 k4
  rcases hn k k0 k1 k4 with ⟨a, b⟩ | a
  · obtain ⟨j, j0, j1, j2⟩ := h k k0 a b
    exact ⟨j, j0, by omega, by rw [hp (5 * j + 4) (by omega) (by omega)]; exact j2⟩
  · exact a
/-! one entry more -/
def bkS (S T : ST) (b o c : Int) (v : Int64) (k : Int) : Prop := T.1 31 0 = S.1 31 0 + 1 ∧ (∀ x : Int, T.2 32 x = (sEnt S b o c v k).2 32 x) ∧ ∀ x : Int, T.2 1 x = (sBook S b o c v k).2 1 x
theorem bk_pfx {S T : ST} {b o c : Int} {v : Int64} {k : Int} (h : bkS S T b o c v k) : pfx S T := by
  intro x x0 x1
  rw [h.2.1, sEnt_32, if_neg (by omega), if_neg (by omega), if_neg (by omega), if_neg (by omega), if_neg (by omega)]
theorem bk_at {S T : ST} {b o c : Int} {v : Int64} {k : Int} (h : bkS S T b o c v k) : T.2 32 (5 * S.1 31 0) = Int64.ofInt b ∧ T.2 32 (5 * S.1 31 0 + 1) = Int64.ofInt o ∧ T.2 32 (5 * S.1 31 0 + 2) = Int64.ofInt c ∧ T.2 32 (5 * S.1 31 0 + 3) = v ∧ T.2 32 (5 * S.1 31 0 + 4) = Int64.ofInt k := by
  refine ⟨?_, ?_, ?_, ?_, ?_⟩
  · rw [h.2.1, sEnt_32, if_neg (by omega), if_neg (by omega), if_neg (by omega), if_neg (by omega), if_pos rfl]
  · rw [h.2.1, sEnt_32, if_neg (by omega), if_neg (by omega), if_neg (by omega), if_pos rfl]
  · rw [h.2.1, sEnt_32, if_neg (by omega), if_neg (by omega), if_pos rfl]
  · rw [h.2.1, sEnt_32, if_neg (by omega), if_pos rfl]
  · rw [h.2.1, sEnt_32, if_pos rfl]
theorem bk_1 {S T : ST} {b o c : Int} {v : Int64} {k : Int} (h : bkS S T b o c v k) (hb : -1 ≤ b) (hc : 0 ≤ c ∧ c ≤ 2) {x y : Int} (hx : 0 ≤ x) (hy : 0 ≤ y ∧ y ≤ 2) : T.2 1 (3 * x + y) = if c = y ∧ o = x then (if c = y ∧ b = x then S.2 1 (3 * x + y) - v else S.2 1 (3 * x + y)) + v else if c = y ∧ b = x then S.2 1 (3 * x + y) - v else S.2 1 (3 * x + y) := by
  have e : (sLess (sEnt S b o c v k) b c v).2 1 (3 * x + y) = if c = y ∧ b = x then S.2 1 (3 * x + y) - v else S.2 1 (3 * x + y) := by
    rw [less_1]
    by_cases e1 : b = -1
    · rw [if_pos e1, if_neg (by omega)]
    · rw [if_neg e1]
      by_cases e2 : c = y ∧ b = x
      · rw [if_pos e2, if_pos (by omega)]
      · rw [if_neg e2, if_neg (by omega)]
  rw [h.2.2, book_1, e]
  by_cases e3 : c = y ∧ o = x
  · rw [if_pos e3, if_pos (by omega)]
  · rw [if_neg e3, if_neg (by omega)]
theorem anew_pfx {S T : ST} (hp : pfx S T) (b c : Int) : ∀ n : Nat, (n : Int) ≤ S.1 31 0 → sAnew T b c n = sAnew S b c n
  | 0, _ => rfl
  | n + 1, h => by
    have p0 := hp (5 * n + 0) (by omega) (by omega)
    have p1 := hp (5 * n + 1) (by omega) (by omega)
    have p2 := hp (5 * n + 2) (by omega) (by omega)
    have p3 := hp (5 * n + 3) (by omega) (by omega)
    show neS T b c n (sAnew T b c n) = neS S b c n (sAnew S b c n)
    rw [anew_pfx hp b c n (by omega)]
    unfold neS neV neB
    rw [p0, p1, p2, p3]
theorem kA_bk {S T : ST} (h : kA S) (h31 : 0 ≤ S.1 31 0) {b o c : Int} {v : Int64} {k : Int} (hk : bkS S T b o c v k) (hb : -1 ≤ b ∧ b ≤ 6) (ho : 0 ≤ o ∧ o ≤ 6) (hc : 0 ≤ c ∧ c ≤ 2) : kA T := by
  intro x y x0 x1 y0 y1
  obtain ⟨a0, a1, a2, a3, _⟩ := bk_at hk
  rw [hk.1, show (S.1 31 0 + 1).toNat = (S.1 31 0).toNat + 1 by omega]
  show _ = neS T x y ((S.1 31 0).toNat : Int) (sAnew T x y (S.1 31 0).toNat)
  rw [anew_pfx (bk_pfx hk) x y (S.1 31 0).toNat (by omega), ← h x y x0 x1 y0 y1, Int.toNat_of_nonneg h31, bk_1 hk hb.1 hc x0 ⟨y0, y1⟩]
  unfold neS neV neB
  have e5 : 5 * S.1 31 0 + 0 = 5 * S.1 31 0 := by omega
  rw [e5, a0, a1, a2, a3]
  have ec : (Int64.ofInt c = Int64.ofInt y) ↔ c = y := of_inj (by omega) (by omega)
  have eb : (Int64.ofInt b = Int64.ofInt x) ↔ b = x := of_inj (by omega) (by omega)
  have eo : (Int64.ofInt o = Int64.ofInt x) ↔ o = x := of_inj (by omega) (by omega)
  simp only [ec, eb, eo, Bool.and_eq_true, decide_eq_true_eq]
  by_cases q1 : c = y ∧ o = x
  · rw [if_pos q1, if_pos q1]
    by_cases q2 : c = y ∧ b = x
    · rw [if_pos q2, if_pos q2]
    · rw [if_neg q2, if_neg q2, Int64.sub_zero]
  · rw [if_neg q1, if_neg q1]
    by_cases q2 : c = y ∧ b = x
    · rw [if_pos q2, if_pos q2, Int64.add_zero]
    · rw [if_neg q2, if_neg q2, Int64.sub_zero, Int64.add_zero]
theorem kS_bk {f : Int → Int64} {S T : ST} (h : kS f S) {b o c : Int} {v : Int64} {k : Int} (hk : bkS S T b o c v k) (hb : 0 ≤ b ∧ b ≤ 6) (ho : 0 ≤ o ∧ o ≤ 6) (hc : 0 ≤ c ∧ c ≤ 2) : kS f T := by
  intro y y0 y1
  by_cases e : c = y
  · have s1 : suL (fun x => if c = y ∧ b = x then S.2 1 (3 * x + y) - v else S.2 1 (3 * x + y)) 7 = suL (fun x => S.2 1 (3 * x + y)) 7 + (-v) := suL_at (k := b) (by show (if c = y ∧ b = b then _ else _) = _; rw [if_pos ⟨e, rfl⟩, Int64.sub_eq_add_neg]) hb.1 (by omega) (fun j hj => by show (if c = y ∧ b = j then _ else _) = _; rw [if_neg (fun q => hj q.2.symm)])
    have s2 : suL (fun x => T.2 1 (3 * x + y)) 7 = suL (fun x => if c = y ∧ b = x then S.2 1 (3 * x + y) - v else S.2 1 (3 * x + y)) 7 + v := by
      have s3 : suL (fun x => T.2 1 (3 * x + y)) 7 = suL (fun x => if c = y ∧ o = x then (if c = y ∧ b = x then S.2 1 (3 * x + y) - v else S.2 1 (3 * x + y)) + v else if c = y ∧ b = x then S.2 1 (3 * x + y) - v else S.2 1 (3 * x + y)) 7 := suL_congr (fun x x0 _ => bk_1 hk (by omega) hc x0 ⟨y0, y1⟩)
      rw [s3]
      exact suL_at (k := o) (by show (if c = y ∧ o = o then _ else _) = _; rw [if_pos ⟨e, rfl⟩]) ho.1 (by omega) (fun j hj => by show (if c = y ∧ o = j then _ else _) = _; rw [if_neg (fun q => hj q.2.symm)])
    rw [s2, s1, Int64.add_assoc, Int64.add_left_neg, Int64.add_zero]
    exact h y y0 y1
  · rw [← h y y0 y1]
    refine suL_congr (fun x x0 _ => ?_)
    show T.2 1 (3 * x + y) = S.2 1 (3 * x + y)
    rw [bk_1 hk (by omega) hc x0 ⟨y0, y1⟩, if_neg (fun q => e q.1), if_neg (fun q => e q.1)]
theorem kS_bkF {f : Int → Int64} {S T : ST} (h : kS f S) {o c : Int} {v : Int64} {k : Int} (hk : bkS S T (-1) o c v k) (ho : 0 ≤ o ∧ o ≤ 6) (hc : 0 ≤ c ∧ c ≤ 2) : kS (fun x => if x = c then f c + v else f x) T := by
  intro y y0 y1
  show _ = if y = c then f c + v else f y
  by_cases e : c = y
  · have s3 : suL (fun x => T.2 1 (3 * x + y)) 7 = suL (fun x => if c = y ∧ o = x then S.2 1 (3 * x + y) + v else S.2 1 (3 * x + y)) 7 := suL_congr (fun x x0 _ => by
      show T.2 1 (3 * x + y) = if c = y ∧ o = x then S.2 1 (3 * x + y) + v else S.2 1 (3 * x + y)
      rw [bk_1 hk (by omega) hc x0 ⟨y0, y1⟩, if_neg (show ¬ (c = y ∧ -1 = x) by omega)])
    rw [s3, if_pos e.symm, ← h c hc.1 hc.2, e]
    exact suL_at (k := o) (by show (if y = y ∧ o = o then _ else _) = _; rw [if_pos ⟨rfl, rfl⟩]) ho.1 (by omega) (fun j hj => by show (if y = y ∧ o = j then _ else _) = _; rw [if_neg (fun q => hj q.2.symm)])
  · rw [if_neg (fun q => e q.symm), ← h y y0 y1]
    refine suL_congr (fun x x0 _ => ?_)
    show T.2 1 (3 * x + y) = S.2 1 (3 * x + y)
    rw [bk_1 hk (by omega) hc x0 ⟨y0, y1⟩, if_neg (fun q => e q.1), if_neg (fun q => e q.1)]
