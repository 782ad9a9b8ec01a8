/-! sums as whole numbers; who is taken out of a set, until it can settle -/
theorem suL_of (g : Int → Int) : ∀ n : Nat, suL (fun k => Int64.ofInt (g k)) n = Int64.ofInt (suI g n)
  | 0 => rfl
  | n + 1 => by rw [suL, suI, suL_of g n, Int64.ofInt_add]
def dKi (S : ST) (k x : Int) : Int := (if x = 3 * S.1 9 k + S.1 11 k then -(S.1 12 k) else 0) + (if x = 3 * S.1 10 k + S.1 11 k then S.1 12 k else 0)
def pKi (S : ST) (k y : Int) : Int := (if y = 3 * (6 * S.1 9 k + S.1 10 k) + S.1 11 k then S.1 12 k else 0) + (if y = 3 * (6 * S.1 10 k + S.1 9 k) + S.1 11 k then -(S.1 12 k) else 0)
theorem dK_of (S : ST) (k x : Int) : dK S k x = Int64.ofInt (dKi S k x) := by
  unfold dK dKi
  split <;> split <;> simp
theorem pK_of (S : ST) (k y : Int) : pK S k y = Int64.ofInt (pKi S k y) := by
  unfold pK pKi
  split <;> split <;> simp
def dSi (S : ST) (I : Int → Bool) (n : Nat) (x : Int) : Int := suI (fun k => if I k = true then dKi S k x else 0) n
def pSi (S : ST) (I : Int → Bool) (n : Nat) (y : Int) : Int := suI (fun k => if I k = true then pKi S k y else 0) n
theorem dS_of (S : ST) (I : Int → Bool) (n : Nat) (x : Int) : dS S I n x = Int64.ofInt (dSi S I n x) := by
  unfold dS dSi
  rw [← suL_of]
  refine suL_congr (fun k _ _ => ?_)
  by_cases h : I k = true
  · rw [if_pos h, if_pos h, dK_of]
  · rw [if_neg h, if_neg h]; rfl
theorem pS_of (S : ST) (I : Int → Bool) (n : Nat) (x : Int) : pS S I n x = Int64.ofInt (pSi S I n x) := by
  unfold pS pSi
  rw [← suL_of]
  refine suL_congr (fun k _ _ => ?_)
  by_cases h : I k = true
  · rw [if_pos h, if_pos h, pK_of]
  · rw [if_neg h, if_neg h]; rfl
theorem suI_bd {f : Int → Int} {B : Int} : ∀ {n : Nat}, (∀ k : Int, 0 ≤ k → k < n → -B ≤ f k ∧ f k ≤ B) → -(B * n) ≤ suI f n ∧ suI f n ≤ B * n
  | 0, _ => by simp [suI]
  | n + 1, h => by
    have h1 := suI_bd (f := f) (B := B) (n := n) (fun k a b => h k a (by omega))
    have h2 := h n (by omega) (by omega)
    have h3 : B * ((n + 1 : Nat) : Int) = B * n + B := by rw [Int.natCast_add, Int.mul_add]; simp
    rw [suI, h3]
    omega
theorem dKi_bd {S : ST} (h : wf S) (k x : Int) : -2000000 ≤ dKi S k x ∧ dKi S k x ≤ 2000000 := by
  have := wf_12 h k
  unfold dKi
  split <;> split <;> omega
theorem pKi_bd {S : ST} (h : wf S) (k x : Int) : -2000000 ≤ pKi S k x ∧ pKi S k x ≤ 2000000 := by
  have := wf_12 h k
  unfold pKi
  split <;> split <;> omega
theorem dSi_bd {S : ST} (h : wf S) (I : Int → Bool) {n : Nat} (hn : n ≤ 60) (x : Int) : -200000000 ≤ dSi S I n x ∧ dSi S I n x ≤ 200000000 := by
  have h1 := suI_bd (f := fun k => if I k = true then dKi S k x else 0) (B := 2000000) (n := n) (fun k _ _ => by have := dKi_bd h k x; split <;> omega)
  unfold dSi
  omega
theorem pSi_bd {S : ST} (h : wf S) (I : Int → Bool) {n : Nat} (hn : n ≤ 60) (x : Int) : -200000000 ≤ pSi S I n x ∧ pSi S I n x ≤ 200000000 := by
  have h1 := suI_bd (f := fun k => if I k = true then pKi S k x else 0) (B := 2000000) (n := n) (fun k _ _ => by have := pKi_bd h k x; split <;> omega)
  unfold pSi
  omega
theorem l_neg {z : Int} (h : -4000000000000000000 ≤ z ∧ z ≤ 4000000000000000000) : Int64.ofInt z < 0 ↔ z < 0 := by
  rw [Int64.lt_iff_toInt_lt, Int64.toInt_ofInt_of_le (by omega) (by omega)]
  rfl
theorem l_pos {z : Int} (h : -4000000000000000000 ≤ z ∧ z ≤ 4000000000000000000) : 0 < Int64.ofInt z ↔ 0 < z := by
  rw [Int64.lt_iff_toInt_lt, Int64.toInt_ofInt_of_le (by omega) (by omega)]
  rfl
theorem suI_pos {f : Int → Int} {n : Nat} (h : 0 < suI f n) : ∃ k : Int, 0 ≤ k ∧ k < n ∧ 0 < f k := by
  apply Classical.byContradiction
  intro hc
  have h1 : suI f n ≤ suI (fun _ => 0) n := suI_le (fun k a b => by
    have : ¬ 0 < f k := fun q => hc ⟨k, a, b, q⟩
    omega)
  have h2 : ∀ m : Nat, suI (fun _ => 0) m = 0 := by
    intro m
    induction m with
    | zero => rfl
    | succ m ih => rw [suI, ih]; rfl
  rw [h2] at h1
  omega
theorem suI_neg {f : Int → Int} {n : Nat} (h : suI f n < 0) : ∃ k : Int, 0 ≤ k ∧ k < n ∧ f k < 0 := by
  apply Classical.byContradiction
  intro hc
  have h1 := suI_nn (f := f) (n := n) (fun k a b => by
    have : ¬ f k < 0 := fun q => hc ⟨k, a, b, q⟩
    omega)
  omega
theorem short_mem {S : ST} {I : Int → Bool} {b c : Int} (hw : wf S) (hb : 0 ≤ b ∧ b ≤ 5) (hc : 0 ≤ c ∧ c ≤ 2) (h : shX S (dS S I (nP S)) b c = true) : ∃ k : Int, 0 ≤ k ∧ k < nP S ∧ I k = true ∧ S.1 9 k = b ∧ S.1 11 k = c := by
  unfold shX at h
  rw [Bool.and_eq_true, decide_eq_true_eq, dS_of] at h
  have h1 := (l_neg (by have := dSi_bd hw I (nP_le hw) (3 * b + c); omega)).mp h.1
  obtain ⟨k, k0, k1, k2⟩ := suI_neg h1
  by_cases hI : I k = true
  · rw [if_pos hI] at k2
    have w9 := wf_9 hw k
    have w10 := wf_10 hw k
    have w11 := wf_11 hw k
    have w12 := wf_12 hw k
    unfold dKi at k2
    refine ⟨k, k0, k1, hI, ?_, ?_⟩ <;> (split at k2 <;> split at k2 <;> omega)
  · rw [if_neg hI] at k2
    omega
theorem pass_mem {S : ST} {I : Int → Bool} {b u c : Int} (hw : wf S) (hb : 0 ≤ b ∧ b ≤ 5) (hu : 0 ≤ u ∧ u ≤ 5) (hc : 0 ≤ c ∧ c ≤ 2) (h : paX S (pS S I (nP S)) b u c = true) : ∃ k : Int, 0 ≤ k ∧ k < nP S ∧ I k = true ∧ S.1 9 k = b ∧ S.1 10 k = u ∧ S.1 11 k = c := by
  unfold paX at h
  rw [Bool.and_eq_true, Bool.and_eq_true, decide_eq_true_eq, pS_of] at h
  have h1 := (l_pos (by have := pSi_bd hw I (nP_le hw) (3 * (6 * b + u) + c); omega)).mp h.1.1
  obtain ⟨k, k0, k1, k2⟩ := suI_pos h1
  by_cases hI : I k = true
  · rw [if_pos hI] at k2
    have w9 := wf_9 hw k
    have w10 := wf_10 hw k
    have w11 := wf_11 hw k
    have w12 := wf_12 hw k
    unfold pKi at k2
    refine ⟨k, k0, k1, hI, ?_, ?_, ?_⟩ <;> (split at k2 <;> split at k2 <;> omega)
  · rw [if_neg hI] at k2
    omega
/-- of a bank, to another one or any -/
def isL (S : ST) (I : Int → Bool) (b u k : Int) : Prop := I k = true ∧ S.1 9 k = b ∧ (u = -1 ∨ S.1 10 k = u)
theorem laS_mem {S : ST} {I : Int → Bool} {b u : Int} {q : Bool} : ∀ {n : Nat}, laS S I b u q n = -1 ∨ (0 ≤ laS S I b u q n ∧ laS S I b u q n < n ∧ isL S I b u (laS S I b u q n))
  | 0 => Or.inl rfl
  | n + 1 => by
    rw [laS_s]
    unfold laN
    split
    · rename_i h
      simp only [Bool.and_eq_true, Bool.or_eq_true, decide_eq_true_eq] at h
      exact Or.inr ⟨by omega, by omega, h.1.1.1, h.1.1.2, h.1.2⟩
    · rcases laS_mem (S := S) (I := I) (b := b) (u := u) (q := q) (n := n) with h | ⟨h1, h2, h3⟩
      · exact Or.inl h
      · exact Or.inr ⟨h1, by omega, h3⟩
theorem laS_some {S : ST} {I : Int → Bool} {b u k : Int} {q : Bool} : ∀ {n : Nat}, 0 ≤ k → k < n → isL S I b u k → laS S I b u q n ≠ -1
  | 0, h0, h1, _ => by omega
  | n + 1, h0, h1, h => by
    rw [laS_s]
    unfold laN
    split
    · omega
    · rename_i hn
      by_cases hk : k = n
      · subst hk
        intro hl
        apply hn
        simp only [Bool.and_eq_true, Bool.or_eq_true, decide_eq_true_eq]
        exact ⟨⟨⟨h.1, h.2.1⟩, h.2.2⟩, Or.inl (Or.inl hl)⟩
      · exact laS_some h0 (by omega) h
def o1X (S : ST) (a : Int → Int64) (I : Int → Bool) (c : Int) (q : Bool) (n : Nat) : Int := foS (fun k r => if shX S a (5 - k) c = true then laS S I (5 - k) (-1) q (nP S) else r) (-1) n
def o2X (S : ST) (p : Int → Int64) (I : Int → Bool) (c : Int) (q : Bool) (n : Nat) : Int := foS (fun k r => if paX S p ((35 - k) / 6) ((35 - k) % 6) c = true then laS S I ((35 - k) / 6) ((35 - k) % 6) q (nP S) else r) (-1) n
def shA (S : ST) (a : Int → Int64) (c : Int) : Bool := anB (fun b => shX S a b c) 6
/-- who is taken out -/
def outX (S : ST) (a p : Int → Int64) (I : Int → Bool) (c : Int) (q : Bool) : Int := if shA S a c = true then o1X S a I c q 6 else o2X S p I c q 36
def outO (S : ST) (I : Int → Bool) (c : Int) (q : Bool) : Int := outX S (dS S I (nP S)) (pS S I (nP S)) I c q
theorem outX_congr {S : ST} {a a' p p' : Int → Int64} {I : Int → Bool} {c : Int} {q : Bool} (hc : 0 ≤ c ∧ c ≤ 2) (ha : ∀ x : Int, 0 ≤ x → x < 21 → a x = a' x) (hp : ∀ x : Int, 0 ≤ x → x < 108 → p x = p' x) : outX S a p I c q = outX S a' p' I c q := by
  unfold outX shA
  rw [anB_congr (q := fun b => shX S a' b c) (fun b h1 h2 => shX_congr (ha _ (by omega) (by omega)))]
  unfold o1X o2X
  rw [foS_congr (f := fun k r => if shX S a (5 - k) c = true then laS S I (5 - k) (-1) q (nP S) else r) (g := fun k r => if shX S a' (5 - k) c = true then laS S I (5 - k) (-1) q (nP S) else r) (n := 6) (fun k h1 h2 x => by rw [shX_congr (ha (3 * (5 - k) + c) (by omega) (by omega))]),
    foS_congr (f := fun k r => if paX S p ((35 - k) / 6) ((35 - k) % 6) c = true then laS S I ((35 - k) / 6) ((35 - k) % 6) q (nP S) else r) (g := fun k r => if paX S p' ((35 - k) / 6) ((35 - k) % 6) c = true then laS S I ((35 - k) / 6) ((35 - k) % 6) q (nP S) else r) (n := 36) (fun k h1 h2 x => by rw [paX_congr (hp (3 * (6 * ((35 - k) / 6) + (35 - k) % 6) + c) (by omega) (by omega))])]
theorem foS_pick {P : Int → Bool} {v : Int → Int} {good : Int → Prop} {o : Int} : ∀ {n : Nat}, (∀ k : Int, 0 ≤ k → k < n → P k = true → good (v k)) → (∃ k : Int, 0 ≤ k ∧ k < n ∧ P k = true) → good (foS (fun k r => if P k = true then v k else r) o n)
  | 0, _, ⟨k, h1, h2, _⟩ => by omega
  | n + 1, h, ⟨k, h1, h2, h3⟩ => by
    show good (if P n = true then v n else foS (fun k r => if P k = true then v k else r) o n)
    by_cases hn : P n = true
    · rw [if_pos hn]
      exact h n (by omega) (by omega) hn
    · rw [if_neg hn]
      have hk : k ≠ n := fun e => hn (e ▸ h3)
      exact foS_pick (fun k a b => h k a (by omega)) ⟨k, h1, by omega, h3⟩
theorem shA_iff {S : ST} {a : Int → Int64} {c : Int} : shA S a c = true ↔ ∃ b : Int, 0 ≤ b ∧ b < 6 ∧ shX S a b c = true := anB_iff _ 6
def inI (S : ST) (I : Int → Bool) (k : Int) : Prop := 0 ≤ k ∧ k < nP S ∧ I k = true
theorem la_in {S : ST} {I : Int → Bool} {b u k : Int} {q : Bool} (h0 : 0 ≤ k) (h1 : k < nP S) (h : isL S I b u k) : inI S I (laS S I b u q (nP S)) := by
  have h2 := laS_some (q := q) h0 h1 h
  rcases laS_mem (S := S) (I := I) (b := b) (u := u) (q := q) (n := nP S) with h3 | ⟨h3, h4, h5⟩
  · exact absurd h3 h2
  · exact ⟨h3, h4, h5.1⟩
theorem o1X_in {S : ST} {I : Int → Bool} {c : Int} {q : Bool} (hw : wf S) (hc : 0 ≤ c ∧ c ≤ 2) (h : shA S (dS S I (nP S)) c = true) : inI S I (o1X S (dS S I (nP S)) I c q 6) := by
  obtain ⟨b, h1, h2, h3⟩ := shA_iff.mp h
  refine foS_pick (good := inI S I) (fun k k0 k1 k2 => ?_) ⟨5 - b, by omega, by omega, by rw [show 5 - (5 - b) = b by omega]; exact h3⟩
  obtain ⟨m, m0, m1, m2, m3, m4⟩ := short_mem hw (by omega) hc k2
  exact la_in m0 m1 ⟨m2, m3, Or.inl rfl⟩
theorem outO_in {S : ST} {I : Int → Bool} {c : Int} {q : Bool} (hw : wf S) (hc : 0 ≤ c ∧ c ≤ 2) (h : fit S I c = false) : inI S I (outO S I c q) := by
  unfold outO outX
  by_cases hs : shA S (dS S I (nP S)) c = true
  · rw [if_pos hs]
    exact o1X_in hw hc hs
  · rw [if_neg hs]
    have hf : ¬ fit S I c = true := by rw [h]; decide
    have hx : ∃ b u : Int, 0 ≤ b ∧ b < 6 ∧ 0 ≤ u ∧ u < 6 ∧ paX S (pS S I (nP S)) b u c = true := by
      apply Classical.byContradiction
      intro hn
      apply hf
      refine (alB_iff _ 6).mpr (fun b b0 b1 => ?_)
      rw [Bool.and_eq_true]
      refine ⟨?_, (alB_iff _ 6).mpr (fun u u0 u1 => ?_)⟩
      · cases hq : shX S (dS S I (nP S)) b c with
        | false => rfl
        | true => exact absurd (shA_iff.mpr ⟨b, b0, b1, hq⟩) hs
      · cases hq : paX S (pS S I (nP S)) b u c with
        | false => rfl
        | true => exact absurd ⟨b, u, b0, b1, u0, u1, hq⟩ hn
    obtain ⟨b, u, b0, b1, u0, u1, hp⟩ := hx
    refine foS_pick (good := inI S I) (fun k k0 k1 k2 => ?_) ⟨35 - (6 * b + u), by omega, by omega, ?_⟩
    · obtain ⟨m, m0, m1, m2, m3, m4, m5⟩ := pass_mem hw (by omega) (by omega) hc k2
      exact la_in m0 m1 ⟨m2, m3, Or.inr m4⟩
    · rw [show (35 - (35 - (6 * b + u))) / 6 = b by omega, show (35 - (35 - (6 * b + u))) % 6 = u by omega]
      exact hp
def sRedN (S : ST) (c : Int) (q : Bool) : Nat → (Int → Bool) → (Int → Bool)
  | 0, I => I
  | n + 1, I => if fit S I c = true then I else sRedN S c q n (iup I (outO S I c q) false)
def sRed (S : ST) (I : Int → Bool) (c : Int) (q : Bool) : Int → Bool := sRedN S c q 61 I
theorem cnB_iup {I : Int → Bool} {k : Int} {n : Nat} (h0 : 0 ≤ k) (h1 : k < n) (h : I k = true) : cnB (iup I k false) n = cnB I n - 1 := by
  have e := suI_at (f := fun j => bI (I j)) (g := fun j => bI (iup I k false j)) (k := k) (n := n) h0 h1 (fun j hj => by rw [iup_n _ _ hj])
  rw [iup_s, h] at e
  simp only [bI] at e
  unfold cnB
  simp only [bI]
  simp only [if_true, Bool.false_eq_true, if_false] at e
  omega
theorem cnB_le (I : Int → Bool) (n : Nat) : cnB I n ≤ n := by
  induction n with
  | zero => simp [cnB, suI]
  | succ n ih =>
    rw [cnB_s]
    rcases bI_01 (I n) with h | h <;> omega
/-- what is left is of the set -/
theorem sRedN_sub {S : ST} {c : Int} {q : Bool} : ∀ (n : Nat) (I : Int → Bool) (j : Int), sRedN S c q n I j = true → I j = true
  | 0, _, _, h => h
  | n + 1, I, j, h => by
    unfold sRedN at h
    split at h
    · exact h
    · have h1 := sRedN_sub n _ j h
      by_cases hj : j = outO S I c q
      · rw [hj, iup_s] at h1
        cases h1
      · rwa [iup_n _ _ hj] at h1
def sRedS (S : ST) (I : Int → Bool) (c : Int) (q : Bool) : Int × ST := (cnB (sRed S I c q) (nP S), sSets S (sRed S I c q) (nP S))
