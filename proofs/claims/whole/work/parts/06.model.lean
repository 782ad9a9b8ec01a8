/-! the state that both sides are tied to: whole numbers by field and place, longs by field and place.
 fields: 0 today 1 account 2 line 3 limit 4 paid 5 isOut 6 isHoliday 7 isListed 8 payments 9 from 10 to 11 currency 12 amount 13 payee 14 rank 15 isReal 16 day 17 stays 18 state 19 isReleased 20 officer 21 leg 22 finalOn 23 recalledOn 24 isAnswered 25 message 26 doubles 27 finals 28 finished 29 taken 30 most 31 entries 32 entry 33 isIn 34 more 35 morePaid 36 thrown -/
abbrev ST : Type := (Nat → Int → Int) × (Nat → Int → Int64)
def pI (S : ST) (f : Nat) (k v : Int) : ST := (fun g j => if g = f ∧ j = k then v else S.1 g j, S.2)
def pL (S : ST) (f : Nat) (k : Int) (v : Int64) : ST := (S.1, fun g j => if g = f ∧ j = k then v else S.2 g j)
theorem pI_s (S : ST) (f : Nat) (k v : Int) : (pI S f k v).1 f k = v := by simp [pI]
theorem pI_n (S : ST) {f g : Nat} (k j v : Int) (h : g ≠ f ∨ j ≠ k) : (pI S f k v).1 g j = S.1 g j := by
  have : ¬ (g = f ∧ j = k) := by rintro ⟨a, b⟩; rcases h with h | h <;> contradiction
  simp [pI, this]
theorem pI_f (S : ST) {f g : Nat} (k v : Int) (h : g ≠ f) : (pI S f k v).1 g = S.1 g := by
  funext j
  exact pI_n S k j v (Or.inl h)
theorem pI_2 (S : ST) (f : Nat) (k v : Int) : (pI S f k v).2 = S.2 := rfl
theorem pL_1 (S : ST) (f : Nat) (k : Int) (v : Int64) : (pL S f k v).1 = S.1 := rfl
theorem pL_s (S : ST) (f : Nat) (k : Int) (v : Int64) : (pL S f k v).2 f k = v := by simp [pL]
theorem pL_n (S : ST) {f g : Nat} (k j : Int) (v : Int64) (h : g ≠ f ∨ j ≠ k) : (pL S f k v).2 g j = S.2 g j := by
  have : ¬ (g = f ∧ j = k) := by rintro ⟨a, b⟩; rcases h with h | h <;> contradiction
  simp [pL, this]
theorem pL_f (S : ST) {f g : Nat} (k : Int) (v : Int64) (h : g ≠ f) : (pL S f k v).2 g = S.2 g := by
  funext j
  exact pL_n S k j v (Or.inl h)
def foS {σ : Type} (f : Int → σ → σ) (s : σ) : Nat → σ
  | 0 => s
  | n + 1 => f n (foS f s n)
def alB (q : Int → Bool) : Nat → Bool
  | 0 => true
  | n + 1 => alB q n && q n
def anB (q : Int → Bool) : Nat → Bool
  | 0 => false
  | n + 1 => anB q n || q n
def suL (f : Int → Int64) : Nat → Int64
  | 0 => 0
  | n + 1 => suL f n + f n
def suI (f : Int → Int) : Nat → Int
  | 0 => 0
  | n + 1 => suI f n + f n
theorem alB_iff (q : Int → Bool) : ∀ n : Nat, alB q n = true ↔ ∀ k : Int, 0 ≤ k → k < n → q k = true
  | 0 => ⟨fun _ k h1 h2 => by omega, fun _ => rfl⟩
  | n + 1 => by
    rw [alB, Bool.and_eq_true, alB_iff q n]
    constructor
    · rintro ⟨h1, h2⟩ k h3 h4
      by_cases h : k = n
      · rw [h]; exact h2
      · exact h1 k h3 (by omega)
    · intro h
      exact ⟨fun k h1 h2 => h k h1 (by omega), h n (by omega) (by omega)⟩
theorem suL_congr {f g : Int → Int64} : ∀ {n : Nat}, (∀ k : Int, 0 ≤ k → k < n → f k = g k) → suL f n = suL g n
  | 0, _ => rfl
  | n + 1, h => by rw [suL, suL, suL_congr (fun k h1 h2 => h k h1 (by omega)), h n (by omega) (by omega)]
theorem suI_congr {f g : Int → Int} : ∀ {n : Nat}, (∀ k : Int, 0 ≤ k → k < n → f k = g k) → suI f n = suI g n
  | 0, _ => rfl
  | n + 1, h => by rw [suI, suI, suI_congr (fun k h1 h2 => h k h1 (by omega)), h n (by omega) (by omega)]
theorem foS_congr {σ : Type} {f g : Int → σ → σ} {s : σ} : ∀ {n : Nat}, (∀ k : Int, 0 ≤ k → k < n → ∀ x, f k x = g k x) → foS f s n = foS g s n
  | 0, _ => rfl
  | n + 1, h => by rw [foS, foS, foS_congr (fun k h1 h2 => h k h1 (by omega)), h n (by omega) (by omega)]

def rLo : Nat → Int := fun f => match f with
  | 0 => 0
  | 2 => 0
  | 3 => -1
  | 5 => 0
  | 6 => 0
  | 7 => 0
  | 8 => 0
  | 9 => 0
  | 10 => 0
  | 11 => 0
  | 12 => 0
  | 13 => 0
  | 14 => 0
  | 15 => 0
  | 16 => 0
  | 17 => 0
  | 18 => 0
  | 19 => 0
  | 20 => -1
  | 21 => -1
  | 22 => 0
  | 23 => -1
  | 24 => 0
  | 25 => -1
  | 26 => 0
  | 27 => 0
  | 28 => 0
  | 29 => 0
  | 30 => 0
  | 31 => 0
  | 40 => -1
  | 41 => -1
  | 42 => -1
  | 43 => 0
  | 44 => 0
  | _ => -1000000000
def rHi : Nat → Int := fun f => match f with
  | 0 => 998
  | 2 => 1000000
  | 3 => 1000000
  | 5 => 1
  | 6 => 1
  | 7 => 1
  | 8 => 60
  | 9 => 5
  | 10 => 5
  | 11 => 2
  | 12 => 1000000
  | 13 => 19
  | 14 => 2
  | 15 => 1
  | 16 => 999
  | 17 => 1
  | 18 => 5
  | 19 => 1
  | 20 => 3
  | 21 => 59
  | 22 => 998
  | 23 => 998
  | 24 => 1
  | 25 => 59
  | 26 => 100000
  | 27 => 60
  | 28 => 59
  | 29 => 60
  | 30 => 60
  | 31 => 29990
  | 40 => 3
  | 41 => 998
  | 42 => 1000
  | 43 => 59
  | 44 => 60
  | _ => 1000000000
/-- every number is in its range -/
def wf (S : ST) : Prop := ∀ (f : Nat) (j : Int), rLo f ≤ S.1 f j ∧ S.1 f j ≤ rHi f
theorem wf_pI {S : ST} (h : wf S) {f : Nat} (k v : Int) (hv : rLo f ≤ v ∧ v ≤ rHi f) : wf (pI S f k v) := by
  intro g j
  by_cases q : g = f ∧ j = k
  · obtain ⟨rfl, rfl⟩ := q
    rw [pI_s]
    exact hv
  · have h2 : g ≠ f ∨ j ≠ k := by
      by_cases a : g = f
      · exact Or.inr (fun b => q ⟨a, b⟩)
      · exact Or.inl a
    rw [pI_n S k j v h2]
    exact h g j
theorem wf_pL {S : ST} (h : wf S) (f : Nat) (k : Int) (v : Int64) : wf (pL S f k v) := h
theorem rLo_ge (f : Nat) : -1000000000 ≤ rLo f := by unfold rLo; split <;> omega
theorem rHi_le (f : Nat) : rHi f ≤ 1000000000 := by unfold rHi; split <;> omega
theorem wf_r {S : ST} (h : wf S) (f : Nat) (j : Int) : rI (S.1 f j) := by
  have h1 := h f j
  have h2 := rLo_ge f
  have h3 := rHi_le f
  exact ⟨by omega, by omega⟩
theorem wf_0 {S : ST} (h : wf S) (j : Int) : 0 ≤ S.1 0 j ∧ S.1 0 j ≤ 998 := h 0 j
theorem wf_2 {S : ST} (h : wf S) (j : Int) : 0 ≤ S.1 2 j ∧ S.1 2 j ≤ 1000000 := h 2 j
theorem wf_3 {S : ST} (h : wf S) (j : Int) : -1 ≤ S.1 3 j ∧ S.1 3 j ≤ 1000000 := h 3 j
theorem wf_5 {S : ST} (h : wf S) (j : Int) : 0 ≤ S.1 5 j ∧ S.1 5 j ≤ 1 := h 5 j
theorem wf_6 {S : ST} (h : wf S) (j : Int) : 0 ≤ S.1 6 j ∧ S.1 6 j ≤ 1 := h 6 j
theorem wf_7 {S : ST} (h : wf S) (j : Int) : 0 ≤ S.1 7 j ∧ S.1 7 j ≤ 1 := h 7 j
theorem wf_8 {S : ST} (h : wf S) (j : Int) : 0 ≤ S.1 8 j ∧ S.1 8 j ≤ 60 := h 8 j
theorem wf_9 {S : ST} (h : wf S) (j : Int) : 0 ≤ S.1 9 j ∧ S.1 9 j ≤ 5 := h 9 j
theorem wf_10 {S : ST} (h : wf S) (j : Int) : 0 ≤ S.1 10 j ∧ S.1 10 j ≤ 5 := h 10 j
theorem wf_11 {S : ST} (h : wf S) (j : Int) : 0 ≤ S.1 11 j ∧ S.1 11 j ≤ 2 := h 11 j
theorem wf_12 {S : ST} (h : wf S) (j : Int) : 0 ≤ S.1 12 j ∧ S.1 12 j ≤ 1000000 := h 12 j
theorem wf_13 {S : ST} (h : wf S) (j : Int) : 0 ≤ S.1 13 j ∧ S.1 13 j ≤ 19 := h 13 j
theorem wf_14 {S : ST} (h : wf S) (j : Int) : 0 ≤ S.1 14 j ∧ S.1 14 j ≤ 2 := h 14 j
theorem wf_15 {S : ST} (h : wf S) (j : Int) : 0 ≤ S.1 15 j ∧ S.1 15 j ≤ 1 := h 15 j
theorem wf_16 {S : ST} (h : wf S) (j : Int) : 0 ≤ S.1 16 j ∧ S.1 16 j ≤ 999 := h 16 j
theorem wf_17 {S : ST} (h : wf S) (j : Int) : 0 ≤ S.1 17 j ∧ S.1 17 j ≤ 1 := h 17 j
theorem wf_18 {S : ST} (h : wf S) (j : Int) : 0 ≤ S.1 18 j ∧ S.1 18 j ≤ 5 := h 18 j
theorem wf_19 {S : ST} (h : wf S) (j : Int) : 0 ≤ S.1 19 j ∧ S.1 19 j ≤ 1 := h 19 j
theorem wf_20 {S : ST} (h : wf S) (j : Int) : -1 ≤ S.1 20 j ∧ S.1 20 j ≤ 3 := h 20 j
theorem wf_21 {S : ST} (h : wf S) (j : Int) : -1 ≤ S.1 21 j ∧ S.1 21 j ≤ 59 := h 21 j
theorem wf_22 {S : ST} (h : wf S) (j : Int) : 0 ≤ S.1 22 j ∧ S.1 22 j ≤ 998 := h 22 j
theorem wf_23 {S : ST} (h : wf S) (j : Int) : -1 ≤ S.1 23 j ∧ S.1 23 j ≤ 998 := h 23 j
theorem wf_24 {S : ST} (h : wf S) (j : Int) : 0 ≤ S.1 24 j ∧ S.1 24 j ≤ 1 := h 24 j
theorem wf_25 {S : ST} (h : wf S) (j : Int) : -1 ≤ S.1 25 j ∧ S.1 25 j ≤ 59 := h 25 j
theorem wf_26 {S : ST} (h : wf S) (j : Int) : 0 ≤ S.1 26 j ∧ S.1 26 j ≤ 100000 := h 26 j
theorem wf_27 {S : ST} (h : wf S) (j : Int) : 0 ≤ S.1 27 j ∧ S.1 27 j ≤ 60 := h 27 j
theorem wf_28 {S : ST} (h : wf S) (j : Int) : 0 ≤ S.1 28 j ∧ S.1 28 j ≤ 59 := h 28 j
theorem wf_29 {S : ST} (h : wf S) (j : Int) : 0 ≤ S.1 29 j ∧ S.1 29 j ≤ 60 := h 29 j
theorem wf_30 {S : ST} (h : wf S) (j : Int) : 0 ≤ S.1 30 j ∧ S.1 30 j ≤ 60 := h 30 j
theorem wf_31 {S : ST} (h : wf S) (j : Int) : 0 ≤ S.1 31 j ∧ S.1 31 j ≤ 29990 := h 31 j
theorem wf_40 {S : ST} (h : wf S) (j : Int) : -1 ≤ S.1 40 j ∧ S.1 40 j ≤ 3 := h 40 j
theorem wf_41 {S : ST} (h : wf S) (j : Int) : -1 ≤ S.1 41 j ∧ S.1 41 j ≤ 998 := h 41 j
theorem wf_42 {S : ST} (h : wf S) (j : Int) : -1 ≤ S.1 42 j ∧ S.1 42 j ≤ 1000 := h 42 j
theorem wf_43 {S : ST} (h : wf S) (j : Int) : 0 ≤ S.1 43 j ∧ S.1 43 j ≤ 59 := h 43 j
theorem wf_44 {S : ST} (h : wf S) (j : Int) : 0 ≤ S.1 44 j ∧ S.1 44 j ≤ 60 := h 44 j
/-! the reference's cells -/
def mI (S X : ST) (i : Nat) : Int → Int := if i = 33 ∨ i = 36 then X.1 i else S.1 i
def mL (S X : ST) (i : Nat) : Int → Int64 := if i = 34 ∨ i = 35 then X.2 i else S.2 i
def iA (g : Int → Int) : Nat → Int32 := fun j => iI (g j)
def lA (g : Int → Int64) : Nat → Int64 := fun j => g j
/-- what a field is: 1 a row of ints, 2 of booleans, 3 of longs -/
def mkind : Nat → Nat := fun i => match i with
  | 2 => 1
  | 3 => 1
  | 9 => 1
  | 10 => 1
  | 11 => 1
  | 12 => 1
  | 13 => 1
  | 14 => 1
  | 16 => 1
  | 18 => 1
  | 20 => 1
  | 21 => 1
  | 22 => 1
  | 23 => 1
  | 25 => 1
  | 28 => 1
  | 29 => 1
  | 30 => 1
  | 5 => 2
  | 6 => 2
  | 7 => 2
  | 15 => 2
  | 17 => 2
  | 19 => 2
  | 24 => 2
  | 33 => 2
  | 1 => 3
  | 4 => 3
  | 32 => 3
  | 34 => 3
  | 35 => 3
  | _ => 0
def mlen : Nat → Nat := fun i => match i with
  | 1 => 21
  | 2 => 18
  | 3 => 108
  | 4 => 108
  | 5 => 6
  | 6 => 3000
  | 7 => 20
  | 9 => 60
  | 10 => 60
  | 11 => 60
  | 12 => 60
  | 13 => 60
  | 14 => 60
  | 15 => 60
  | 16 => 60
  | 17 => 60
  | 18 => 60
  | 19 => 60
  | 20 => 60
  | 21 => 60
  | 22 => 60
  | 23 => 60
  | 24 => 60
  | 25 => 600
  | 28 => 60
  | 29 => 6
  | 30 => 6
  | 32 => 150000
  | 33 => 60
  | 34 => 21
  | 35 => 108
  | _ => 0
def mFs (ix : Nat → Nat) (S X : ST) : List Value := [.int (iI (S.1 0 0)), .ref (ix 101), .ref (ix 102), .ref (ix 103), .ref (ix 104), .ref (ix 105), .ref (ix 106), .ref (ix 107), .int (iI (S.1 8 0)), .ref (ix 109), .ref (ix 110), .ref (ix 111), .ref (ix 112), .ref (ix 113), .ref (ix 114), .ref (ix 115), .ref (ix 116), .ref (ix 117), .ref (ix 118), .ref (ix 119), .ref (ix 120), .ref (ix 121), .ref (ix 122), .ref (ix 123), .ref (ix 124), .ref (ix 125), .int (iI (S.1 26 0)), .int (iI (S.1 27 0)), .ref (ix 128), .ref (ix 129), .ref (ix 130), .int (iI (S.1 31 0)), .ref (ix 132), .ref (ix 133), .ref (ix 134), .ref (ix 135), .int (iI (X.1 36 0))]
def mC (cy : Nat → ClassId) (ix : Nat → Nat) (S X : ST) (i : Nat) : Option va_E :=
  if i = 0 then some (.inr (13, mFs ix S X)) else if mkind i = 1 then some (.inl (cy 0, mlen i, .inl (iA (mI S X i)))) else if mkind i = 2 then some (.inl (cy 2, mlen i, .inl (iA (mI S X i)))) else if mkind i = 3 then some (.inl (cy 1, mlen i, .inr (.inl (lA (mL S X i))))) else none
/-- the reference's world: places 0 to 99999 are its own (address ix (100 + i)), the others are G -/
def mW (cy : Nat → ClassId) (ix : Nat → Nat) (S X : ST) (G : gF) : gF := fun i => if i < 100000 then (mC cy ix S X i).map (fun e => (ix (i + 100), e)) else G i
theorem mW_0 (cy : Nat → ClassId) (ix : Nat → Nat) (S X : ST) (G : gF) : mW cy ix S X G 0 = some (ix 100, .inr (13, mFs ix S X)) := rfl
theorem mW_1 (cy : Nat → ClassId) (ix : Nat → Nat) (S X : ST) (G : gF) {i : Nat} (hi : i < 100000) (hk : mkind i = 1) : mW cy ix S X G i = some (ix (i + 100), .inl (cy 0, mlen i, .inl (iA (mI S X i)))) := by
  have h0 : i ≠ 0 := by rintro rfl; revert hk; decide
  simp [mW, mC, hi, hk, h0]
theorem mW_2 (cy : Nat → ClassId) (ix : Nat → Nat) (S X : ST) (G : gF) {i : Nat} (hi : i < 100000) (hk : mkind i = 2) : mW cy ix S X G i = some (ix (i + 100), .inl (cy 2, mlen i, .inl (iA (mI S X i)))) := by
  have h0 : i ≠ 0 := by rintro rfl; revert hk; decide
  simp [mW, mC, hi, hk, h0]
theorem mW_3 (cy : Nat → ClassId) (ix : Nat → Nat) (S X : ST) (G : gF) {i : Nat} (hi : i < 100000) (hk : mkind i = 3) : mW cy ix S X G i = some (ix (i + 100), .inl (cy 1, mlen i, .inr (.inl (lA (mL S X i))))) := by
  have h0 : i ≠ 0 := by rintro rfl; revert hk; decide
  simp [mW, mC, hi, hk, h0]
theorem mkind_sc {f : Nat} (h : mkind f ≠ 0) : f ≠ 0 ∧ f ≠ 8 ∧ f ≠ 26 ∧ f ≠ 27 ∧ f ≠ 31 ∧ f ≠ 36 := by
  refine ⟨?_, ?_, ?_, ?_, ?_, ?_⟩ <;> (rintro rfl; exact h (by decide))
/-- a world whose cells at the place f alone change -/
theorem mW_up {cy : Nat → ClassId} {ix : Nat → Nat} {S X S' X' : ST} {G : gF} {f : Nat} {e : va_E} (hf : f < 100000) (he : mC cy ix S' X' f = some e) (ho : ∀ i : Nat, i ≠ f → mC cy ix S' X' i = mC cy ix S X i) : gup (mW cy ix S X G) f (ix (f + 100)) e = mW cy ix S' X' G := by
  funext i
  by_cases h : i = f
  · subst h
    rw [gup_s]
    simp [mW, hf, he]
  · rw [gup_n _ _ _ h]
    unfold mW
    by_cases hi : i < 100000
    · rw [if_pos hi, if_pos hi, ho i h]
    · rw [if_neg hi, if_neg hi]
theorem mC_pI {cy : Nat → ClassId} {ix : Nat → Nat} {S X : ST} {f i : Nat} {k v : Int} (hi : i ≠ f) (hk : mkind f ≠ 0) : mC cy ix (pI S f k v) X i = mC cy ix S X i := by
  obtain ⟨h1, h2, h3, h4, h5, h6⟩ := mkind_sc hk
  have hF : mFs ix (pI S f k v) X = mFs ix S X := by
    unfold mFs
    rw [pI_f S k v (Ne.symm h1), pI_f S k v (Ne.symm h2), pI_f S k v (Ne.symm h3), pI_f S k v (Ne.symm h4), pI_f S k v (Ne.symm h5)]
  have hI : mI (pI S f k v) X i = mI S X i := by
    unfold mI
    rw [pI_f S k v hi]
  have hL : mL (pI S f k v) X i = mL S X i := rfl
  unfold mC
  rw [hF, hI, hL]
theorem mC_pX {cy : Nat → ClassId} {ix : Nat → Nat} {S X : ST} {f i : Nat} {k v : Int} (hi : i ≠ f) (hk : mkind f ≠ 0) : mC cy ix S (pI X f k v) i = mC cy ix S X i := by
  obtain ⟨h1, h2, h3, h4, h5, h6⟩ := mkind_sc hk
  have hF : mFs ix S (pI X f k v) = mFs ix S X := by
    unfold mFs
    rw [pI_f X k v (Ne.symm h6)]
  have hI : mI S (pI X f k v) i = mI S X i := by
    unfold mI
    rw [pI_f X k v hi]
  have hL : mL S (pI X f k v) i = mL S X i := rfl
  unfold mC
  rw [hF, hI, hL]
theorem mC_pL {cy : Nat → ClassId} {ix : Nat → Nat} {S X : ST} {f i : Nat} {k : Int} {v : Int64} (hi : i ≠ f) : mC cy ix (pL S f k v) X i = mC cy ix S X i := by
  have hF : mFs ix (pL S f k v) X = mFs ix S X := rfl
  have hI : mI (pL S f k v) X i = mI S X i := rfl
  have hL : mL (pL S f k v) X i = mL S X i := by
    unfold mL
    rw [pL_f S k v hi]
  unfold mC
  rw [hF, hI, hL]
theorem mC_pLX {cy : Nat → ClassId} {ix : Nat → Nat} {S X : ST} {f i : Nat} {k : Int} {v : Int64} (hi : i ≠ f) : mC cy ix S (pL X f k v) i = mC cy ix S X i := by
  have hF : mFs ix S (pL X f k v) = mFs ix S X := rfl
  have hI : mI S (pL X f k v) i = mI S X i := rfl
  have hL : mL S (pL X f k v) i = mL S X i := by
    unfold mL
    rw [pL_f X k v hi]
  unfold mC
  rw [hF, hI, hL]
theorem iA_up (g : Int → Int) {k v : Int} {n : Nat} (h0 : 0 ≤ k) (h1 : k < n) (hn : n ≤ 2147483648) : upd (iA g) (iI k).toNatClampNeg (iI v) = iA (fun j => if j = k then v else g j) := by
  rw [iI_clamp ⟨by omega, by omega⟩]
  funext j
  unfold upd iA
  dsimp only
  by_cases h : j = k.toNat
  · rw [if_pos h, if_pos (by omega)]
  · rw [if_neg h, if_neg (by omega)]
theorem lA_up (g : Int → Int64) {k : Int} {v : Int64} {n : Nat} (h0 : 0 ≤ k) (h1 : k < n) (hn : n ≤ 2147483648) : vp_updL (lA g) (iI k).toNatClampNeg v = lA (fun j => if j = k then v else g j) := by
  rw [iI_clamp ⟨by omega, by omega⟩]
  funext j
  unfold vp_updL lA
  dsimp only
  by_cases h : j = k.toNat
  · rw [if_pos h, if_pos (by omega)]
  · rw [if_neg h, if_neg (by omega)]
theorem mlen_le (i : Nat) : mlen i ≤ 150000 := by unfold mlen; split <;> omega
theorem iA_at (g : Int → Int) {k : Int} (h0 : 0 ≤ k) (h1 : k < 2147483648) : iA g (iI k).toNatClampNeg = iI (g k) := by
  rw [iI_clamp ⟨by omega, by omega⟩]
  unfold iA
  rw [Int.toNat_of_nonneg h0]
theorem lA_at (g : Int → Int64) {k : Int} (h0 : 0 ≤ k) (h1 : k < 2147483648) : lA g (iI k).toNatClampNeg = g k := by
  rw [iI_clamp ⟨by omega, by omega⟩]
  unfold lA
  rw [Int.toNat_of_nonneg h0]
theorem pI_fn (S : ST) (f : Nat) (k v : Int) : (pI S f k v).1 f = fun j => if j = k then v else S.1 f j := by
  funext j
  by_cases h : j = k <;> simp [pI, h]
theorem pL_fn (S : ST) (f : Nat) (k : Int) (v : Int64) : (pL S f k v).2 f = fun j => if j = k then v else S.2 f j := by
  funext j
  by_cases h : j = k <;> simp [pL, h]

/-- the reference's own working rows: who is in the set, what accounts and pairs have more by it, the exception's number -/
def mX (I : Int → Bool) (a q : Int → Int64) (t : Int) : ST := (fun f j => if f = 33 then bI (I j) else t, fun f j => if f = 34 then a j else q j)
def iup (I : Int → Bool) (k : Int) (v : Bool) : Int → Bool := fun j => if j = k then v else I j
def lup (a : Int → Int64) (k : Int) (v : Int64) : Int → Int64 := fun j => if j = k then v else a j
theorem iup_s (I : Int → Bool) (k : Int) (v : Bool) : iup I k v k = v := by simp [iup]
theorem iup_n (I : Int → Bool) {k j : Int} (v : Bool) (h : j ≠ k) : iup I k v j = I j := by simp [iup, h]
theorem lup_s (a : Int → Int64) (k : Int) (v : Int64) : lup a k v k = v := by simp [lup]
theorem lup_n (a : Int → Int64) {k j : Int} (v : Int64) (h : j ≠ k) : lup a k v j = a j := by simp [lup, h]
theorem mX_I (I : Int → Bool) (a q : Int → Int64) (t k : Int) (v : Bool) : pI (mX I a q t) 33 k (bI v) = mX (iup I k v) a q t := by
  have h : (pI (mX I a q t) 33 k (bI v)).1 = (mX (iup I k v) a q t).1 := by
    funext f j
    by_cases hf : f = 33
    · subst hf
      by_cases hj : j = k <;> simp [pI, mX, iup, hj]
    · simp [pI, mX, hf]
  exact Prod.ext h rfl
theorem mX_a (I : Int → Bool) (a q : Int → Int64) (t k : Int) (v : Int64) : pL (mX I a q t) 34 k v = mX I (lup a k v) q t := by
  have h : (pL (mX I a q t) 34 k v).2 = (mX I (lup a k v) q t).2 := by
    funext f j
    by_cases hf : f = 34
    · subst hf
      by_cases hj : j = k <;> simp [pL, mX, lup, hj]
    · simp [pL, mX, hf]
  exact Prod.ext rfl h
theorem mC_t {cy : Nat → ClassId} {ix : Nat → Nat} {S : ST} {I : Int → Bool} {a q : Int → Int64} {t t' : Int} {i : Nat} (h0 : i ≠ 0) : mC cy ix S (mX I a q t') i = mC cy ix S (mX I a q t) i := by
  have hL : mL S (mX I a q t') i = mL S (mX I a q t) i := rfl
  by_cases h : i = 36
  · subst h
    rfl
  · have hI : mI S (mX I a q t') i = mI S (mX I a q t) i := by
      unfold mI
      by_cases h3 : i = 33
      · subst h3
        rfl
      · rw [if_neg (by omega), if_neg (by omega)]
    unfold mC
    rw [if_neg h0, if_neg h0, hI, hL]
section MR
variable {p : Program} {l : Launch} {e : Env} {R : Room} {s : State} {m : MethodId} {args : Array Value} {below : List Frame} {meth : Method} {c : Code} {H : Heap} {locs : List Loc} {cells slots : Nat} {Q : State → Prop}
variable {cc : ByteArray} {pc nL : Nat} {ls : Array Slot} {rest : List Value} {Ts : List Cond}
variable {D : va_G} {cy : Nat → ClassId} {B0 : Nat} {H0 : State} {ix : Nat → Nat} {S X : ST} {G : gF} {I : Int → Bool} {aM qM : Int → Int64} {tM : Int}
theorem mr_get (K : CallFix p m c cc nL s args Ts RX12) (hK : gK D cy s) (hW : gW D B0 H0 (mW cy ix S X G) H locs) (hin : ∀ w ∈ wsX120, w ∈ Ts) (k : Nat) (hk : k < 37) {index : Nat} (hlink : Cond.fieldLink RX12 index RX12 (TX12 k).2.1 (TX12 k).2.2.1 ∈ Ts) {v : Value} (hv : (mFs ix S X)[k]? = some v) (hdg : decode cc pc = .ok (.getfield index, 3))
    (kk : W p l e R s m args below meth c H locs cells slots Q (F0 m (pc + 3) ls (v :: rest))) : W p l e R s m args below meth c H locs cells slots Q (F0 m (pc) ls (.ref (ix 100) :: rest)) := by
  obtain ⟨hx, hb, hml, hown, hts⟩ := K
  refine g_get (ref := RX12) (T := TX12) (N := 37) (ci := 13) hx hb hts hin hown hK hW 0 (mW_0 cy ix S X G) rfl k hk (hts _ hlink) (fun x h => ?_) hv hdg kk
  have e : (TX12 k).1 = RX12 := by
    unfold TX12
    split <;> rfl
  rwa [e] at h
theorem mr_put (K : CallFix p m c cc nL s args Ts RX12) (hK : gK D cy s) (hW : gW D B0 H0 (mW cy ix S X G) H locs) (hin : ∀ w ∈ wsX120, w ∈ Ts) (k : Nat) (hk : k < 37) {index : Nat} (hlink : Cond.fieldLink RX12 index RX12 (TX12 k).2.1 (TX12 k).2.2.1 ∈ Ts) (hfin : (TX12 k).2.2.2 = false) (hty : (TX12 k).2.2.1 = "I") {S' X' : ST} {v : Int} (hs : (mFs ix S X).set k (.int (iI v)) = mFs ix S' X') (hC : ∀ i : Nat, i ≠ 0 → mC cy ix S' X' i = mC cy ix S X i) (hdg : decode cc pc = .ok (.putfield index, 3))
    (kk : ∀ (H1 : Heap) (locs1 : List Loc), gW D B0 H0 (mW cy ix S' X' G) H1 locs1 → W p l e R s m args below meth c H1 locs1 cells slots Q (F0 m (pc + 3) ls (rest))) : W p l e R s m args below meth c H locs cells slots Q (F0 m (pc) ls (.int (iI v) :: .ref (ix 100) :: rest)) := by
  obtain ⟨hx, hb, hml, hown, hts⟩ := K
  refine g_put (ref := RX12) (T := TX12) (N := 37) (ci := 13) (ty := .int) hx hb hts hin tyX12 tyX12_ok nmX12 hown hK hW 0 (mW_0 cy ix S X G) rfl k hk (hts _ hlink) (fun x h => ?_) hfin (by rw [hty]; decide +kernel) rfl rfl (show k < 37 from hk) hdg (fun H1 locs1 hW1 => kk H1 locs1 ?_)
  · have e : (TX12 k).1 = RX12 := by
      unfold TX12
      split <;> rfl
    rwa [e] at h
  · rw [hs] at hW1
    rwa [mW_up (S' := S') (X' := X') (f := 0) (by decide) (by unfold mC; rw [if_pos rfl]) hC] at hW1
theorem mC_sc {cy : Nat → ClassId} {ix : Nat → Nat} {S X : ST} {f i : Nat} {v : Int} (hk : mkind f = 0) (h0 : i ≠ 0) (hf : f ≠ 33) : mC cy ix (pI S f 0 v) X i = mC cy ix S X i := by
  by_cases h : i = f
  · subst h
    unfold mC
    rw [if_neg h0, if_neg h0]
    simp [hk]
  · have hI : mI (pI S f 0 v) X i = mI S X i := by
      unfold mI
      rw [pI_f S 0 v h]
    have hL : mL (pI S f 0 v) X i = mL S X i := rfl
    unfold mC
    rw [if_neg h0, if_neg h0, hI, hL]
theorem mC_scX {cy : Nat → ClassId} {ix : Nat → Nat} {S X : ST} {i : Nat} {v : Int} (h0 : i ≠ 0) : mC cy ix S (pI X 36 0 v) i = mC cy ix S X i := by
  by_cases h : i = 36
  · subst h
    rfl
  · have hI : mI S (pI X 36 0 v) i = mI S X i := by
      unfold mI
      rw [pI_f X 0 v h]
    have hL : mL S (pI X 36 0 v) i = mL S X i := rfl
    unfold mC
    rw [if_neg h0, if_neg h0, hI, hL]
theorem mr_iald (K : CallFix p m c cc nL s args Ts RX12) (hK : gK D cy s) (hW : gW D B0 H0 (mW cy ix S X G) H locs) (i : Nat) (hi : i < 100000) (hk : mkind i = 1) {n : Nat} (hn : mlen i = n) {a : Nat} (ha : a = ix (i + 100)) {z v : Int} (hz : 0 ≤ z ∧ z < n) (hv : mI S X i z = v) (hdg : decode cc pc = .ok (.iaload, 1))
    (kk : W p l e R s m args below meth c H locs cells slots Q (F0 m (pc + 1) ls (.int (iI v) :: rest))) : W p l e R s m args below meth c H locs cells slots Q (F0 m (pc) ls (.int (iI z) :: .ref a :: rest)) := by
  obtain ⟨hx, hb, hml, hown, hts⟩ := K
  subst hn ha hv
  have h5 := mlen_le i
  refine g_iald hx hb hK hW i (mW_1 cy ix S X G hi hk) (iI_in hz.1 hz.2 (by omega)) hdg ?_
  rw [iA_at _ hz.1 (by omega)]
  exact kk
theorem mr_zald (K : CallFix p m c cc nL s args Ts RX12) (hK : gK D cy s) (hW : gW D B0 H0 (mW cy ix S X G) H locs) (i : Nat) (hi : i < 100000) (hk : mkind i = 2) {n : Nat} (hn : mlen i = n) {a : Nat} (ha : a = ix (i + 100)) {z v : Int} (hz : 0 ≤ z ∧ z < n) (hv : mI S X i z = v) (hdg : decode cc pc = .ok (.baload, 1))
    (kk : W p l e R s m args below meth c H locs cells slots Q (F0 m (pc + 1) ls (.int (iI v) :: rest))) : W p l e R s m args below meth c H locs cells slots Q (F0 m (pc) ls (.int (iI z) :: .ref a :: rest)) := by
  obtain ⟨hx, hb, hml, hown, hts⟩ := K
  subst hn ha hv
  have h5 := mlen_le i
  refine g_zald hx hb hK hW i (mW_2 cy ix S X G hi hk) (iI_in hz.1 hz.2 (by omega)) hdg ?_
  rw [iA_at _ hz.1 (by omega)]
  exact kk
theorem mr_lald (K : CallFix p m c cc nL s args Ts RX12) (hK : gK D cy s) (hW : gW D B0 H0 (mW cy ix S X G) H locs) (i : Nat) (hi : i < 100000) (hk : mkind i = 3) {n : Nat} (hn : mlen i = n) {a : Nat} (ha : a = ix (i + 100)) {z : Int} {v : Int64} (hz : 0 ≤ z ∧ z < n) (hv : mL S X i z = v) (hdg : decode cc pc = .ok (.laload, 1))
    (kk : W p l e R s m args below meth c H locs cells slots Q (F0 m (pc + 1) ls (.long v :: rest))) : W p l e R s m args below meth c H locs cells slots Q (F0 m (pc) ls (.int (iI z) :: .ref a :: rest)) := by
  obtain ⟨hx, hb, hml, hown, hts⟩ := K
  subst hn ha hv
  have h5 := mlen_le i
  refine g_lald hx hb hK hW i (mW_3 cy ix S X G hi hk) (iI_in hz.1 hz.2 (by omega)) hdg ?_
  rw [lA_at _ hz.1 (by omega)]
  exact kk
theorem mr_iast (K : CallFix p m c cc nL s args Ts RX12) (hK : gK D cy s) (hW : gW D B0 H0 (mW cy ix S X G) H locs) (i : Nat) (hi : i < 100000) (hk : mkind i = 1) {n : Nat} (hn : mlen i = n) {a : Nat} (ha : a = ix (i + 100)) {z v : Int} (hz : 0 ≤ z ∧ z < n) (hdg : decode cc pc = .ok (.iastore, 1))
    (kk : ∀ (H1 : Heap) (locs1 : List Loc), gW D B0 H0 (mW cy ix (pI S i z v) X G) H1 locs1 → W p l e R s m args below meth c H1 locs1 cells slots Q (F0 m (pc + 1) ls (rest))) : W p l e R s m args below meth c H locs cells slots Q (F0 m (pc) ls (.int (iI v) :: .int (iI z) :: .ref a :: rest)) := by
  obtain ⟨hx, hb, hml, hown, hts⟩ := K
  subst hn ha
  have h5 := mlen_le i
  have h6 : i ≠ 33 := by rintro rfl; revert hk; decide
  have h7 : i ≠ 36 := by rintro rfl; revert hk; decide
  have h8 : i ≠ 0 := by rintro rfl; revert hk; decide
  refine g_iast hx hb hK hW i (mW_1 cy ix S X G hi hk) (iI_in hz.1 hz.2 (by omega)) hdg (fun H1 locs1 hW1 => kk H1 locs1 ?_)
  rw [iA_up _ hz.1 hz.2 (by omega)] at hW1
  have e : mI S X i = S.1 i := by simp [mI, h6, h7]
  rw [e, ← pI_fn] at hW1
  rwa [mW_up (S' := pI S i z v) (X' := X) hi (by simp [mC, hk, h8, mI, h6, h7]) (fun j hj => mC_pI hj (by rw [hk]; decide))] at hW1
theorem mr_zast (K : CallFix p m c cc nL s args Ts RX12) (hK : gK D cy s) (hW : gW D B0 H0 (mW cy ix S X G) H locs) (i : Nat) (hi : i < 100000) (hk : mkind i = 2) (h6 : i ≠ 33) {n : Nat} (hn : mlen i = n) {a : Nat} (ha : a = ix (i + 100)) {z v : Int} (hz : 0 ≤ z ∧ z < n) (hv : v = 0 ∨ v = 1) (hdg : decode cc pc = .ok (.bastore, 1))
    (kk : ∀ (H1 : Heap) (locs1 : List Loc), gW D B0 H0 (mW cy ix (pI S i z v) X G) H1 locs1 → W p l e R s m args below meth c H1 locs1 cells slots Q (F0 m (pc + 1) ls (rest))) : W p l e R s m args below meth c H locs cells slots Q (F0 m (pc) ls (.int (iI v) :: .int (iI z) :: .ref a :: rest)) := by
  obtain ⟨hx, hb, hml, hown, hts⟩ := K
  subst hn ha
  have h5 := mlen_le i
  have h7 : i ≠ 36 := by rintro rfl; revert hk; decide
  have h8 : i ≠ 0 := by rintro rfl; revert hk; decide
  refine g_zast hx hb hK hW i (mW_2 cy ix S X G hi hk) (iI_in hz.1 hz.2 (by omega)) hdg (fun H1 locs1 hW1 => kk H1 locs1 ?_)
  rw [iI_nar v hv, iA_up _ hz.1 hz.2 (by omega)] at hW1
  have e : mI S X i = S.1 i := by simp [mI, h6, h7]
  rw [e, ← pI_fn] at hW1
  rwa [mW_up (S' := pI S i z v) (X' := X) hi (by simp [mC, hk, h8, mI, h6, h7]) (fun j hj => mC_pI hj (by rw [hk]; decide))] at hW1
theorem mr_zastX (K : CallFix p m c cc nL s args Ts RX12) (hK : gK D cy s) (hW : gW D B0 H0 (mW cy ix S X G) H locs) {a : Nat} (ha : a = ix 133) {z v : Int} (hz : 0 ≤ z ∧ z < (60 : Nat)) (hv : v = 0 ∨ v = 1) (hdg : decode cc pc = .ok (.bastore, 1))
    (kk : ∀ (H1 : Heap) (locs1 : List Loc), gW D B0 H0 (mW cy ix S (pI X 33 z v) G) H1 locs1 → W p l e R s m args below meth c H1 locs1 cells slots Q (F0 m (pc + 1) ls (rest))) : W p l e R s m args below meth c H locs cells slots Q (F0 m (pc) ls (.int (iI v) :: .int (iI z) :: .ref a :: rest)) := by
  obtain ⟨hx, hb, hml, hown, hts⟩ := K
  subst ha
  refine g_zast hx hb hK hW 33 (mW_2 cy ix S X G (by decide) (by decide)) (iI_in hz.1 hz.2 (by decide)) hdg (fun H1 locs1 hW1 => kk H1 locs1 ?_)
  rw [iI_nar v hv, iA_up _ hz.1 hz.2 (by decide)] at hW1
  have e : mI S X 33 = X.1 33 := rfl
  rw [e, ← pI_fn] at hW1
  rwa [mW_up (S' := S) (X' := pI X 33 z v) (f := 33) (by decide) (by simp [mC, mkind, mI]) (fun j hj => mC_pX hj (by decide))] at hW1
theorem mr_last (K : CallFix p m c cc nL s args Ts RX12) (hK : gK D cy s) (hW : gW D B0 H0 (mW cy ix S X G) H locs) (i : Nat) (hi : i < 100000) (hk : mkind i = 3) (h6 : i ≠ 34 ∧ i ≠ 35) {n : Nat} (hn : mlen i = n) {a : Nat} (ha : a = ix (i + 100)) {z : Int} {v : Int64} (hz : 0 ≤ z ∧ z < n) (hdg : decode cc pc = .ok (.lastore, 1))
    (kk : ∀ (H1 : Heap) (locs1 : List Loc), gW D B0 H0 (mW cy ix (pL S i z v) X G) H1 locs1 → W p l e R s m args below meth c H1 locs1 cells slots Q (F0 m (pc + 1) ls (rest))) : W p l e R s m args below meth c H locs cells slots Q (F0 m (pc) ls (.long v :: .int (iI z) :: .ref a :: rest)) := by
  obtain ⟨hx, hb, hml, hown, hts⟩ := K
  subst hn ha
  have h5 := mlen_le i
  have h8 : i ≠ 0 := by rintro rfl; revert hk; decide
  refine g_last hx hb hK hW i (mW_3 cy ix S X G hi hk) (iI_in hz.1 hz.2 (by omega)) hdg (fun H1 locs1 hW1 => kk H1 locs1 ?_)
  rw [lA_up _ hz.1 hz.2 (by omega)] at hW1
  have e : mL S X i = S.2 i := by simp [mL, h6.1, h6.2]
  rw [e, ← pL_fn] at hW1
  rwa [mW_up (S' := pL S i z v) (X' := X) hi (by simp [mC, hk, h8, mL, h6.1, h6.2]) (fun j hj => mC_pL hj)] at hW1
theorem mr_lastX (K : CallFix p m c cc nL s args Ts RX12) (hK : gK D cy s) (hW : gW D B0 H0 (mW cy ix S X G) H locs) (i : Nat) (hi : i < 100000) (hk : mkind i = 3) (h6 : i = 34 ∨ i = 35) {n : Nat} (hn : mlen i = n) {a : Nat} (ha : a = ix (i + 100)) {z : Int} {v : Int64} (hz : 0 ≤ z ∧ z < n) (hdg : decode cc pc = .ok (.lastore, 1))
    (kk : ∀ (H1 : Heap) (locs1 : List Loc), gW D B0 H0 (mW cy ix S (pL X i z v) G) H1 locs1 → W p l e R s m args below meth c H1 locs1 cells slots Q (F0 m (pc + 1) ls (rest))) : W p l e R s m args below meth c H locs cells slots Q (F0 m (pc) ls (.long v :: .int (iI z) :: .ref a :: rest)) := by
  obtain ⟨hx, hb, hml, hown, hts⟩ := K
  subst hn ha
  have h5 := mlen_le i
  have h8 : i ≠ 0 := by rintro rfl; revert hk; decide
  refine g_last hx hb hK hW i (mW_3 cy ix S X G hi hk) (iI_in hz.1 hz.2 (by omega)) hdg (fun H1 locs1 hW1 => kk H1 locs1 ?_)
  rw [lA_up _ hz.1 hz.2 (by omega)] at hW1
  have e : mL S X i = X.2 i := by simp [mL, h6]
  rw [e, ← pL_fn] at hW1
  rwa [mW_up (S' := S) (X' := pL X i z v) hi (by simp [mC, hk, h8, mL, h6]) (fun j hj => mC_pLX hj)] at hW1
theorem mr_zastI (K : CallFix p m c cc nL s args Ts RX12) (hK : gK D cy s) (hW : gW D B0 H0 (mW cy ix S (mX I aM qM tM) G) H locs) {a : Nat} (ha : a = ix 133) {z : Int} {v : Bool} (hz : 0 ≤ z ∧ z < (60 : Nat)) (hdg : decode cc pc = .ok (.bastore, 1))
    (kk : ∀ (H1 : Heap) (locs1 : List Loc), gW D B0 H0 (mW cy ix S (mX (iup I z v) aM qM tM) G) H1 locs1 → W p l e R s m args below meth c H1 locs1 cells slots Q (F0 m (pc + 1) ls (rest))) : W p l e R s m args below meth c H locs cells slots Q (F0 m (pc) ls (.int (iI (bI v)) :: .int (iI z) :: .ref a :: rest)) :=
  mr_zastX K hK hW ha hz (bI_01 v) hdg (fun H1 locs1 hW1 => kk H1 locs1 (by rw [← mX_I]; exact hW1))
theorem mr_last34 (K : CallFix p m c cc nL s args Ts RX12) (hK : gK D cy s) (hW : gW D B0 H0 (mW cy ix S (mX I aM qM tM) G) H locs) {a : Nat} (ha : a = ix 134) {z : Int} {v : Int64} (hz : 0 ≤ z ∧ z < (21 : Nat)) (hdg : decode cc pc = .ok (.lastore, 1))
    (kk : ∀ (H1 : Heap) (locs1 : List Loc), gW D B0 H0 (mW cy ix S (mX I (lup aM z v) qM tM) G) H1 locs1 → W p l e R s m args below meth c H1 locs1 cells slots Q (F0 m (pc + 1) ls (rest))) : W p l e R s m args below meth c H locs cells slots Q (F0 m (pc) ls (.long v :: .int (iI z) :: .ref a :: rest)) :=
  mr_lastX K hK hW 34 (by decide) rfl (Or.inl rfl) rfl ha hz hdg (fun H1 locs1 hW1 => kk H1 locs1 (by rw [← mX_a]; exact hW1))
theorem mX_q (I : Int → Bool) (a q : Int → Int64) (t k : Int) (v : Int64) : mC cy ix S (pL (mX I a q t) 35 k v) = mC cy ix S (mX I a (lup q k v) t) := by
  funext i
  have hF : mFs ix S (pL (mX I a q t) 35 k v) = mFs ix S (mX I a (lup q k v) t) := rfl
  have hI : mI S (pL (mX I a q t) 35 k v) i = mI S (mX I a (lup q k v) t) i := rfl
  have hL : mL S (pL (mX I a q t) 35 k v) i = mL S (mX I a (lup q k v) t) i := by
    unfold mL
    by_cases h : i = 34
    · subst h
      rfl
    · by_cases h5 : i = 35
      · subst h5
        rw [if_pos (Or.inr rfl), if_pos (Or.inr rfl)]
        funext j
        by_cases hj : j = k <;> simp [pL, mX, lup, hj]
      · rw [if_neg (by omega), if_neg (by omega)]
  unfold mC
  rw [hF, hI, hL]
theorem mr_last35 (K : CallFix p m c cc nL s args Ts RX12) (hK : gK D cy s) (hW : gW D B0 H0 (mW cy ix S (mX I aM qM tM) G) H locs) {a : Nat} (ha : a = ix 135) {z : Int} {v : Int64} (hz : 0 ≤ z ∧ z < (108 : Nat)) (hdg : decode cc pc = .ok (.lastore, 1))
    (kk : ∀ (H1 : Heap) (locs1 : List Loc), gW D B0 H0 (mW cy ix S (mX I aM (lup qM z v) tM) G) H1 locs1 → W p l e R s m args below meth c H1 locs1 cells slots Q (F0 m (pc + 1) ls (rest))) : W p l e R s m args below meth c H locs cells slots Q (F0 m (pc) ls (.long v :: .int (iI z) :: .ref a :: rest)) :=
  mr_lastX K hK hW 35 (by decide) rfl (Or.inr rfl) rfl ha hz hdg (fun H1 locs1 hW1 => kk H1 locs1 (by
    have e : mW cy ix S (mX I aM (lup qM z v) tM) G = mW cy ix S (pL (mX I aM qM tM) 35 z v) G := by
      unfold mW
      rw [mX_q]
    rw [e]
    exact hW1))
end MR
