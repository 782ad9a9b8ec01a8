/-! the state that both sides are tied to: whole numbers by field and place, longs by field and place.
 fields: 0 today 1 account 2 line 3 limit 4 paid 5 isOut 6 isHoliday 7 isListed 8 payments 9 from 10 to 11 currency 12 amount 13 payee 14 rank 15 isReal 16 day 17 stays 18 state 19 isReleased 20 officer 21 leg 22 finalOn 23 recalledOn 24 isAnswered 25 message 26 doubles 27 finals 28 finished 29 taken 30 most 31 entries 32 entry 33 isIn 34 more 35 morePaid 36 thrown -/
abbrev ST : Type := (Nat → Int → Int) × (Nat → Int → Int64)
def pI (S : ST) (f : Nat) (k v : Int) : ST := (fun g j => if g = f ∧ j = k then v else S.1 g j, S.2)
def pL (S : ST) (f : Nat) (k : Int) (v : Int64) : ST := (S.1, fun g j => if g = f ∧ j = k then v else S.2 g j)
theorem pI_s (S : ST) (f : Nat) (k v : Int) : (pI S f k v).1 f k = v := by simp [pI]
theorem pI_n (S : ST) {f g : Nat} (k j v : Int) (h : g ≠ f ∨ j ≠ k) : (pI S f k v).1 g j = S.1 g j := by
  have : ¬ (g = f ∧ j = k) := by rintro ⟨a, b⟩; rcases h with h | h <;> contradiction
  simp [pI, this]
theorem pI_f (S : ST) {f g : Nat} (k v : Int) (h : g ≠ f) : (pI S f k v).1 g = S.1 g := by
  funext j
  exact pI_n S k j v (Or.inl h)
theorem pI_2 (S : ST) (f : Nat) (k v : Int) : (pI S f k v).2 = S.2 := rfl
theorem pL_1 (S : ST) (f : Nat) (k : Int) (v : Int64) : (pL S f k v).1 = S.1 := rfl
theorem pL_s (S : ST) (f : Nat) (k : Int) (v : Int64) : (pL S f k v).2 f k = v := by simp [pL]
theorem pL_n (S : ST) {f g : Nat} (k j : Int) (v : Int64) (h : g ≠ f ∨ j ≠ k) : (pL S f k v).2 g j = S.2 g j := by
  have : ¬ (g = f ∧ j = k) := by rintro ⟨a, b⟩; rcases h with h | h <;> contradiction
  simp [pL, this]
theorem pL_f (S : ST) {f g : Nat} (k : Int) (v : Int64) (h : g ≠ f) : (pL S f k v).2 g = S.2 g := by
  funext j
  exact pL_n S k j v (Or.inl h)
def foS {σ : Type} (f : Int → σ → σ) (s : σ) : Nat → σ
  | 0 => s
  | n + 1 => f n (foS f s n)
def alB (q : Int → Bool) : Nat → Bool
  | 0 => true
  | n + 1 => alB q n && q n
def anB (q : Int → Bool) : Nat → Bool
  | 0 => false
  | n + 1 => anB q n || q n
def suL (f : Int → Int64) : Nat → Int64
  | 0 => 0
  | n + 1 => suL f n + f n
def suI (f : Int → Int) : Nat → Int
  | 0 => 0
  | n + 1 => suI f n + f n
theorem alB_iff (q : Int → Bool) : ∀ n : Nat, alB q n = true ↔ ∀ k : Int, 0 ≤ k → k < n → q k = true
  | 0 => ⟨fun _ k h1 h2 => by omega, fun _ => rfl⟩
  | n + 1 => by
    rw [alB, Bool.and_eq_true, alB_iff q n]
    constructor
    · rintro ⟨h1, h2⟩ k h3 h4
      by_cases h : k = n
      · rw [h]; exact h2
      · exact h1 k h3 (by omega)
    · intro h
      exact ⟨fun k h1 h2 => h k h1 (by omega), h n (by omega) (by omega)⟩
theorem suL_congr {f g : Int → Int64} : ∀ {n : Nat}, (∀ k : Int, 0 ≤ k → k < n → f k = g k) → suL f n = suL g n
  | 0, _ => rfl
  | n + 1, h => by rw [suL, suL, suL_congr (fun k h1 h2 => h k h1 (by omega)), h n (by omega) (by omega)]
theorem suI_congr {f g : Int → Int} : ∀ {n : Nat}, (∀ k : Int, 0 ≤ k → k < n → f k = g k) → suI f n = suI g n
  | 0, _ => rfl
  | n + 1, h => by rw [suI, suI, suI_congr (fun k h1 h2 => h k h1 (by omega)), h n (by omega) (by omega)]
theorem foS_congr {σ : Type} {f g : Int → σ → σ} {s : σ} : ∀ {n : Nat}, (∀ k : Int, 0 ≤ k → k < n → ∀ x, f k x = g k x) → foS f s n = foS g s n
  | 0, _ => rfl
  | n + 1, h => by rw [foS, foS, foS_congr (fun k h1 h2 => h k h1 (by omega)), h n (by omega) (by omega)]

def rLo : Nat → Int := fun f => match f with
  | 0 => 0
  | 2 => 0
  | 3 => -1
  | 5 => 0
  | 6 => 0
  | 7 => 0
  | 8 => 0
  | 9 => 0
  | 10 => 0
  | 11 => 0
  | 12 => 0
  | 13 => 0
  | 14 => 0
  | 15 => 0
  | 16 => 0
  | 17 => 0
  | 18 => 0
  | 19 => 0
  | 20 => -1
  | 21 => -1
  | 22 => 0
  | 23 => -1
  | 24 => 0
  | 25 => -1
  | 26 => 0
  | 27 => 0
  | 28 => 0
  | 29 => 0
  | 30 => 0
  | 31 => 0
  | 40 => -1
  | 41 => -1
  | 42 => -1
  | 43 => 0
  | 44 => 0
  | _ => -1000000000
def rHi : Nat → Int := fun f => match f with
  | 0 => 998
  | 2 => 1000000
  | 3 => 1000000
  | 5 => 1
  | 6 => 1
  | 7 => 1
  | 8 => 60
  | 9 => 5
  | 10 => 5
  | 11 => 2
  | 12 => 1000000
  | 13 => 19
  | 14 => 2
  | 15 => 1
  | 16 => 999
  | 17 => 1
  | 18 => 5
  | 19 => 1
  | 20 => 3
  | 21 => 59
  | 22 => 998
  | 23 => 998
  | 24 => 1
  | 25 => 59
  | 26 => 100000
  | 27 => 60
  | 28 => 59
  | 29 => 60
  | 30 => 60
  | 31 => 29990
  | 40 => 3
  | 41 => 998
  | 42 => 1000
  | 43 => 59
  | 44 => 60
  | _ => 1000000000
/-- every number is in its range -/
def wf (S : ST) : Prop := ∀ (f : Nat) (j : Int), rLo f ≤ S.1 f j ∧ S.1 f j ≤ rHi f
theorem wf_pI {S : ST} (h : wf S) {f : Nat} (k v : Int) (hv : rLo f ≤ v ∧ v ≤ rHi f) : wf (pI S f k v) := by
  intro g j
  by_cases q : g = f ∧ j = k
  · obtain ⟨rfl, rfl⟩ := q
    rw [pI_s]
    exact hv
  · have h2 : g ≠ f ∨ j ≠ k := by
      by_cases a : g = f
      · exact Or.inr (fun b => q ⟨a, b⟩)
      · exact Or.inl a
    rw [pI_n S k j v h2]
    exact h g j
theorem wf_0 {S : ST} (h : wf S) (j : Int) : 0 ≤ S.1 0 j ∧ S.1 0 j ≤ 998 := h 0 j
theorem wf_3 {S : ST} (h : wf S) (j : Int) : -1 ≤ S.1 3 j ∧ S.1 3 j ≤ 1000000 := h 3 j
theorem wf_5 {S : ST} (h : wf S) (j : Int) : 0 ≤ S.1 5 j ∧ S.1 5 j ≤ 1 := h 5 j
theorem wf_6 {S : ST} (h : wf S) (j : Int) : 0 ≤ S.1 6 j ∧ S.1 6 j ≤ 1 := h 6 j
theorem wf_7 {S : ST} (h : wf S) (j : Int) : 0 ≤ S.1 7 j ∧ S.1 7 j ≤ 1 := h 7 j
theorem wf_8 {S : ST} (h : wf S) (j : Int) : 0 ≤ S.1 8 j ∧ S.1 8 j ≤ 60 := h 8 j
theorem wf_9 {S : ST} (h : wf S) (j : Int) : 0 ≤ S.1 9 j ∧ S.1 9 j ≤ 5 := h 9 j
theorem wf_10 {S : ST} (h : wf S) (j : Int) : 0 ≤ S.1 10 j ∧ S.1 10 j ≤ 5 := h 10 j
theorem wf_11 {S : ST} (h : wf S) (j : Int) : 0 ≤ S.1 11 j ∧ S.1 11 j ≤ 2 := h 11 j
theorem wf_12 {S : ST} (h : wf S) (j : Int) : 0 ≤ S.1 12 j ∧ S.1 12 j ≤ 1000000 := h 12 j
theorem wf_13 {S : ST} (h : wf S) (j : Int) : 0 ≤ S.1 13 j ∧ S.1 13 j ≤ 19 := h 13 j
theorem wf_14 {S : ST} (h : wf S) (j : Int) : 0 ≤ S.1 14 j ∧ S.1 14 j ≤ 2 := h 14 j
theorem wf_15 {S : ST} (h : wf S) (j : Int) : 0 ≤ S.1 15 j ∧ S.1 15 j ≤ 1 := h 15 j
theorem wf_16 {S : ST} (h : wf S) (j : Int) : 0 ≤ S.1 16 j ∧ S.1 16 j ≤ 999 := h 16 j
theorem wf_17 {S : ST} (h : wf S) (j : Int) : 0 ≤ S.1 17 j ∧ S.1 17 j ≤ 1 := h 17 j
theorem wf_18 {S : ST} (h : wf S) (j : Int) : 0 ≤ S.1 18 j ∧ S.1 18 j ≤ 5 := h 18 j
theorem wf_19 {S : ST} (h : wf S) (j : Int) : 0 ≤ S.1 19 j ∧ S.1 19 j ≤ 1 := h 19 j
theorem wf_21 {S : ST} (h : wf S) (j : Int) : -1 ≤ S.1 21 j ∧ S.1 21 j ≤ 59 := h 21 j
theorem wf_24 {S : ST} (h : wf S) (j : Int) : 0 ≤ S.1 24 j ∧ S.1 24 j ≤ 1 := h 24 j
theorem wf_25 {S : ST} (h : wf S) (j : Int) : -1 ≤ S.1 25 j ∧ S.1 25 j ≤ 59 := h 25 j
theorem wf_26 {S : ST} (h : wf S) (j : Int) : 0 ≤ S.1 26 j ∧ S.1 26 j ≤ 100000 := h 26 j
theorem wf_27 {S : ST} (h : wf S) (j : Int) : 0 ≤ S.1 27 j ∧ S.1 27 j ≤ 60 := h 27 j
theorem wf_29 {S : ST} (h : wf S) (j : Int) : 0 ≤ S.1 29 j ∧ S.1 29 j ≤ 60 := h 29 j
theorem wf_30 {S : ST} (h : wf S) (j : Int) : 0 ≤ S.1 30 j ∧ S.1 30 j ≤ 60 := h 30 j
theorem wf_31 {S : ST} (h : wf S) (j : Int) : 0 ≤ S.1 31 j ∧ S.1 31 j ≤ 29990 := h 31 j
theorem wf_40 {S : ST} (h : wf S) (j : Int) : -1 ≤ S.1 40 j ∧ S.1 40 j ≤ 3 := h 40 j
theorem wf_41 {S : ST} (h : wf S) (j : Int) : -1 ≤ S.1 41 j ∧ S.1 41 j ≤ 998 := h 41 j
theorem wf_42 {S : ST} (h : wf S) (j : Int) : -1 ≤ S.1 42 j ∧ S.1 42 j ≤ 1000 := h 42 j
theorem wf_43 {S : ST} (h : wf S) (j : Int) : 0 ≤ S.1 43 j ∧ S.1 43 j ≤ 59 := h 43 j
theorem wf_44 {S : ST} (h : wf S) (j : Int) : 0 ≤ S.1 44 j ∧ S.1 44 j ≤ 60 := h 44 j
/-! the reference's cells -/
def lA (g : Int → Int64) : Nat → Int64 := fun j => g j
theorem lA_up (g : Int → Int64) {k : Int} {v : Int64} {n : Nat} (h0 : 0 ≤ k) (h1 : k < n) (hn : n ≤ 2147483648) : vp_updL (lA g) (iI k).toNatClampNeg v = lA (fun j => if j = k then v else g j) := by
  rw [iI_clamp ⟨by omega, by omega⟩]
  funext j
  unfold vp_updL lA
  dsimp only
  by_cases h : j = k.toNat
  · rw [if_pos h, if_pos (by omega)]
  · rw [if_neg h, if_neg (by omega)]
theorem lA_at (g : Int → Int64) {k : Int} (h0 : 0 ≤ k) (h1 : k < 2147483648) : lA g (iI k).toNatClampNeg = g k := by
  rw [iI_clamp ⟨by omega, by omega⟩]
  unfold lA
  rw [Int.toNat_of_nonneg h0]
theorem pL_fn (S : ST) (f : Nat) (k : Int) (v : Int64) : (pL S f k v).2 f = fun j => if j = k then v else S.2 f j := by
  funext j
  by_cases h : j = k <;> simp [pL, h]

def iup (I : Int → Bool) (k : Int) (v : Bool) : Int → Bool := fun j => if j = k then v else I j
def lup (a : Int → Int64) (k : Int) (v : Int64) : Int → Int64 := fun j => if j = k then v else a j
theorem iup_s (I : Int → Bool) (k : Int) (v : Bool) : iup I k v k = v := by simp [iup]
theorem iup_n (I : Int → Bool) {k j : Int} (v : Bool) (h : j ≠ k) : iup I k v j = I j := by simp [iup, h]
section MR
variable {p : Program} {l : Launch} {e : Env} {R : Room} {s : State} {m : MethodId} {args : Array Value} {below : List Frame} {meth : Method} {c : Code} {H : Heap} {locs : List Loc} {cells slots : Nat} {Q : State → Prop}
variable {cc : ByteArray} {pc nL : Nat} {ls : Array Slot} {rest : List Value} {Ts : List Cond}
variable {D : va_G} {cy : Nat → ClassId} {B0 : Nat} {H0 : State} {ix : Nat → Nat} {S X : ST} {G : gF} {I : Int → Bool} {aM qM : Int → Int64} {tM : Int}
end MR
