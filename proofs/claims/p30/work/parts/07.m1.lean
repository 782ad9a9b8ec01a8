/-! the words of the reference's small methods -/
def sOpen (S : ST) (c d : Int) : Bool := decide (d % 7 < 5) && decide (S.1 6 (1000 * c + d) = 0)
def sEnds (S : ST) (k : Int) : Bool := decide (S.1 18 k = 4) || decide (S.1 18 k = 5)
def sIn (v a b : Int) : Bool := decide (a ≤ v) && decide (v ≤ b)
def sEnt (S : ST) (b o c : Int) (v : Int64) (k : Int) : ST := pI (pL (pL (pL (pL (pL S 32 (5 * S.1 31 0) (Int64.ofInt b)) 32 (5 * S.1 31 0 + 1) (Int64.ofInt o)) 32 (5 * S.1 31 0 + 2) (Int64.ofInt c)) 32 (5 * S.1 31 0 + 3) v) 32 (5 * S.1 31 0 + 4) (Int64.ofInt k)) 31 0 (S.1 31 0 + 1)
def sLess (S : ST) (b c : Int) (v : Int64) : ST := (S.1, if b = -1 then S.2 else (pL S 1 (3 * b + c) (S.2 1 (3 * b + c) - v)).2)
theorem sLess_t {S : ST} {b c : Int} {v : Int64} (h : b = -1) : sLess S b c v = S := by
  unfold sLess
  rw [if_pos h]
theorem sLess_f {S : ST} {b c : Int} {v : Int64} (h : ¬ b = -1) : sLess S b c v = pL S 1 (3 * b + c) (S.2 1 (3 * b + c) - v) := by
  unfold sLess
  rw [if_neg h]
  rfl
def sMore (S : ST) (o c : Int) (v : Int64) : ST := pL S 1 (3 * o + c) (S.2 1 (3 * o + c) + v)
/-- an entry of the book -/
def sBook (S : ST) (b o c : Int) (v : Int64) (k : Int) : ST := sMore (sLess (sEnt S b o c v k) b c v) o c v
/-- which exception a call throws -/
def sGo (a b d : Bool) : Int := if a = false then 1 else if b = false then 2 else if d = false then 3 else 0
