/-! sums over a set -/
/-- what the account x has more by the payment k; what the pair y has more -/
def dK (S : ST) (k x : Int) : Int64 := (if x = 3 * S.1 9 k + S.1 11 k then -Int64.ofInt (S.1 12 k) else 0) + (if x = 3 * S.1 10 k + S.1 11 k then Int64.ofInt (S.1 12 k) else 0)
def pK (S : ST) (k y : Int) : Int64 := (if y = 3 * (6 * S.1 9 k + S.1 10 k) + S.1 11 k then Int64.ofInt (S.1 12 k) else 0) + (if y = 3 * (6 * S.1 10 k + S.1 9 k) + S.1 11 k then -Int64.ofInt (S.1 12 k) else 0)
def dS (S : ST) (I : Int → Bool) (n : Nat) (x : Int) : Int64 := suL (fun k => if I k = true then dK S k x else 0) n
def pS (S : ST) (I : Int → Bool) (n : Nat) (y : Int) : Int64 := suL (fun k => if I k = true then pK S k y else 0) n
def shX (S : ST) (a : Int → Int64) (b c : Int) : Bool := decide (a (3 * b + c) < 0) && decide (S.2 1 (3 * b + c) + a (3 * b + c) < Int64.ofInt (-(S.1 2 (3 * b + c))))
def paX (S : ST) (q : Int → Int64) (b o c : Int) : Bool := decide (0 < q (3 * (6 * b + o) + c)) && !decide (S.1 3 (3 * (6 * b + o) + c) = -1) && decide (Int64.ofInt (S.1 3 (3 * (6 * b + o) + c)) < S.2 4 (3 * (6 * b + o) + c) + q (3 * (6 * b + o) + c))
def fiX (S : ST) (a q : Int → Int64) (c : Int) : Bool := alB (fun b => !shX S a b c && alB (fun o => !paX S q b o c) 6) 6
/-- a payment that may move today -/
def moves (S : ST) (k : Int) : Bool := sOpen S (S.1 11 k) (S.1 0 0) && decide (S.1 5 (S.1 9 k) = 0) && decide (S.1 5 (S.1 10 k) = 0)
def wrkS (S : ST) (I : Int → Bool) : Nat → Bool := alB (fun k => !I k || moves S k)
