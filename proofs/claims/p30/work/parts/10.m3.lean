/-! the words of: who is last, the queue, what comes, what is returned -/
def laN (S : ST) (I : Int → Bool) (b u : Int) (q : Bool) (l n : Int) : Int := if (I n && decide (S.1 9 n = b) && (decide (u = -1) || decide (S.1 10 n = u)) && (decide (l = -1) || !q || decide (S.1 14 n ≤ S.1 14 l))) = true then n else l
def laS (S : ST) (I : Int → Bool) (b u : Int) (q : Bool) : Nat → Int
  | 0 => -1
  | n + 1 => laN S I b u q (laS S I b u q n) n
theorem laS_s (S : ST) (I : Int → Bool) (b u : Int) (q : Bool) (n : Nat) : laS S I b u q (n + 1) = laN S I b u q (laS S I b u q n) n := rfl
def isQ (S : ST) (b c h k : Int) : Bool := decide (S.1 18 k = 2) && decide (S.1 9 k = b) && decide (S.1 11 k = c) && decide (S.1 14 k = h)
def qR (S : ST) (b c h : Int) : Nat → List Int
  | 0 => []
  | n + 1 => qR S b c h n ++ (if isQ S b c h n = true then [(n : Int)] else [])
theorem qR_s (S : ST) (b c h : Int) (n : Nat) : qR S b c h (n + 1) = qR S b c h n ++ (if isQ S b c h n = true then [(n : Int)] else []) := rfl
/-- the queue of a bank in a currency: by falling ranks, then by rising numbers -/
def qL (S : ST) (b c : Int) : List Int := qR S b c 2 (S.1 8 0).toNat ++ (qR S b c 1 (S.1 8 0).toNat ++ qR S b c 0 (S.1 8 0).toNat)
def qAt (S : ST) (b c p : Int) : Int := (qL S b c).getD p.toNat (-1)
def sEntV (S : ST) (k : Int) : Int := if (!decide (S.1 7 (S.1 13 k) = 0) && decide (S.1 19 k = 0)) = true then 1 else if S.1 15 k = 0 then 3 else 2
def sEnter (S : ST) (k : Int) : ST := pI S 18 k (sEntV S k)
def sCom1 (S : ST) (b u c v nm h : Int) (rl : Bool) (d : Int) (st : Bool) : ST := pI (pI (pI (pI (pI (pI (pI (pI (pI (pI (pI (pI (pI (pI S 8 0 (S.1 8 0 + 1)) 9 (S.1 8 0) b) 10 (S.1 8 0) u) 11 (S.1 8 0) c) 12 (S.1 8 0) v) 13 (S.1 8 0) nm) 14 (S.1 8 0) h) 15 (S.1 8 0) (bI rl)) 16 (S.1 8 0) d) 17 (S.1 8 0) (bI st)) 20 (S.1 8 0) (-1)) 21 (S.1 8 0) (-1)) 23 (S.1 8 0) (-1)) 18 (S.1 8 0) 0
def gCome (S : ST) (k : Int) : ST := pI (pI (pI S 40 k (-1)) 41 k (-1)) 42 k (-1)
/-- a payment comes: it waits, or enters -/
def sCome (S : ST) (b u c v nm h : Int) (rl : Bool) (d : Int) (st : Bool) : ST := gCome (if (decide (d ≤ S.1 0 0) && sOpen S c (S.1 0 0)) = true then sEnter (sCom1 S b u c v nm h rl d st) (S.1 8 0) else sCom1 S b u c v nm h rl d st) (S.1 8 0)
def sAlk (S : ST) (k u c v nm h : Int) (rl : Bool) (d : Int) (st : Bool) : Bool := decide (S.1 10 k = u) && decide (S.1 11 k = c) && decide (S.1 12 k = v) && decide (S.1 13 k = nm) && decide (S.1 14 k = h) && decide (S.1 15 k = bI rl) && decide (S.1 16 k = d) && decide (S.1 17 k = bI st)
def sJ1 (S : ST) (k u : Int) : Bool := !decide (k = u) && !sEnds S k && !sEnds S u && !decide (S.1 15 k = 0) && !decide (S.1 15 u = 0) && !decide (S.1 11 k = S.1 11 u)
def sJoin (S : ST) (k u : Int) : Bool := sJ1 S k u && decide (S.1 9 k = S.1 10 u) && decide (S.1 10 k = S.1 9 u) && decide (S.1 21 k = -1) && decide (S.1 21 u = -1)
def sRe1 (S : ST) (k : Int) : Bool := !decide (S.1 21 k = -1) && !decide ((pI S 18 k 5).1 18 (S.1 21 k) = 5)
def sRet (S : ST) (k : Int) : ST := if sRe1 S k = true then pI (pI S 18 k 5) 18 (S.1 21 k) 5 else pI S 18 k 5
def sRetN (S : ST) (k : Int) : Int := if sRe1 S k = true then 2 else 1
/-- the advices of a bank, in the order of what became FINAL -/
def aL (S : ST) (b : Int) : Nat → List Int
  | 0 => []
  | n + 1 => aL S b n ++ (if S.1 10 (S.1 28 n) = b then [S.1 28 n] else [])
theorem aL_s (S : ST) (b : Int) (n : Nat) : aL S b (n + 1) = aL S b n ++ (if S.1 10 (S.1 28 n) = b then [S.1 28 n] else []) := rfl
def aAt (S : ST) (b p : Int) : Int := (aL S b (S.1 27 0).toNat).getD p.toNat (-1)
