/-! the reference's calls, as functions: the exception's number, the answer, the state -/
def okBC (b c : Int) : Bool := sIn b 0 5 && sIn c 0 2
def okP (S : ST) (k : Int) : Bool := sIn k 0 (S.1 8 0 - 1)
def pFund (S : ST) (b c v : Int) : Int × Int64 × ST := (sGo (okBC b c) (sIn v 1 1000000) true, if (okBC b c && sIn v 1 1000000 && true) = true then ((sRuns (sBook S (-1) b c (Int64.ofInt v) (-1))).2.2 1 (3 * b + c), (sRuns (sBook S (-1) b c (Int64.ofInt v) (-1))).2) else (0, S))
def pLine (S : ST) (b c v : Int) : Int × Int × ST := (sGo (okBC b c) (sIn v 0 1000000) true, if (okBC b c && sIn v 0 1000000 && true) = true then (S.1 2 (3 * b + c), (sRuns (pI S 2 (3 * b + c) v)).2) else (0, S))
def okBB (b u c : Int) : Bool := sIn b 0 5 && sIn u 0 5 && sIn c 0 2
def okLi (b u v : Int) : Bool := !decide (b = u) && sIn v (-1) 1000000
def pLimit (S : ST) (b u c v : Int) : Int × Int × ST := (sGo (okBB b u c) (okLi b u v) true, if (okBB b u c && okLi b u v && true) = true then (S.1 3 (3 * (6 * b + u) + c), (sRuns (pI S 3 (3 * (6 * b + u) + c) v)).2) else (0, S))
def pOut (S : ST) (b : Int) (is : Bool) : Int × Int × ST := (sGo (sIn b 0 5) true true, if (sIn b 0 5 && true && true) = true then (S.1 5 b, (sRuns (pI S 5 b (bI is))).2) else (0, S))
def pHoli (S : ST) (c d : Int) (is : Bool) : Int × Int × ST := (sGo (sIn c 0 2) (sIn d 0 999) true, if (sIn c 0 2 && sIn d 0 999 && true) = true then (bI (sOpen (sRuns (pI S 6 (1000 * c + d) (bI is))).2 c d), (sRuns (pI S 6 (1000 * c + d) (bI is))).2) else (0, S))
def lsC (S : ST) (nm : Int) (is : Bool) (k : Int) : Bool := is && decide (S.1 13 k = nm) && decide (S.1 19 k = 0) && (decide (S.1 18 k = 2) || decide (S.1 18 k = 3))
def lsB (nm : Int) (is : Bool) (k : Int) (x : Int × ST) : Int × ST := if lsC x.2 nm is k = true then (x.1 + 1, pI x.2 18 k 1) else x
def sList (S : ST) (nm : Int) (is : Bool) (n : Nat) : Int × ST := foS (lsB nm is) (0, pI S 7 nm (bI is)) n
def pList (S : ST) (nm : Int) (is : Bool) : Int × Int × ST := (sGo (sIn nm 0 19) true true, if (sIn nm 0 19 && true && true) = true then ((sList S nm is (nP S)).1, (sRuns (sList S nm is (nP S)).2).2) else (0, S))
def sdA (b msg u c nm : Int) : Bool := sIn b 0 5 && sIn u 0 5 && sIn msg 0 99 && sIn c 0 2 && sIn nm 0 19
def sdB (b u v h d : Int) : Bool := !decide (b = u) && sIn v 1 1000000 && sIn h 0 2 && sIn d 0 999
def sdI (S : ST) (b msg u c nm : Int) : Int := if sdA b msg u c nm = true then S.1 25 (100 * b + msg) else -1
def sdK (S : ST) (k u c v nm h : Int) (rl : Bool) (d : Int) (st : Bool) : Bool := !decide (k = -1) && sAlk S k u c v nm h rl d st
def sdD (S : ST) (a al : Bool) (b k : Int) : Bool := a && decide (S.1 5 b = 0) && ((decide (k = -1) && decide (S.1 8 0 < 60)) || (!decide (k = -1) && al))
def sdT (S : ST) (b msg u c v nm h : Int) (rl : Bool) (d : Int) (st : Bool) : ST := pI (sCome S b u c v nm h rl d st) 25 (100 * b + msg) (S.1 8 0)
def pSend (S : ST) (b msg u c v nm h : Int) (rl : Bool) (d : Int) (st : Bool) : Int × Int × ST := (sGo (sdA b msg u c nm) (sdB b u v h d) (sdD S (sdA b msg u c nm) (sdK S (sdI S b msg u c nm) u c v nm h rl d st) b (sdI S b msg u c nm)), if (sdA b msg u c nm && sdB b u v h d && sdD S (sdA b msg u c nm) (sdK S (sdI S b msg u c nm) u c v nm h rl d st) b (sdI S b msg u c nm)) = true then (if sdK S (sdI S b msg u c nm) u c v nm h rl d st = true then (sdI S b msg u c nm, pI S 26 0 (S.1 26 0 + 1)) else (S.1 8 0, (sRuns (sdT S b msg u c v nm h rl d st)).2)) else (0, S))
def okPP (S : ST) (k u : Int) : Bool := okP S k && okP S u
def okJ (S : ST) (k u : Int) : Bool := okPP S k u && sJoin S k u
def pJoin (S : ST) (k u : Int) : Int × ST := (sGo (okPP S k u) (okJ S k u) true, if (okPP S k u && okJ S k u && true) = true then (sRuns (pI (pI S 21 k u) 21 u k)).2 else S)
def okW (S : ST) (k : Int) : Bool := okP S k && !sEnds S k
def pWith (S : ST) (k : Int) : Int × Int × ST := (sGo (okP S k) (okW S k) true, if (okP S k && okW S k && true) = true then (sRetN S k, (sRuns (sRet S k)).2) else (0, S))
def okF (S : ST) (k : Int) : Bool := okP S k && decide (S.1 18 k = 1)
def pRefu (S : ST) (k : Int) : Int × Int × ST := (sGo (okP S k) (okF S k) true, if (okP S k && okF S k && true) = true then (sRetN S k, (sRuns (sRet S k)).2) else (0, S))
def okR1 (S : ST) (k y : Int) : Bool := okP S k && sIn y 0 3
def okR2 (S : ST) (k y : Int) : Bool := okR1 S k y && decide (S.1 18 k = 1) && !decide (S.1 20 k = y)
def pRel (S : ST) (k y : Int) : Int × Int × ST := (sGo (okR1 S k y) (okR2 S k y) true, if (okR1 S k y && okR2 S k y && true) = true then (if S.1 20 k = -1 then (0, pI (pI S 20 k y) 40 k y) else (1, (sRuns (pI (sEnter (pI S 19 k 1) k) 40 k y)).2)) else (0, S))
def sOff (S : ST) (c : Int) : Int × ST := if sOpen S c (S.1 0 0) = true then sRedS S (offI S c) c true else (0, S)
def pOff (S : ST) (c : Int) : Int × Int × ST := (sGo (sIn c 0 2) true true, if (sIn c 0 2 && true && true) = true then ((sOff S c).1, (sRuns (sOff S c).2).2) else (0, S))
def okC (S : ST) (k : Int) : Bool := okP S k && decide (S.1 18 k = 4) && decide (S.1 0 0 ≤ S.1 22 k + 3) && decide (S.1 23 k = -1)
def pRec (S : ST) (k : Int) : Int × Int × ST := (sGo (okP S k) (okC S k) true, if (okP S k && okC S k && true) = true then (S.1 0 0 + 2, pI (pI S 23 k (S.1 0 0)) 42 k (S.1 0 0 + 2)) else (0, S))
def okA (S : ST) (k : Int) (y : Bool) : Bool := okP S k && !decide (S.1 23 k = -1) && decide (S.1 24 k = 0) && decide (S.1 0 0 ≤ S.1 23 k + 2) && (!y || decide (S.1 8 0 < 60))
def anT (S : ST) (k : Int) : ST := sCome (pI S 24 k 1) (S.1 10 k) (S.1 9 k) (S.1 11 k) (S.1 12 k) 0 2 true (S.1 0 0) true
def pAns (S : ST) (k : Int) (y : Bool) : Int × Int × ST := (sGo (okP S k) (okA S k y) true, if (okP S k && okA S k y && true) = true then (if y = false then (-1, pI S 24 k 1) else (S.1 8 0, (sRuns (anT S k)).2)) else (0, S))
def pAcc (S : ST) (b c : Int) : Int × Int64 × ST := (sGo (sIn b 0 6 && sIn c 0 2) true true, if ((sIn b 0 6 && sIn c 0 2) && true && true) = true then (S.2 1 (3 * b + c), S) else (0, S))
def neB (S : ST) (c k : Int) : Bool := decide (S.2 32 (5 * k + 2) = Int64.ofInt c)
def neV (S : ST) (b c k j : Int) : Int64 := if (neB S c k && decide (S.2 32 (5 * k + j) = Int64.ofInt b)) = true then S.2 32 (5 * k + 3) else 0
def neS (S : ST) (b c k : Int) (x : Int64) : Int64 := x - neV S b c k 0 + neV S b c k 1
def sAnew (S : ST) (b c : Int) (n : Nat) : Int64 := foS (neS S b c) 0 n
def pAnew (S : ST) (b c : Int) : Int × Int64 × ST := (sGo (sIn b 0 6 && sIn c 0 2) true true, if ((sIn b 0 6 && sIn c 0 2) && true && true) = true then (sAnew S b c (S.1 31 0).toNat, S) else (0, S))
def pPaid (S : ST) (b u c : Int) : Int × Int64 × ST := (sGo (okBB b u c) true true, if (okBB b u c && true && true) = true then (S.2 4 (3 * (6 * b + u) + c), S) else (0, S))
def pStat (S : ST) (k : Int) : Int × Int × ST := (sGo (okP S k) true true, if (okP S k && true && true) = true then (S.1 18 k, S) else (0, S))
def okQ (b c p : Int) : Bool := sIn b 0 5 && sIn c 0 2 && decide (0 ≤ p)
def pQue (S : ST) (b c p : Int) : Int × Int × ST := (sGo (okQ b c p) true true, if (okQ b c p && true && true) = true then (qAt S b c p, S) else (0, S))
def pEnt (S : ST) (k j : Int) : Int × Int64 × ST := (sGo (sIn k 0 (S.1 31 0 - 1)) (sIn j 0 4) true, if (sIn k 0 (S.1 31 0 - 1) && sIn j 0 4 && true) = true then (S.2 32 (5 * k + j), S) else (0, S))
def adZ (S : ST) (b : Int) : Int := if S.1 5 b = 0 then aAt S b (S.1 29 b) else -1
def adT (S : ST) (b : Int) : Int := S.1 29 b + (if adZ S b = -1 then 0 else 1)
def adM (S : ST) (b : Int) : Int := if S.1 30 b < adT S b then adT S b else S.1 30 b
def pAdv (S : ST) (b : Int) : Int × Int × ST := (sGo (sIn b 0 5) true true, if (sIn b 0 5 && true && true) = true then (adZ S b, pI (pI S 29 b (adT S b)) 30 b (adM S b)) else (0, S))
def okG (S : ST) (b y : Int) : Bool := sIn b 0 5 && sIn y 0 (S.1 30 b)
def agK (S : ST) (b k : Int) : Int := if S.1 10 (S.1 28 k) = b then 1 else 0
def pAga (S : ST) (b y : Int) : Int × Int × ST := (sGo (sIn b 0 5) (okG S b y) true, if (sIn b 0 5 && okG S b y && true) = true then (suI (agK S b) (S.1 27 0).toNat - y, pI S 29 b y) else (0, S))
def sEndS (S : ST) : ST := sEd5 (sEd4 (sEd3 (sEd2 (sEd1 S).2)))
def pEnd (S : ST) : Int × Int × ST := (sGo (decide (S.1 0 0 < 998)) true true, if (decide (S.1 0 0 < 998) && true && true) = true then ((sEd1 S).1 + (sRuns (sEndS S)).1, (sRuns (sEndS S)).2) else (0, S))
